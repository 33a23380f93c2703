/-! Integer.bitCount's own way of counting, byte by byte -/
theorem and_split {k a m : Nat} (y n : Nat) (ha : a < 2 ^ k) (hm : m < 2 ^ k) : (2 ^ k * y + a) &&& (2 ^ k * n + m) = 2 ^ k * (y &&& n) + (a &&& m) := by
  have ham : a &&& m < 2 ^ k := Nat.lt_of_le_of_lt Nat.and_le_left ha
  apply Nat.eq_of_testBit_eq
  intro i
  rw [Nat.testBit_and, Nat.testBit_two_pow_mul_add _ ha, Nat.testBit_two_pow_mul_add _ hm, Nat.testBit_two_pow_mul_add _ ham]
  by_cases h : i < k
  · simp only [h, if_true, Nat.testBit_and]
  · simp only [h, if_false, Nat.testBit_and]
theorem pc_1 : ∀ a, a < 256 → ∀ t, t < 2 → ((a / 2 + 128 * t) &&& 85) = (a / 2) &&& 85 := by decide +kernel
theorem pc_2 : ∀ a, a < 256 → ∀ t, t < 4 → ((a / 4 + 64 * t) &&& 51) = (a / 4) &&& 51 := by decide +kernel
theorem pc_3 : ∀ a, a < 128 → ∀ t, t < 5 → ((a + a / 16 + 16 * t) &&& 15) = (a + a / 16) &&& 15 := by decide +kernel
def pcA (a : Nat) : Nat := a - ((a / 2) &&& 85)
def pcB (a : Nat) : Nat := (a &&& 51) + ((a / 4) &&& 51)
def pcC (a : Nat) : Nat := (a + a / 16) &&& 15
theorem pcA_lt : ∀ a, a < 256 → pcA a < 256 := by decide +kernel
theorem pcB_lt : ∀ a, a < 256 → pcB (pcA a) < 69 ∧ pcB (pcA a) % 16 < 5 ∧ pcB (pcA a) / 16 < 5 := by decide +kernel
theorem pcC_ct : ∀ a, a < 256 → pcC (pcB (pcA a)) = fb_ct (fun i => a.testBit i) 8 := by decide +kernel
/-- masks of n bytes -/
def pcM (m : Nat) : Nat → Nat
  | 0 => 0
  | n + 1 => 256 * pcM m n + m
theorem pcA_step (n a Y : Nat) (ha : a < 256) : (256 * Y + a) - (((256 * Y + a) / 2) &&& pcM 85 (n + 1)) = 256 * (Y - ((Y / 2) &&& pcM 85 n)) + pcA a := by
  have e : (256 * Y + a) / 2 = 2 ^ 8 * (Y / 2) + (a / 2 + 128 * (Y % 2)) := by omega
  rw [e, show pcM 85 (n + 1) = 2 ^ 8 * pcM 85 n + 85 from rfl, and_split (Y / 2) (pcM 85 n) (by omega) (by omega), pc_1 a ha _ (by omega)]
  have h1 : (Y / 2) &&& pcM 85 n ≤ Y / 2 := Nat.and_le_left
  have h2 : (a / 2) &&& 85 ≤ a / 2 := Nat.and_le_left
  unfold pcA
  omega
theorem pcB_step (n a Y : Nat) (ha : a < 256) : ((256 * Y + a) &&& pcM 51 (n + 1)) + (((256 * Y + a) / 4) &&& pcM 51 (n + 1)) = 256 * ((Y &&& pcM 51 n) + ((Y / 4) &&& pcM 51 n)) + pcB a := by
  have e : (256 * Y + a) / 4 = 2 ^ 8 * (Y / 4) + (a / 4 + 64 * (Y % 4)) := by omega
  have e0 : 256 * Y + a = 2 ^ 8 * Y + a := by omega
  rw [e, e0, show pcM 51 (n + 1) = 2 ^ 8 * pcM 51 n + 51 from rfl, and_split (Y / 4) (pcM 51 n) (by omega) (by omega), and_split Y (pcM 51 n) (by omega) (by omega), pc_2 a ha _ (by omega)]
  unfold pcB
  omega
theorem pcC_step (n a Y : Nat) (ha : a < 69) (hY : Y % 16 < 5) : ((256 * Y + a) + (256 * Y + a) / 16) &&& pcM 15 (n + 1) = 256 * ((Y + Y / 16) &&& pcM 15 n) + pcC a := by
  have e : (256 * Y + a) + (256 * Y + a) / 16 = 2 ^ 8 * (Y + Y / 16) + (a + a / 16 + 16 * (Y % 16)) := by omega
  rw [e, show pcM 15 (n + 1) = 2 ^ 8 * pcM 15 n + 15 from rfl, and_split (Y + Y / 16) (pcM 15 n) (by omega) (by omega), pc_3 a (by omega) _ hY]
  rfl
/-- four bytes -/
theorem pc_bytes (b0 b1 b2 b3 : Nat) (h0 : b0 < 256) (h1 : b1 < 256) (h2 : b2 < 256) (h3 : b3 < 256) {X i1 i2 i3 : Nat} (hX : X = 256 * (256 * (256 * (256 * 0 + b3) + b2) + b1) + b0) (e1 : i1 = X - ((X / 2) &&& 1431655765)) (e2 : i2 = (i1 &&& 858993459) + ((i1 / 4) &&& 858993459)) (e3 : i3 = (i2 + i2 / 16) &&& 252645135) :
    i3 = 256 * (256 * (256 * pcC (pcB (pcA b3)) + pcC (pcB (pcA b2))) + pcC (pcB (pcA b1))) + pcC (pcB (pcA b0)) := by
  have m1 : (1431655765 : Nat) = pcM 85 4 := by decide +kernel
  have m2 : (858993459 : Nat) = pcM 51 4 := by decide +kernel
  have m3 : (252645135 : Nat) = pcM 15 4 := by decide +kernel
  have k0 := pcB_lt b0 h0
  have k1 := pcB_lt b1 h1
  have k2 := pcB_lt b2 h2
  have k3 := pcB_lt b3 h3
  rw [hX, m1, pcA_step _ _ _ h0, pcA_step _ _ _ h1, pcA_step _ _ _ h2, pcA_step _ _ _ h3] at e1
  rw [show (0 : Nat) - ((0 / 2) &&& pcM 85 0) = 0 from rfl] at e1
  rw [e1, m2, pcB_step _ _ _ (pcA_lt b0 h0), pcB_step _ _ _ (pcA_lt b1 h1), pcB_step _ _ _ (pcA_lt b2 h2), pcB_step _ _ _ (pcA_lt b3 h3)] at e2
  rw [show ((0 : Nat) &&& pcM 51 0) + ((0 / 4) &&& pcM 51 0) = 0 from rfl] at e2
  rw [e2, m3, pcC_step _ _ _ k0.1 (by omega), pcC_step _ _ _ k1.1 (by omega), pcC_step _ _ _ k2.1 (by omega), pcC_step _ _ _ k3.1 (by omega)] at e3
  rw [show ((0 : Nat) + 0 / 16) &&& pcM 15 0 = 0 from rfl] at e3
  rw [e3]
  omega
theorem b_toNat (x : Int32) (i : Nat) : bt x i = x.toBitVec.toNat.testBit i := rfl
theorem toNat_lt (x : Int32) : x.toBitVec.toNat < 4294967296 := x.toBitVec.isLt
theorem toNat_add (x y : Int32) (h : x.toBitVec.toNat + y.toBitVec.toNat < 4294967296) : (x + y).toBitVec.toNat = x.toBitVec.toNat + y.toBitVec.toNat := by
  rw [Int32.toBitVec_add, BitVec.toNat_add, Nat.mod_eq_of_lt (by omega)]
theorem toNat_sub (x y : Int32) (h : y.toBitVec.toNat ≤ x.toBitVec.toNat) : (x - y).toBitVec.toNat = x.toBitVec.toNat - y.toBitVec.toNat := by
  have := toNat_lt x
  rw [Int32.toBitVec_sub, BitVec.toNat_sub]
  omega
theorem toNat_and (x y : Int32) : (x &&& y).toBitVec.toNat = x.toBitVec.toNat &&& y.toBitVec.toNat := by
  rw [Int32.toBitVec_and, BitVec.toNat_and]
theorem toNat_ush (x : Int32) (k : Nat) (hk : k < 32) : (ush x (nI k)).toBitVec.toNat = x.toBitVec.toNat / 2 ^ k := pk_ushr x (nI k) k (s_u k hk)
theorem toNat_nI {n : Nat} (h : n < 4294967296) : (nI n).toBitVec.toNat = n := pk_tn (by omega)
theorem and_lt {x m : Nat} : x &&& m ≤ m := Nat.and_le_right
theorem popcount (x i1 i2 i3 i4 i5 : Int32) (e1 : i1 = x - (ush x (nI 1) &&& 1431655765)) (e2 : i2 = (i1 &&& 858993459) + (ush i1 (nI 2) &&& 858993459)) (e3 : i3 = (i2 + ush i2 (nI 4)) &&& 252645135) (e4 : i4 = i3 + ush i3 (nI 8)) (e5 : i5 = i4 + ush i4 (nI 16)) : i5 &&& nI 63 = nI (pcn x) := by
  have n1 : (1431655765 : Int32).toBitVec.toNat = 1431655765 := by decide +kernel
  have n2 : (858993459 : Int32).toBitVec.toNat = 858993459 := by decide +kernel
  have n3 : (252645135 : Int32).toBitVec.toNat = 252645135 := by decide +kernel
  obtain ⟨X, hX⟩ : ∃ X, X = x.toBitVec.toNat := ⟨_, rfl⟩
  have hXl : X < 4294967296 := by rw [hX]; exact toNat_lt x
  have q1 : i1.toBitVec.toNat = X - ((X / 2) &&& 1431655765) := by
    have a1 : (X / 2) &&& 1431655765 ≤ X / 2 := Nat.and_le_left
    rw [e1, toNat_sub, toNat_and, toNat_ush x 1 (by omega), n1, ← hX]
    rw [toNat_and, toNat_ush x 1 (by omega), n1, ← hX]
    show (X / 2) &&& 1431655765 ≤ X
    omega
  have q2 : i2.toBitVec.toNat = (i1.toBitVec.toNat &&& 858993459) + ((i1.toBitVec.toNat / 4) &&& 858993459) := by
    have a1 : i1.toBitVec.toNat &&& 858993459 ≤ 858993459 := and_lt
    have a2 : (i1.toBitVec.toNat / 4) &&& 858993459 ≤ 858993459 := and_lt
    have b1 : (i1 &&& 858993459).toBitVec.toNat = i1.toBitVec.toNat &&& 858993459 := by rw [toNat_and, n2]
    have b2 : (ush i1 (nI 2) &&& 858993459).toBitVec.toNat = (i1.toBitVec.toNat / 4) &&& 858993459 := by rw [toNat_and, n2, toNat_ush i1 2 (by omega)]
    rw [e2, toNat_add _ _ (by rw [b1, b2]; omega), b1, b2]
  have q3 : i3.toBitVec.toNat = (i2.toBitVec.toNat + i2.toBitVec.toNat / 16) &&& 252645135 := by
    have a1 : i1.toBitVec.toNat &&& 858993459 ≤ 858993459 := and_lt
    have a2 : (i1.toBitVec.toNat / 4) &&& 858993459 ≤ 858993459 := and_lt
    have b2 : (ush i2 (nI 4)).toBitVec.toNat = i2.toBitVec.toNat / 16 := toNat_ush i2 4 (by omega)
    rw [e3, toNat_and, n3, toNat_add _ _ (by rw [b2]; omega), b2]
  have hb := pc_bytes (X % 256) (X / 256 % 256) (X / 65536 % 256) (X / 16777216) (by omega) (by omega) (by omega) (by omega) (X := X) (by omega) q1 q2 q3
  have c0 := pcC_ct (X % 256) (by omega)
  have c1 := pcC_ct (X / 256 % 256) (by omega)
  have c2 := pcC_ct (X / 65536 % 256) (by omega)
  have c3 := pcC_ct (X / 16777216) (by omega)
  have f0 := fb_ct_le (fun i => (X % 256).testBit i) 8
  have f1 := fb_ct_le (fun i => (X / 256 % 256).testBit i) 8
  have f2 := fb_ct_le (fun i => (X / 65536 % 256).testBit i) 8
  have f3 := fb_ct_le (fun i => (X / 16777216).testBit i) 8
  have hp : pcn x = fb_ct (fun i => (X % 256).testBit i) 8 + fb_ct (fun i => (X / 256 % 256).testBit i) 8 + fb_ct (fun i => (X / 65536 % 256).testBit i) 8 + fb_ct (fun i => (X / 16777216).testBit i) 8 := by
    unfold pcn
    rw [show (32 : Nat) = 24 + 8 from rfl, fb_ct_split, show (24 : Nat) = 16 + 8 from rfl, fb_ct_split, show (16 : Nat) = 8 + 8 from rfl, fb_ct_split]
    have t : ∀ j : Nat, bt x j = X.testBit j := fun j => by rw [b_toNat, hX]
    have g0 : fb_ct (bt x) 8 = fb_ct (fun i => (X % 256).testBit i) 8 := fb_ct_cong fun k hk => by
      rw [t, show (256 : Nat) = 2 ^ 8 from rfl, Nat.testBit_mod_two_pow]; simp [hk]
    have g1 : fb_ct (fun k => bt x (8 + k)) 8 = fb_ct (fun i => (X / 256 % 256).testBit i) 8 := fb_ct_cong fun k hk => by
      rw [t, show X / 256 % 256 = X / 2 ^ 8 % 2 ^ 8 from rfl, Nat.testBit_mod_two_pow, Nat.testBit_div_two_pow]; simp [hk, Nat.add_comm]
    have g2 : fb_ct (fun k => bt x (8 + 8 + k)) 8 = fb_ct (fun i => (X / 65536 % 256).testBit i) 8 := fb_ct_cong fun k hk => by
      rw [t, show X / 65536 % 256 = X / 2 ^ 16 % 2 ^ 8 from rfl, Nat.testBit_mod_two_pow, Nat.testBit_div_two_pow]; simp [hk, Nat.add_comm]
    have g3 : fb_ct (fun k => bt x (8 + 8 + 8 + k)) 8 = fb_ct (fun i => (X / 16777216).testBit i) 8 := fb_ct_cong fun k hk => by
      rw [t, show X / 16777216 = X / 2 ^ 24 from rfl, Nat.testBit_div_two_pow]; simp [Nat.add_comm]
    rw [g0, g1, g2, g3]
  rw [c0, c1, c2, c3] at hb
  obtain ⟨p0, hp0⟩ : ∃ p, p = fb_ct (fun i => (X % 256).testBit i) 8 := ⟨_, rfl⟩
  obtain ⟨p1, hp1⟩ : ∃ p, p = fb_ct (fun i => (X / 256 % 256).testBit i) 8 := ⟨_, rfl⟩
  obtain ⟨p2, hp2⟩ : ∃ p, p = fb_ct (fun i => (X / 65536 % 256).testBit i) 8 := ⟨_, rfl⟩
  obtain ⟨p3, hp3⟩ : ∃ p, p = fb_ct (fun i => (X / 16777216).testBit i) 8 := ⟨_, rfl⟩
  rw [← hp0, ← hp1, ← hp2, ← hp3] at hb hp
  rw [← hp0] at f0
  rw [← hp1] at f1
  rw [← hp2] at f2
  rw [← hp3] at f3
  have r4 : i4.toBitVec.toNat = i3.toBitVec.toNat + i3.toBitVec.toNat / 256 := by
    have b2 : (ush i3 (nI 8)).toBitVec.toNat = i3.toBitVec.toNat / 256 := toNat_ush i3 8 (by omega)
    rw [e4, toNat_add _ _ (by rw [b2]; omega), b2]
  have r5 : i5.toBitVec.toNat = i4.toBitVec.toNat + i4.toBitVec.toNat / 65536 := by
    have b2 : (ush i4 (nI 16)).toBitVec.toNat = i4.toBitVec.toNat / 65536 := toNat_ush i4 16 (by omega)
    rw [e5, toNat_add _ _ (by rw [b2]; omega), b2]
  have w3 : i3.toBitVec.toNat = 16777216 * p3 + 65536 * p2 + 256 * p1 + p0 := by omega
  have d3 : i3.toBitVec.toNat / 256 = 65536 * p3 + 256 * p2 + p1 := by omega
  have w4 : i4.toBitVec.toNat = 16777216 * p3 + 65536 * (p2 + p3) + 256 * (p1 + p2) + (p0 + p1) := by omega
  have d4 : i4.toBitVec.toNat / 65536 = 256 * p3 + (p2 + p3) := by omega
  have w5 : i5.toBitVec.toNat = 64 * (262144 * p3 + 1024 * (p2 + p3) + 4 * (p1 + p2 + p3)) + (p0 + p1 + p2 + p3) := by omega
  have hfin : i5.toBitVec.toNat % 64 = pcn x := by rw [hp, w5, Nat.mul_add_mod, Nat.mod_eq_of_lt (by omega)]
  rw [pk_and i5 (m := nI 63) 6 (by decide +kernel), ← hfin]
