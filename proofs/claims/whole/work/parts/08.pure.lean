/-! ===== Int32 by its bits: bt x i ===== -/
def bt (x : Int32) (i : Nat) : Bool := x.toBitVec.getLsbD i
theorem b_ext {x y : Int32} (h : ∀ i, i < 32 → bt x i = bt y i) : x = y := Int32.toBitVec_inj.mp (BitVec.eq_of_getLsbD_eq (fun i hi => h i hi))
theorem b_or (x y : Int32) (i : Nat) : bt (x ||| y) i = (bt x i || bt y i) := by unfold bt; rw [Int32.toBitVec_or, BitVec.getLsbD_or]
theorem b_and (x y : Int32) (i : Nat) : bt (x &&& y) i = (bt x i && bt y i) := by unfold bt; rw [Int32.toBitVec_and, BitVec.getLsbD_and]
theorem b_xor (x y : Int32) (i : Nat) : bt (x ^^^ y) i = (bt x i ^^ bt y i) := by unfold bt; rw [Int32.toBitVec_xor, BitVec.getLsbD_xor]
theorem b_big {x : Int32} {i : Nat} (h : 32 ≤ i) : bt x i = false := BitVec.getLsbD_of_ge _ _ h
theorem b_255 (i : Nat) : bt 255 i = decide (i < 8) := by
  rcases Nat.lt_or_ge i 32 with h | h
  · exact (by decide +kernel : ∀ i, i < 32 → bt 255 i = decide (i < 8)) i h
  · rw [b_big h, decide_eq_false (by omega)]
theorem b_65535 (i : Nat) : bt 65535 i = decide (i < 16) := by
  rcases Nat.lt_or_ge i 32 with h | h
  · exact (by decide +kernel : ∀ i, i < 32 → bt 65535 i = decide (i < 16)) i h
  · rw [b_big h, decide_eq_false (by omega)]
theorem b_m1 : ∀ i, i < 32 → bt (-1) i = true := by decide +kernel
theorem b_0 (i : Nat) : bt 0 i = false := BitVec.getLsbD_zero
theorem s_l : ∀ n, n < 32 → ((nI n &&& 31).toBitVec.smod 32).toNat = n := by decide +kernel
theorem s_u : ∀ n, n < 32 → (((nI n).toUInt32 &&& Int32.toUInt32 31).toBitVec % 32).toNat = n := by decide +kernel
theorem b_shl (n : Nat) (hn : n < 32) (x : Int32) {i : Nat} (hi : i < 32) : bt (x <<< (nI n &&& 31)) i = (decide (n ≤ i) && bt x (i - n)) := by
  unfold bt
  rw [Int32.toBitVec_shiftLeft]
  show (x.toBitVec <<< ((nI n &&& 31).toBitVec.smod 32).toNat).getLsbD i = _
  rw [s_l n hn, BitVec.getLsbD_shiftLeft]
  rcases Nat.lt_or_ge i n with h | h
  · simp [h, Nat.not_le.mpr h]
  · simp [hi, h, Nat.not_lt.mpr h]
theorem b_ushr (n : Nat) (hn : n < 32) (x : Int32) (i : Nat) : bt ((x.toUInt32 >>> ((nI n).toUInt32 &&& Int32.toUInt32 31)).toInt32) i = bt x (n + i) := by
  show (x.toUInt32 >>> ((nI n).toUInt32 &&& Int32.toUInt32 31)).toBitVec.getLsbD i = x.toUInt32.toBitVec.getLsbD (n + i)
  rw [UInt32.toBitVec_shiftRight]
  show (x.toUInt32.toBitVec >>> (((nI n).toUInt32 &&& Int32.toUInt32 31).toBitVec % 32).toNat).getLsbD i = _
  rw [s_u n hn, BitVec.getLsbD_ushiftRight]
theorem b_sshr (n : Nat) (hn : n < 32) (x : Int32) {i : Nat} (hi : i < 32) : bt (x >>> (nI n &&& 31)) i = if n + i < 32 then bt x (n + i) else bt x 31 := by
  unfold bt
  rw [Int32.toBitVec_shiftRight]
  show (x.toBitVec.sshiftRight ((nI n &&& 31).toBitVec.smod 32).toNat).getLsbD i = _
  rw [s_l n hn, BitVec.getLsbD_sshiftRight, BitVec.msb_eq_getLsbD_last]
  simp [hi]
/-! ===== how many places have a property ===== -/
def fb_ct (p : Nat → Bool) : Nat → Nat
  | 0 => 0
  | n + 1 => fb_ct p n + (if p n then 1 else 0)
theorem fb_ct_succ (p : Nat → Bool) (n : Nat) : fb_ct p (n + 1) = fb_ct p n + (if p n then 1 else 0) := rfl
theorem fb_ct_le (p : Nat → Bool) : ∀ n, fb_ct p n ≤ n
  | 0 => Nat.le_refl _
  | n + 1 => by
    have h := fb_ct_le p n
    rw [fb_ct_succ]
    split <;> omega
theorem fb_ct_step (p : Nat → Bool) (m : Nat) : ∀ n, fb_ct p m ≤ fb_ct p (m + n)
  | 0 => Nat.le_refl _
  | n + 1 => by
    have h := fb_ct_step p m n
    show fb_ct p m ≤ fb_ct p (m + n + 1)
    rw [fb_ct_succ]
    omega
theorem fb_ct_mono (p : Nat → Bool) {m n : Nat} (h : m ≤ n) : fb_ct p m ≤ fb_ct p n := by
  have := fb_ct_step p m (n - m)
  rwa [Nat.add_sub_cancel' h] at this
theorem fb_ct_cong {p q : Nat → Bool} : ∀ {n : Nat}, (∀ k, k < n → p k = q k) → fb_ct p n = fb_ct q n
  | 0, _ => rfl
  | n + 1, h => by
    rw [fb_ct_succ, fb_ct_succ, fb_ct_cong (fun k hk => h k (by omega)), h n (by omega)]
/-- one place changed -/
theorem fb_ct_out (p : Nat → Bool) (b : Bool) {i n : Nat} (h : n ≤ i) : fb_ct (fun k => if k = i then b else p k) n = fb_ct p n :=
  fb_ct_cong fun k hk => if_neg (by omega)
theorem fb_ct_upd (p : Nat → Bool) (b : Bool) {i : Nat} : ∀ {n : Nat}, i < n → fb_ct (fun k => if k = i then b else p k) n + (if p i then 1 else 0) = fb_ct p n + (if b then 1 else 0)
  | 0, h => absurd h (Nat.not_lt_zero i)
  | n + 1, h => by
    rw [fb_ct_succ, fb_ct_succ]
    rcases Nat.lt_or_ge i n with q | q
    · have := fb_ct_upd p b q
      have e : (if n = i then b else p n) = p n := if_neg (by omega)
      rw [e]
      omega
    · have e : i = n := by omega
      subst e
      rw [fb_ct_out p b (Nat.le_refl _)]
      simp only [if_true]
      omega
theorem fb_ct_sub {p q : Nat → Bool} : ∀ {n : Nat}, (∀ k, k < n → p k = true → q k = true) → fb_ct p n ≤ fb_ct q n
  | 0, _ => Nat.le_refl _
  | n + 1, h => by
    have h1 := fb_ct_sub (n := n) (p := p) (q := q) (fun k hk => h k (by omega))
    have h2 := h n (by omega)
    rw [fb_ct_succ, fb_ct_succ]
    cases hp : p n <;> cases hq : q n <;> simp_all <;> omega
theorem fb_ct_or {p q : Nat → Bool} : ∀ {n : Nat}, (∀ k, k < n → ¬ (p k = true ∧ q k = true)) → fb_ct (fun k => p k || q k) n = fb_ct p n + fb_ct q n
  | 0, _ => rfl
  | n + 1, h => by
    have h1 := fb_ct_or (n := n) (p := p) (q := q) (fun k hk => h k (by omega))
    have h2 := h n (by omega)
    rw [fb_ct_succ, fb_ct_succ, fb_ct_succ, h1]
    cases hp : p n <;> cases hq : q n <;> simp_all <;> omega
theorem fb_ct_not (p : Nat → Bool) : ∀ n, fb_ct p n + fb_ct (fun k => !p k) n = n
  | 0 => rfl
  | n + 1 => by
    have h := fb_ct_not p n
    rw [fb_ct_succ, fb_ct_succ]
    cases p n <;> simp <;> omega
theorem fb_ct_split (p : Nat → Bool) (m : Nat) : ∀ n, fb_ct p (m + n) = fb_ct p m + fb_ct (fun k => p (m + k)) n
  | 0 => rfl
  | n + 1 => by
    have h := fb_ct_split p m n
    show fb_ct p (m + n + 1) = _
    rw [fb_ct_succ, fb_ct_succ, h, Nat.add_assoc]
theorem fb_ct_zero {p : Nat → Bool} : ∀ {n : Nat}, fb_ct p n = 0 ↔ ∀ k, k < n → p k = false
  | 0 => ⟨fun _ k hk => absurd hk (Nat.not_lt_zero k), fun _ => rfl⟩
  | n + 1 => by
    have h := fb_ct_zero (p := p) (n := n)
    rw [fb_ct_succ]
    constructor
    · intro e k hk
      have e1 : fb_ct p n = 0 := by omega
      rcases Nat.lt_or_ge k n with q | q
      · exact h.mp e1 k q
      · have ek : k = n := by omega
        subst ek
        cases hp : p k
        · rfl
        · simp [hp] at e
    · intro a
      rw [h.mpr (fun k hk => a k (by omega)), a n (by omega)]
      rfl
theorem fb_ct_pos {p : Nat → Bool} {n : Nat} : 0 < fb_ct p n ↔ ∃ k, k < n ∧ p k = true := by
  constructor
  · intro h
    refine Classical.byContradiction fun hx => ?_
    have := fb_ct_zero.mpr (fun k hk => by
      cases hp : p k
      · rfl
      · exact absurd ⟨k, hk, hp⟩ hx : ∀ k, k < n → p k = false)
    omega
  · rintro ⟨k, hk, hp⟩
    rcases Nat.eq_zero_or_pos (fb_ct p n) with e | e
    · have := fb_ct_zero.mp e k hk
      rw [this] at hp
      cases hp
    · exact e
theorem fb_ct_all {p : Nat → Bool} {n : Nat} : fb_ct p n = n ↔ ∀ k, k < n → p k = true := by
  have h := fb_ct_not p n
  constructor
  · intro e k hk
    have z : fb_ct (fun k => !p k) n = 0 := by omega
    have := fb_ct_zero.mp z k hk
    cases hp : p k
    · simp [hp] at this
    · rfl
  · intro a
    have z : fb_ct (fun k => !p k) n = 0 := fb_ct_zero.mpr (fun k hk => by simp [a k hk])
    omega
/-- the k-th place with the property -/
theorem fb_ct_kth {p : Nat → Bool} {k : Nat} : ∀ {n : Nat}, k < fb_ct p n → ∃ i, i < n ∧ p i = true ∧ fb_ct p i = k
  | 0, h => absurd h (Nat.not_lt_zero k)
  | n + 1, h => by
    rcases Nat.lt_or_ge k (fb_ct p n) with q | q
    · obtain ⟨i, h1, h2⟩ := fb_ct_kth q
      exact ⟨i, by omega, h2⟩
    · rw [fb_ct_succ] at h
      cases hp : p n
      · simp [hp] at h; omega
      · simp [hp] at h
        exact ⟨n, by omega, hp, by omega⟩
theorem fb_ct_kth_one {p : Nat → Bool} {i j : Nat} (hi : p i = true) (hj : p j = true) (e : fb_ct p i = fb_ct p j) : i = j := by
  have key : ∀ a b : Nat, a < b → p a = true → fb_ct p a < fb_ct p b := by
    intro a b hab ha
    have h := fb_ct_mono p (show a + 1 ≤ b from hab)
    rw [fb_ct_succ, ha] at h
    simp at h
    omega
  rcases Nat.lt_trichotomy i j with q | q | q
  · have := key i j q hi; omega
  · exact q
  · have := key j i q hj; omega
/-! ===== sums over a range: one place changed, parts, bounds ===== -/
def fb_sm (f : Nat → Nat) : Nat → Nat
  | 0 => 0
  | n + 1 => fb_sm f n + f n
theorem fb_sm_succ (f : Nat → Nat) (n : Nat) : fb_sm f (n + 1) = fb_sm f n + f n := rfl
theorem fb_sm_cong {f g : Nat → Nat} : ∀ {n : Nat}, (∀ k, k < n → f k = g k) → fb_sm f n = fb_sm g n
  | 0, _ => rfl
  | n + 1, h => by rw [fb_sm_succ, fb_sm_succ, fb_sm_cong (fun k hk => h k (by omega)), h n (by omega)]
theorem fb_sm_out (f : Nat → Nat) (v : Nat) {i n : Nat} (h : n ≤ i) : fb_sm (fun k => if k = i then v else f k) n = fb_sm f n :=
  fb_sm_cong fun k hk => if_neg (by omega)
theorem fb_sm_upd (f : Nat → Nat) (v : Nat) {i : Nat} : ∀ {n : Nat}, i < n → fb_sm (fun k => if k = i then v else f k) n + f i = fb_sm f n + v
  | 0, h => absurd h (Nat.not_lt_zero i)
  | n + 1, h => by
    rw [fb_sm_succ, fb_sm_succ]
    rcases Nat.lt_or_ge i n with q | q
    · have := fb_sm_upd f v q
      have e : (if n = i then v else f n) = f n := if_neg (by omega)
      rw [e]
      omega
    · have e : i = n := by omega
      subst e
      rw [fb_sm_out f v (Nat.le_refl _)]
      simp only [if_true]
      omega
theorem fb_sm_add (f g : Nat → Nat) : ∀ n, fb_sm (fun k => f k + g k) n = fb_sm f n + fb_sm g n
  | 0 => rfl
  | n + 1 => by
    have h := fb_sm_add f g n
    rw [fb_sm_succ, fb_sm_succ, fb_sm_succ, h]
    omega
theorem fb_sm_le {f g : Nat → Nat} : ∀ {n : Nat}, (∀ k, k < n → f k ≤ g k) → fb_sm f n ≤ fb_sm g n
  | 0, _ => Nat.le_refl _
  | n + 1, h => by
    have h1 := fb_sm_le (n := n) (f := f) (g := g) (fun k hk => h k (by omega))
    have h2 := h n (by omega)
    rw [fb_sm_succ, fb_sm_succ]
    omega
theorem fb_sm_const (c : Nat) : ∀ n, fb_sm (fun _ => c) n = n * c
  | 0 => by rw [Nat.zero_mul]; rfl
  | n + 1 => by rw [fb_sm_succ, fb_sm_const c n, Nat.succ_mul]
theorem fb_sm_bound {f : Nat → Nat} {c n : Nat} (h : ∀ k, k < n → f k ≤ c) : fb_sm f n ≤ n * c := by
  rw [← fb_sm_const c n]
  exact fb_sm_le h
theorem fb_sm_mono (f : Nat → Nat) (m : Nat) : ∀ n, fb_sm f m ≤ fb_sm f (m + n)
  | 0 => Nat.le_refl _
  | n + 1 => by
    have h := fb_sm_mono f m n
    show fb_sm f m ≤ fb_sm f (m + n + 1)
    rw [fb_sm_succ]
    omega
theorem fb_sm_part (f : Nat → Nat) {i n : Nat} (h : i < n) : fb_sm f i + f i ≤ fb_sm f n := by
  have := fb_sm_mono f (i + 1) (n - (i + 1))
  rw [fb_sm_succ, show i + 1 + (n - (i + 1)) = n by omega] at this
  exact this
theorem fb_sm_split (f : Nat → Nat) (m : Nat) : ∀ n, fb_sm f (m + n) = fb_sm f m + fb_sm (fun k => f (m + k)) n
  | 0 => rfl
  | n + 1 => by
    have h := fb_sm_split f m n
    show fb_sm f (m + n + 1) = _
    rw [fb_sm_succ, fb_sm_succ, h, Nat.add_assoc]
theorem fb_sm_zero {f : Nat → Nat} {n : Nat} (h : fb_sm f n = 0) : ∀ k, k < n → f k = 0 := fun k hk => by
  have := fb_sm_part f hk
  omega
/-! of my own -/
theorem nI_lit0 : nI 0 = 0 := nI_0
theorem nI_lit1 : nI 1 = 1 := by decide +kernel
/-- an int out of its bits -/
def mk (f : Nat → Bool) : Nat → Int32
  | 0 => 0
  | k + 1 => mk f k ||| (bif f k then (1 : Int32) <<< (nI k &&& 31) else 0)
theorem b_1 (i : Nat) : bt 1 i = decide (i = 0) := by
  rcases Nat.lt_or_ge i 32 with h | h
  · exact (by decide +kernel : ∀ i, i < 32 → bt 1 i = decide (i = 0)) i h
  · rw [b_big h]; simp; omega
theorem b_one (k : Nat) (hk : k < 32) (i : Nat) : bt ((1 : Int32) <<< (nI k &&& 31)) i = decide (i = k) := by
  rcases Nat.lt_or_ge i 32 with h | h
  · rw [b_shl k hk _ h, b_1]
    by_cases e : i = k
    · subst e; simp
    · simp only [e, decide_false]
      by_cases e2 : k ≤ i
      · have : ¬ (i - k = 0) := by omega
        simp [this]
      · simp [e2]
  · rw [b_big h]; simp; omega
theorem b_mk (f : Nat → Bool) : ∀ (k : Nat), k ≤ 32 → ∀ i, bt (mk f k) i = (decide (i < k) && f i)
  | 0, _, i => by rw [mk, b_0]; simp
  | k + 1, hk, i => by
    rw [mk, b_or, b_mk f k (by omega)]
    have e : bt (bif f k then (1 : Int32) <<< (nI k &&& 31) else 0) i = (f k && decide (i = k)) := by
      cases hf : f k with
      | true => simp only [cond_true, Bool.true_and]; exact b_one k (by omega) i
      | false => simp only [cond_false, Bool.false_and]; exact b_0 i
    rw [e]
    by_cases h1 : i = k
    · subst h1; simp
    · by_cases h2 : i < k
      · have : i < k + 1 := by omega
        simp [h1, h2, this]
      · have : ¬ i < k + 1 := by omega
        simp [h1, h2, this]
theorem mk_of {x : Int32} {f : Nat → Bool} (h : ∀ i, i < 32 → bt x i = f i) : x = mk f 32 := b_ext fun i hi => by rw [h i hi, b_mk f 32 (by omega)]; simp [hi]
theorem mk_cong {f g : Nat → Bool} : ∀ {k : Nat}, (∀ i, i < k → f i = g i) → mk f k = mk g k
  | 0, _ => rfl
  | k + 1, h => by rw [mk, mk, mk_cong (fun i hi => h i (by omega)), h k (by omega)]
/-- how many bits are set -/
def pcn (x : Int32) : Nat := fb_ct (bt x) 32
theorem pcn_le (x : Int32) : pcn x ≤ 32 := fb_ct_le _ 32
theorem x_bit (x : Int32) (c : Nat) (hc : c < 32) : (x >>> (nI c &&& 31)) &&& 1 = bI (bt x c) := by
  apply b_ext
  intro i hi
  rw [b_and, b_sshr c hc x hi, b_1]
  by_cases h : i = 0
  · subst h
    simp only [decide_true, Bool.and_true, Nat.add_zero, hc, if_true]
    cases bt x c <;> rfl
  · simp only [h, decide_false, Bool.and_false]
    cases bt x c
    · exact (b_0 i).symm
    · show false = bt 1 i
      rw [b_1]; simp [h]
theorem u_bit (x : Int32) (c : Nat) (hc : c < 32) : ush x (nI c) &&& 1 = bI (bt x c) := by
  apply b_ext
  intro i hi
  unfold ush
  rw [b_and, b_ushr c hc x i, b_1]
  by_cases h : i = 0
  · subst h
    simp only [decide_true, Bool.and_true, Nat.add_zero]
    cases bt x c <;> rfl
  · simp only [h, decide_false, Bool.and_false]
    cases bt x c
    · exact (b_0 i).symm
    · show false = bt 1 i
      rw [b_1]; simp [h]
theorem bI_t : bI true = 1 := rfl
theorem bI_f : bI false = 0 := rfl
theorem bI_1 (b : Bool) : bI b = nI 1 ↔ b = true := by cases b <;> decide +kernel
theorem bI_b (b : Bool) (i : Nat) : bt (bI b) i = (b && decide (i = 0)) := by
  cases b
  · exact b_0 i
  · rw [bI_t, b_1]; simp
/-- the j-th set bit -/
def nthF (x : Int32) (j : Nat) : Nat → Nat → Int32
  | 0, _ => -9
  | f + 1, c => if bt x c = true then (if fb_ct (bt x) c = j then nI c else nthF x j f (c + 1)) else nthF x j f (c + 1)
def nth (x : Int32) (j : Nat) : Int32 := nthF x j 32 0
def tn (x : Int32) : Nat := x.toNatClampNeg
theorem tn_nI {a : Nat} (h : a < 2147483648) : tn (nI a) = a := nI_clamp (by omega)
theorem zr0 : nI 0 = 0 ∨ nI 0 = 1 := Or.inl nI_0
theorem zr1 : nI 1 = 0 ∨ nI 1 = 1 := Or.inr nI_lit1
theorem sr_sr (S : St) (k : Nat) (r r' : Nat → Int32) : sr (sr S k r) k r' = sr S k r' := by
  funext j
  unfold sr
  by_cases h : j = k <;> simp [h]
theorem st_n (S : St) (k i : Nat) (x : Int32) : st S k i x = sr S k (upd (S k) i x) := rfl
theorem st_sr (S : St) (k i : Nat) (r : Nat → Int32) (x : Int32) : st (sr S k r) k i x = sr S k (upd r i x) := by rw [st_n, sr_s, sr_sr]
theorem sr_self (S : St) (k : Nat) : sr S k (S k) = S := by
  funext j
  unfold sr
  by_cases h : j = k
  · simp [h]
  · simp [h]
theorem upd_s (f : Nat → Int32) (k : Nat) (x : Int32) : upd f k x k = x := if_pos rfl
theorem upd_n {f : Nat → Int32} {k j : Nat} {x : Int32} (h : j ≠ k) : upd f k x j = f j := if_neg h
theorem nI_neg {c : Nat} (h : c < 2147483648) {x : Int32} (hx : x < 0) : ¬ nI c = x := by
  intro e
  have := nI_pos (n := c) (by omega)
  rw [e] at this
  exact this hx
theorem m9_neg : (-9 : Int32) < 0 := by decide +kernel
theorem lt_not {a b : Int32} : ¬ a < b ↔ b ≤ a := Int32.not_lt
theorem le_not {a b : Int32} : ¬ a ≤ b ↔ b < a := Int32.not_le
/-- a number below n -/
def isS (n : Nat) (q : Int32) : Bool := decide (0 ≤ q) && decide (q < nI n)
theorem isS_iff {n : Nat} (hn : n < 2147483648) {q : Int32} : isS n q = true ↔ ∃ j : Nat, j < n ∧ q = nI j := by
  unfold isS
  rw [Bool.and_eq_true, decide_eq_true_eq, decide_eq_true_eq]
  constructor
  · rintro ⟨h1, h2⟩
    rcases pk_ix q (n := n) (by omega) with h | h | h
    · exact absurd h (Int32.not_lt.mpr h1)
    · exact absurd h2 (Int32.not_lt.mpr h)
    · exact h
  · rintro ⟨j, h1, rfl⟩
    exact ⟨nI_pos' (by omega), nI_lt h1 (by omega)⟩
theorem isS_le {n : Nat} (h0 : 0 < n) (hn : n < 2147483648) (q : Int32) : (decide (nI 0 ≤ q) && decide (q ≤ nI (n - 1))) = isS n q := by
  have e : (q ≤ nI (n - 1)) ↔ q < nI n := by
    rw [Int32.le_iff_toInt_le, Int32.lt_iff_toInt_lt, nI_toInt (by omega), nI_toInt (by omega)]
    omega
  unfold isS
  rw [nI_0]
  congr 1
  exact decide_eq_decide.mpr e
theorem isS_in {n : Nat} (hn : n < 2147483647) (q : Int32) : (decide (nI 0 ≤ q) && decide (q ≤ nI n)) = isS (n + 1) q := by
  have h := isS_le (n := n + 1) (by omega) (by omega) q
  rw [Nat.add_sub_cancel] at h
  exact h
/-- a way: from whom to whom -/
def isW (n : Nat) (x y : Int32) : Bool := isS n y && isS (n + 1) x && decide (¬ x = y)
theorem bI_shl (b : Bool) (s : Int32) : bI b <<< s = bif b then (1 : Int32) <<< s else 0 := by
  cases b
  · show (0 : Int32) <<< s = 0
    apply Int32.toBitVec_inj.mp
    simp
  · rfl
theorem zero_or (x : Int32) : (0 : Int32) ||| x = x := b_ext fun i _ => by rw [b_or, b_0]; simp
theorem or_zero (x : Int32) : x ||| (0 : Int32) = x := b_ext fun i _ => by rw [b_or, b_0]; simp
/-- unions -/
def orF (f : Nat → Int32) : Nat → Int32
  | 0 => 0
  | k + 1 => orF f k ||| f k
theorem b_orF (f : Nat → Int32) (c : Nat) : ∀ (k : Nat), bt (orF f k) c = true ↔ ∃ j, j < k ∧ bt (f j) c = true
  | 0 => by rw [orF, b_0]; simp
  | k + 1 => by
    rw [orF, b_or, Bool.or_eq_true, b_orF f c k]
    constructor
    · rintro (⟨j, h1, h2⟩ | h)
      · exact ⟨j, by omega, h2⟩
      · exact ⟨k, by omega, h⟩
    · rintro ⟨j, h1, h2⟩
      by_cases e : j = k
      · subst e; exact Or.inr h2
      · exact Or.inl ⟨j, by omega, h2⟩
theorem pow_all {n : Nat} (h2 : 2 ≤ n) (h4 : n ≤ 4) : ((nI 1 <<< (nI n &&& 31)) - nI 1 : Int32) = nI (2 ^ n - 1) := by
  rcases (show n = 2 ∨ n = 3 ∨ n = 4 by omega) with rfl | rfl | rfl <;> decide +kernel
theorem pow_sh {n : Nat} (h2 : 2 ≤ n) (h4 : n ≤ 4) : (nI 1 <<< (nI n &&& 31) : Int32) = nI (2 ^ n) := by
  rcases (show n = 2 ∨ n = 3 ∨ n = 4 by omega) with rfl | rfl | rfl <;> decide +kernel
theorem sm_b {f : Nat → Nat} {c n : Nat} (h : ∀ k, k < n → f k ≤ c) : fb_sm f n ≤ n * c := by
  have h1 := fb_sm_le h
  rw [fb_sm_const] at h1
  exact h1
theorem mk_skip {f : Nat → Bool} {a : Nat} : ∀ {b : Nat}, (∀ i, a ≤ i → i < a + b → f i = false) → mk f (a + b) = mk f a
  | 0, _ => rfl
  | b + 1, h => by
    rw [← Nat.add_assoc, mk, h (a + b) (by omega) (by omega), mk_skip (fun i h1 h2 => h i h1 (by omega))]
    exact or_zero _
/-- how far a property holds from the first place on -/
def ldF (p : Nat → Bool) : Nat → Nat → Nat
  | 0, k => k
  | f + 1, k => if p k = true then ldF p f (k + 1) else k
def lead (p : Nat → Bool) (n : Nat) : Nat := ldF p n 0
theorem ldF_le (p : Nat → Bool) : ∀ f k, ldF p f k ≤ k + f
  | 0, k => Nat.le_refl _
  | f + 1, k => by
    rw [ldF]
    by_cases h : p k = true
    · rw [if_pos h]; have := ldF_le p f (k + 1); omega
    · rw [if_neg h]; omega
theorem ldF_ge (p : Nat → Bool) : ∀ f k, k ≤ ldF p f k
  | 0, k => Nat.le_refl _
  | f + 1, k => by
    rw [ldF]
    by_cases h : p k = true
    · rw [if_pos h]; have := ldF_ge p f (k + 1); omega
    · rw [if_neg h]; omega
theorem ldF_all (p : Nat → Bool) : ∀ f k i, k ≤ i → i < ldF p f k → p i = true
  | 0, k, i, h1, h2 => by rw [ldF] at h2; omega
  | f + 1, k, i, h1, h2 => by
    rw [ldF] at h2
    by_cases h : p k = true
    · rw [if_pos h] at h2
      by_cases e : i = k
      · subst e; exact h
      · exact ldF_all p f (k + 1) i (by omega) h2
    · rw [if_neg h] at h2; omega
theorem ldF_stop (p : Nat → Bool) : ∀ f k, ldF p f k < k + f → p (ldF p f k) = false
  | 0, k, h => by rw [ldF] at h; omega
  | f + 1, k, h => by
    rw [ldF] at h ⊢
    by_cases e : p k = true
    · rw [if_pos e] at h ⊢
      exact ldF_stop p f (k + 1) (by omega)
    · rw [if_neg e]
      simpa using e
theorem lead_le (p : Nat → Bool) (n : Nat) : lead p n ≤ n := by have := ldF_le p n 0; unfold lead; omega
theorem lead_all {p : Nat → Bool} {n i : Nat} (h : i < lead p n) : p i = true := ldF_all p n 0 i (Nat.zero_le _) h
theorem lead_stop {p : Nat → Bool} {n : Nat} (h : lead p n < n) : p (lead p n) = false := ldF_stop p n 0 (by unfold lead at h; omega)
theorem lead_max {p : Nat → Bool} {n k : Nat} (hk : k ≤ n) (h : ∀ i, i < k → p i = true) : k ≤ lead p n := by
  rcases Nat.lt_or_ge (lead p n) k with q | q
  · have := lead_stop (p := p) (n := n) (by omega)
    rw [h _ q] at this
    cases this
  · exact q
theorem isS_nat {n x : Nat} (hn : n < 2147483648) (hx : x < 2147483648) : isS n (nI x) = decide (x < n) := by
  by_cases h : x < n
  · rw [decide_eq_true h]
    exact (isS_iff hn).mpr ⟨x, h, rfl⟩
  · rw [decide_eq_false h]
    cases e : isS n (nI x) with
    | false => rfl
    | true =>
      obtain ⟨j, h1, h2⟩ := (isS_iff hn).mp e
      exact absurd ((nI_eq (by omega) (by omega)).mp h2) (by omega)
theorem st_st (S : St) (k i : Nat) (x y : Int32) : st (st S k i x) k i y = st S k i y := by
  rw [st_n S, st_sr, st_n]
  congr 1
  funext j
  unfold upd
  by_cases h : j = i <;> simp [h]
theorem sr_st {S : St} {k k' i : Nat} {r : Nat → Int32} {x : Int32} (h : k ≠ k') : sr (st S k i x) k' r = st (sr S k' r) k i x := by
  funext j
  unfold st sr
  by_cases h1 : j = k'
  · have h2 : ¬ j = k := fun e => h (e.symm.trans h1)
    rw [if_pos h1, if_neg h2, if_pos h1]
  · rw [if_neg h1]
    dsimp only
    by_cases h2 : j = k
    · rw [if_pos h2, if_pos h2, if_neg h]
    · rw [if_neg h2, if_neg h2, if_neg h1]
/-- a stretch written over, one place more -/
theorem seg_upd (g base : Nat → Int32) (a k : Nat) {v : Int32} (hv : v = g k) : upd (fun i => if a ≤ i ∧ i < a + k then g (i - a) else base i) (a + k) v = fun i => if a ≤ i ∧ i < a + (k + 1) then g (i - a) else base i := by
  subst hv
  funext i
  unfold upd
  by_cases h : i = a + k
  · rw [if_pos h, if_pos (by omega), h, Nat.add_sub_cancel_left]
  · rw [if_neg h]
    dsimp only
    by_cases h2 : a ≤ i ∧ i < a + k
    · rw [if_pos h2, if_pos (by omega)]
    · rw [if_neg h2, if_neg (by omega)]
theorem seg_0 (g base : Nat → Int32) (a : Nat) : (fun i => if a ≤ i ∧ i < a + 0 then g (i - a) else base i) = base := by
  funext i
  rw [if_neg (by omega)]
theorem seg_out {g base : Nat → Int32} {a k i : Nat} (h : ¬ (a ≤ i ∧ i < a + k)) : (fun i => if a ≤ i ∧ i < a + k then g (i - a) else base i) i = base i := if_neg h
def seg (g base : Nat → Int32) (a k : Nat) : Nat → Int32 := fun i => if a ≤ i ∧ i < a + k then g (i - a) else base i
theorem seg_s (g base : Nat → Int32) (a k : Nat) {v : Int32} (hv : v = g k) : upd (seg g base a k) (a + k) v = seg g base a (k + 1) := seg_upd g base a k hv
theorem seg_z (g base : Nat → Int32) (a : Nat) : seg g base a 0 = base := seg_0 g base a
theorem seg_in {g base : Nat → Int32} {a k j : Nat} (h : j < k) : seg g base a k (a + j) = g j := by
  unfold seg
  rw [if_pos (by omega), Nat.add_sub_cancel_left]
theorem seg_o {g base : Nat → Int32} {a k i : Nat} (h : ¬ (a ≤ i ∧ i < a + k)) : seg g base a k i = base i := if_neg h
