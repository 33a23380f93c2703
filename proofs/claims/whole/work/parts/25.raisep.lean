theorem rcL_kn (m : Nat → Int32) (codes : Int32) (K : Nat → Nat) {p c i : Nat} (hp : p < 4) (hc : c < 32) (hi : i < 4) : ∀ k, k ≤ 4 →
    bt (rcL m codes K k (107 + 4 * p + c / 8)) (4 * (c % 8) + i) = if p < k ∧ bt (m (103 + p)) c = true ∧ bt codes c = false then false else bt (m (107 + 4 * p + c / 8)) (4 * (c % 8) + i)
  | 0, _ => by rw [rcL, if_neg (by omega)]
  | k + 1, hk => by
    have ih := rcL_kn m codes K hp hc hi k (by omega)
    have hh : ∀ j, j ≤ k → bt (rcL m codes K j (103 + k)) c = bt (m (103 + k)) c := by
      intro j
      induction j with
      | zero => intro _; rfl
      | succ j ihj =>
        intro h
        rw [rcL, rmL_he _ _ (by omega) (by omega) hc 32 (by omega), if_neg (by omega), upd_n (by omega)]
        exact ihj (by omega)
    rw [rcL, rmL_kn _ _ (by omega) hp hc hi 32 (by omega), upd_n (by omega), upd_n (by omega), hh k (Nat.le_refl _), ih]
    by_cases e : p = k
    · subst e
      by_cases h : bt (m (103 + p)) c = true ∧ bt codes c = false
      · rw [if_pos ⟨rfl, hc, h⟩, if_pos ⟨by omega, h⟩]
      · rw [if_neg (fun z => h z.2.2), if_neg (fun z => h z.2), if_neg (fun z => h z.2)]
    · rw [if_neg (fun z => e z.1)]
      by_cases h : p < k ∧ bt (m (103 + p)) c = true ∧ bt codes c = false
      · rw [if_pos h, if_pos ⟨by omega, h.2⟩]
      · rw [if_neg h, if_neg (fun z => h ⟨by omega, z.2⟩)]
theorem rcL_he (m : Nat → Int32) (codes : Int32) (K : Nat → Nat) {p c : Nat} (hp : p < 4) (hc : c < 32) : ∀ k, k ≤ 4 →
    bt (rcL m codes K k (103 + p)) c = if p < k then bt (m (103 + p)) c && bt codes c else bt (m (103 + p)) c
  | 0, _ => by rw [rcL, if_neg (by omega)]
  | k + 1, hk => by
    have ih := rcL_he m codes K hp hc k (by omega)
    rw [rcL, rmL_he _ _ (by omega) hp hc 32 (by omega), upd_n (by omega), ih]
    by_cases e : p = k
    · subst e
      rw [if_pos ⟨rfl, hc⟩, if_neg (by omega), if_pos (by omega)]
    · rw [if_neg (fun z => e z.1)]
      by_cases h : p < k
      · rw [if_pos h, if_pos (by omega)]
      · rw [if_neg h, if_neg (by omega)]
theorem rcL_rc (m : Nat → Int32) (codes : Int32) (K : Nat → Nat) {q : Nat} (hq : q < 4) : ∀ k, k ≤ 4 → rcL m codes K k (3 + q) = if q < k then nI (K q) else m (3 + q)
  | 0, _ => by rw [rcL, if_neg (by omega)]
  | k + 1, hk => by
    rw [rcL, rmL_o _ _ (by omega) (by omega) 32 (by omega)]
    by_cases e : q = k
    · subst e
      rw [upd_s, if_pos (by omega)]
    · rw [upd_n (by omega), rcL_rc m codes K hq k (by omega)]
      by_cases h : q < k
      · rw [if_pos h, if_pos (by omega)]
      · rw [if_neg h, if_neg (by omega)]
theorem raI_o (m : Nat → Int32) (D : Int32) {c : Nat} (s : Int32) (hc : c < 32) {j : Nat} (h : j < 103 ∨ 123 ≤ j) : ∀ k, k ≤ 4 → raI m D c s k j = m j
  | 0, _ => rfl
  | k + 1, hk => by
    rw [raI]
    split
    · rw [know_o _ (by omega) hc h, raI_o m D s hc h k (by omega)]
    · exact raI_o m D s hc h k (by omega)
theorem raI_kn (m : Nat → Int32) (D : Int32) {c : Nat} {s : Int32} (hc : c < 32) (hs : ∀ i, bt s i = true → i < 4) {p c' i : Nat} (hp : p < 4) (hc' : c' < 32) (hi : i < 4) : ∀ k, k ≤ 4 →
    bt (raI m D c s k (107 + 4 * p + c' / 8)) (4 * (c' % 8) + i) = if c' = c ∧ p < k ∧ bt D p = true then bt s i else bt (m (107 + 4 * p + c' / 8)) (4 * (c' % 8) + i)
  | 0, _ => by rw [raI, if_neg (by omega)]
  | k + 1, hk => by
    have ih := raI_kn m D hc hs hp hc' hi k (by omega)
    rw [raI]
    by_cases hb : bt D k = true
    · rw [if_pos hb, know_kn _ (by omega) hc hs hp hc' hi, ih]
      by_cases hpc : p = k ∧ c' = c
      · obtain ⟨rfl, rfl⟩ := hpc
        rw [if_pos ⟨rfl, rfl⟩, if_pos ⟨rfl, by omega, hb⟩]
      · rw [if_neg hpc]
        by_cases h : c' = c ∧ p < k ∧ bt D p = true
        · rw [if_pos h, if_pos ⟨h.1, by omega, h.2.2⟩]
        · rw [if_neg h, if_neg (fun z => h ⟨z.1, by have : p ≠ k := fun e => hpc ⟨e, z.1⟩; omega, z.2.2⟩)]
    · rw [if_neg hb, ih]
      by_cases h : c' = c ∧ p < k ∧ bt D p = true
      · rw [if_pos h, if_pos ⟨h.1, by omega, h.2.2⟩]
      · rw [if_neg h, if_neg (fun z => h ⟨z.1, by have : p ≠ k := fun e => hb (e ▸ z.2.2); omega, z.2.2⟩)]
theorem raI_he (m : Nat → Int32) (D : Int32) {c : Nat} {s : Int32} (hc : c < 32) {p c' : Nat} (hp : p < 4) (hc' : c' < 32) : ∀ k, k ≤ 4 →
    bt (raI m D c s k (103 + p)) c' = if c' = c ∧ p < k ∧ bt D p = true then decide (s ≠ 0) else bt (m (103 + p)) c'
  | 0, _ => by rw [raI, if_neg (by omega)]
  | k + 1, hk => by
    have ih := raI_he m D (s := s) hc hp hc' k (by omega)
    rw [raI]
    by_cases hb : bt D k = true
    · rw [if_pos hb, know_he _ (by omega) hc hp hc', ih]
      by_cases hpc : p = k ∧ c' = c
      · obtain ⟨rfl, rfl⟩ := hpc
        rw [if_pos ⟨rfl, rfl⟩, if_pos ⟨rfl, by omega, hb⟩]
      · rw [if_neg hpc]
        by_cases h : c' = c ∧ p < k ∧ bt D p = true
        · rw [if_pos h, if_pos ⟨h.1, by omega, h.2.2⟩]
        · rw [if_neg h, if_neg (fun z => h ⟨z.1, by have : p ≠ k := fun e => hpc ⟨e, z.1⟩; omega, z.2.2⟩)]
    · rw [if_neg hb, ih]
      by_cases h : c' = c ∧ p < k ∧ bt D p = true
      · rw [if_pos h, if_pos ⟨h.1, by omega, h.2.2⟩]
      · rw [if_neg h, if_neg (fun z => h ⟨z.1, by have : p ≠ k := fun e => hb (e ▸ z.2.2); omega, z.2.2⟩)]
theorem raO_o (m : Nat → Int32) {n : Nat} (D held : Int32) (hn : n ≤ 4) {j : Nat} (h : j < 103 ∨ 123 ≤ j) : ∀ k, k ≤ 32 → raO m n D held k j = m j
  | 0, _ => rfl
  | k + 1, hk => by
    rw [raO]
    split
    · rw [raI_o _ _ _ (by omega) h n hn, raO_o m D held hn h k (by omega)]
    · exact raO_o m D held hn h k (by omega)
theorem raO_he (m : Nat → Int32) {n : Nat} (D held : Int32) (hn : n ≤ 4) {p c : Nat} (hp : p < 4) (hc : c < 32) : ∀ k, k ≤ 32 →
    bt (raO m n D held k (103 + p)) c = if c < k ∧ bt held c = true ∧ p < n ∧ bt D p = true then true else bt (m (103 + p)) c
  | 0, _ => by rw [raO, if_neg (by omega)]
  | k + 1, hk => by
    have ih := raO_he m D held hn hp hc k (by omega)
    rw [raO]
    by_cases hb : bt held k = true
    · rw [if_pos hb, raI_he _ _ (by omega) hp hc n hn, ih]
      by_cases hpc : c = k ∧ p < n ∧ bt D p = true
      · obtain ⟨rfl, h1, h2⟩ := hpc
        rw [if_pos ⟨rfl, h1, h2⟩, if_pos ⟨by omega, hb, h1, h2⟩]
        refine decide_eq_true (fun e => ?_)
        have := congrArg (fun z => bt z p) e
        simp only [b_or, h2, Bool.true_or, b_0] at this
        cases this
      · rw [if_neg hpc]
        by_cases h : c < k ∧ bt held c = true ∧ p < n ∧ bt D p = true
        · rw [if_pos h, if_pos ⟨by omega, h.2⟩]
        · rw [if_neg h, if_neg (fun z => h ⟨by have : c ≠ k := fun e => hpc ⟨e, z.2.2⟩; omega, z.2⟩)]
    · rw [if_neg hb, ih]
      by_cases h : c < k ∧ bt held c = true ∧ p < n ∧ bt D p = true
      · rw [if_pos h, if_pos ⟨by omega, h.2⟩]
      · rw [if_neg h, if_neg (fun z => h ⟨by have : c ≠ k := fun e => hb (e ▸ z.2.1); omega, z.2⟩)]
theorem raO_kn (m : Nat → Int32) {n : Nat} (D held : Int32) (hn : n ≤ 4) (hD : ∀ i, bt D i = true → i < n) {p c i : Nat} (hp : p < 4) (hc : c < 32) (hi : i < 4) : ∀ k, k ≤ 32 →
    bt (raO m n D held k (107 + 4 * p + c / 8)) (4 * (c % 8) + i) = if c < k ∧ bt held c = true ∧ p < n ∧ bt D p = true then bt D i || (decide (i < n) && bt (m (103 + i)) c) else bt (m (107 + 4 * p + c / 8)) (4 * (c % 8) + i)
  | 0, _ => by rw [raO, if_neg (by omega)]
  | k + 1, hk => by
    have ih := raO_kn m D held hn hD hp hc hi k (by omega)
    rw [raO]
    by_cases hb : bt held k = true
    · rw [if_pos hb, raI_kn _ _ (by omega) ?_ hp hc hi n hn, ih]
      · by_cases hpc : c = k ∧ p < n ∧ bt D p = true
        · obtain ⟨rfl, h1, h2⟩ := hpc
          rw [if_pos ⟨rfl, h1, h2⟩, if_pos ⟨by omega, hb, h1, h2⟩, b_or, b_mk _ _ (by omega), raO_he m D held hn hi hc c (by omega), if_neg (by omega)]
        · rw [if_neg hpc]
          by_cases h : c < k ∧ bt held c = true ∧ p < n ∧ bt D p = true
          · rw [if_pos h, if_pos ⟨by omega, h.2⟩]
          · rw [if_neg h, if_neg (fun z => h ⟨by have : c ≠ k := fun e => hpc ⟨e, z.2.2⟩; omega, z.2⟩)]
      · intro j hj
        rw [b_or, b_mk _ _ (by omega), Bool.or_eq_true, Bool.and_eq_true, decide_eq_true_eq] at hj
        rcases hj with hj | hj
        · have := hD j hj; omega
        · omega
    · rw [if_neg hb, ih]
      by_cases h : c < k ∧ bt held c = true ∧ p < n ∧ bt D p = true
      · rw [if_pos h, if_pos ⟨by omega, h.2⟩]
      · rw [if_neg h, if_neg (fun z => h ⟨by have : c ≠ k := fun e => hb (e ▸ z.2.1); omega, z.2⟩)]
theorem lead_ct {p : Nat → Bool} {n : Nat} (h : ∀ a b, a ≤ b → b < n → p b = true → p a = true) : lead p n = fb_ct p n := by
  apply Nat.le_antisymm
  · rcases Nat.lt_or_ge (fb_ct p n) (lead p n) with q | q
    · have h1 := lead_all q
      have h2 := lead_le p n
      have := (ct_pre h (fb_ct p n) (by omega)).mpr h1
      omega
    · exact q
  · refine lead_max (fb_ct_le p n) (fun i hi => ?_)
    have := fb_ct_le p n
    exact (ct_pre h i (by omega)).mp hi
theorem orF_cong {f g : Nat → Int32} : ∀ {n : Nat}, (∀ k, k < n → f k = g k) → orF f n = orF g n
  | 0, _ => rfl
  | n + 1, h => by rw [orF, orF, orF_cong (fun k hk => h k (by omega)), h n (by omega)]
set_option maxHeartbeats 2000000 in
/-- all that are down raised: both sides -/
theorem Cpl_raise {w w' : St} {m m' : Nat → Int32} (hC : Cpl w m) (hw : RW w w') (hm : RM m m' (nn w) (wr w) (kcn w (w 0 2))) : Cpl w' m' := by
  have hI := hC.1
  obtain ⟨⟨ihd, irc, iwr, ire, itk, ile, iin, ikn, ipa, ils, icl⟩, mhd, mrc, mre, mhe, mkn, mwr, mle⟩ := hC
  have h4 := ihd.1.2.2
  have hD := ihd.2.2
  have hw8 : ∀ x y, x < 5 → y < 4 → wr w x y ≤ 8 := fun x y hx hy => (iwr x y hx hy).2.1
  obtain ⟨T1, R', ⟨r1, r2, r3, r4⟩, hR', hw'⟩ := hw
  obtain ⟨m1, ⟨d1, d2, d3, d4⟩, hm'⟩ := hm
  have hKz : ∀ q, nn w ≤ q → kcn w (w 0 2) q = 0 := fun q h => kcn_z _ h
  have hKle := fun q => (kcn_le hI (w 0 2) q).1
  have hK8 := fun q => (kcn_le hI (w 0 2) q).2
  have hkst := fun c => kst_bt hI (w 0 2) c
  have hcodes : mk (fun c => decide (c % 8 < kcn w (w 0 2) (c / 8))) (8 * nn w) = kst w (w 0 2) := by
    unfold kst
    rw [Nat.mul_comm]
    refine mk_cong (fun c hc => ?_)
    have := kcn_iff hI (w 0 2) (q := c / 8) (r := c % 8) (by omega) (by omega)
    rw [show c / 8 * 8 + c % 8 = c by omega] at this
    cases e : kf w (rc w) (thr w (nn w) (w 0 2)) c with
    | true => exact decide_eq_true (this.mpr e)
    | false => exact decide_eq_false (fun z => by rw [this.mp z] at e; cases e)
  have hgfp := kcn_gfp hI (w 0 2) (held := orF (fun p => bif bt (w 0 2) p then 0 else w 11 (p * 4 + p)) (nn w)) (fun e => by
    rw [b_orF]
    constructor
    · rintro ⟨p, h1, h2⟩
      cases hd : bt (w 0 2) p with
      | true => rw [hd] at h2; rw [show (bif true then (0 : Int32) else w 11 (p * 4 + p)) = 0 from rfl, b_0] at h2; cases h2
      | false => rw [hd] at h2; exact ⟨p, h1, hd, h2⟩
    · rintro ⟨p, h1, hd, h2⟩
      exact ⟨p, h1, by rw [hd]; exact h2⟩)
  have hkb := hgfp.1.2.2.2
  have hMh : orF (fun q => bif bt (m 2) q then 0 else m (103 + q)) (nn w) = orF (fun p => bif bt (w 0 2) p then 0 else w 11 (p * 4 + p)) (nn w) := orF_cong (fun q hq => by rw [mhd.2.2, mhe q (by omega)])
  rw [hcodes, hMh, mhd.2.2] at hm'
  rw [hcodes] at d3
  clear hgfp hMh hcodes
  generalize hKv : kcn w (w 0 2) = K at hKz hKle hK8 hkst hkb hm' d3 r2
  generalize hkk : kst w (w 0 2) = kk at hkst hm' d3 r3 hR'
  generalize hDv : w 0 2 = D at hD hR' hm'
  generalize hn : nn w = n at *
  -- what is held, on both sides
  generalize hH1 : orF (fun p => w 11 (p * 4 + p) &&& kk) n = H1 at hR'
  generalize hH2 : orF (fun p => bif bt D p then 0 else w 11 (p * 4 + p)) n &&& kk = H2 at hm'
  have bH1 : ∀ c, bt H1 c = true ↔ ∃ p, p < n ∧ bt (w 11 (p * 4 + p)) c = true ∧ bt kk c = true := fun c => by
    rw [← hH1, b_orF]
    constructor
    · rintro ⟨p, h1, h2⟩
      rw [b_and, Bool.and_eq_true] at h2
      exact ⟨p, h1, h2⟩
    · rintro ⟨p, h1, h2⟩
      exact ⟨p, h1, by rw [b_and, Bool.and_eq_true]; exact h2⟩
  have hHH : ∀ c, bt H2 c = bt H1 c := fun c => by
    have : bt H2 c = true ↔ bt H1 c = true := by
      rw [bH1, ← hH2, b_and, Bool.and_eq_true, b_orF]
      constructor
      · rintro ⟨⟨p, h1, h2⟩, h3⟩
        cases hd : bt D p with
        | true => rw [hd] at h2; rw [show (bif true then (0 : Int32) else w 11 (p * 4 + p)) = 0 from rfl, b_0] at h2; cases h2
        | false => rw [hd] at h2; exact ⟨p, h1, h2, h3⟩
      · rintro ⟨p, h1, h2, h3⟩
        have hd := (ikn p p c (by omega) (by omega) h2).2.2.2.2
        rw [hDv] at hd
        exact ⟨⟨p, h1, by rw [hd]; exact h2⟩, h3⟩
    cases e1 : bt H1 c with
    | true => exact this.mpr e1
    | false =>
      cases e2 : bt H2 c with
      | false => rfl
      | true => rw [this.mp e2] at e1; cases e1
  -- the world's rows
  have e00 : w' 0 0 = w 0 0 := by rw [hw', ← r1 0 (by decide) (by decide) (by decide) (by decide)]; rfl
  have e01 : w' 0 1 = w 0 1 := by rw [hw', ← r1 0 (by decide) (by decide) (by decide) (by decide)]; rfl
  have e02 : w' 0 2 = 0 := by rw [hw']; rfl
  have e1 : w' 1 = T1 1 := by rw [hw']; rfl
  have e2 : w' 2 = w 2 := by rw [hw', ← r1 2 (by decide) (by decide) (by decide) (by decide)]; rfl
  have e3 : w' 3 = w 3 := by rw [hw', ← r1 3 (by decide) (by decide) (by decide) (by decide)]; rfl
  have e4 : w' 4 = w 4 := by rw [hw', ← r1 4 (by decide) (by decide) (by decide) (by decide)]; rfl
  have e5 : w' 5 = w 5 := by rw [hw', ← r1 5 (by decide) (by decide) (by decide) (by decide)]; rfl
  have e6 : w' 6 = T1 6 := by rw [hw']; rfl
  have e7 : w' 7 = w 7 := by rw [hw', ← r1 7 (by decide) (by decide) (by decide) (by decide)]; rfl
  have e8 : w' 8 = w 8 := by rw [hw', ← r1 8 (by decide) (by decide) (by decide) (by decide)]; rfl
  have e9 : w' 9 = T1 9 := by rw [hw']; rfl
  have e10 : w' 10 = T1 10 := by rw [hw']; rfl
  have e11 : w' 11 = R' := by rw [hw']; rfl
  have n1 : nn w' = n := by rw [← hn]; unfold nn; rw [e00]
  have n2 : ee w' = ee w := by unfold ee; rw [e01]
  have n3 : ∀ q, q < 4 → rc w' q = K q := fun q hq => by
    unfold rc
    rw [e1, r2 q hq]
    by_cases h : q < n
    · rw [if_pos h]; exact tn_nI (by have := hK8 q; omega)
    · rw [if_neg h, hKz q (by omega)]
      exact (irc q hq).2.2 (by omega)
  have n5 : fr w' = fr w := by funext q r; unfold fr; rw [e2]
  have n6 : tk w' = tk w := by funext q x r; unfold tk; rw [e2]
  have n7 : bir w' = bir w := by funext q r; unfold bir; rw [e8, n5, n6]
  have hlf : ∀ x y, lfc w kk x y ≤ wr w x y := fun x y => fb_ct_le _ _
  have n4 : ∀ x y, x < 5 → y < 4 → wr w' x y = if x < n ∧ y < n then lfc w kk x y else wr w x y := fun x y hx hy => by
    have := hw8 x y hx hy
    have := hlf x y
    unfold wr
    rw [e6]
    by_cases h : x < n ∧ y < n
    · rw [if_pos h, (r3 x y hx hy h).1]; exact tn_nI (by omega)
    · rw [if_neg h, (r4 x y hx hy h).1]
  have n4le : ∀ x y, x < 5 → y < 4 → wr w' x y ≤ wr w x y := fun x y hx hy => by
    rw [n4 x y hx hy]
    have := hlf x y
    split <;> omega
  have hisR : ∀ c, bt kk c = true ↔ isR w' c := fun c => by
    rw [hkst c, decide_eq_true_eq]
    unfold isR
    rw [n1]
    constructor
    · intro h
      have : c / 8 < n := by
        rcases Nat.lt_or_ge (c / 8) n with q | q
        · exact q
        · rw [hKz _ q] at h; omega
      exact ⟨this, by rw [n3 _ (by omega)]; exact h⟩
    · rintro ⟨h1, h2⟩
      rw [n3 _ (by omega)] at h2
      exact h2
  -- letters left are the first ones
  have hbirth : ∀ x y k, x < n → y < n → k < wr w x y → ∃ r, r < rc w x ∧ w 8 ((x * 4 + y) * 8 + k) = nI (x * 8 + r) ∧ (bt kk (tn (w 8 ((x * 4 + y) * 8 + k))) = decide (r < K x)) := fun x y k hx hy hk => by
    obtain ⟨r, hr, e⟩ := (ile x y k (by omega) (by omega) hk).2.2.1 (by omega)
    have := (irc x (by omega)).2.1
    refine ⟨r, hr, e, ?_⟩
    rw [e, tn_nI (by omega), hkst, show (x * 8 + r) % 8 = r by omega, show (x * 8 + r) / 8 = x by omega]
  have hpre : ∀ x y, x < n → y < n → ∀ a b, a ≤ b → b < wr w x y → bt kk (tn (w 8 ((x * 4 + y) * 8 + b))) = true → bt kk (tn (w 8 ((x * 4 + y) * 8 + a))) = true := fun x y hx hy a b hab hb h => by
    by_cases e : a = b
    · rw [e]; exact h
    · obtain ⟨ra, ha1, ha2, ha3⟩ := hbirth x y a hx hy (by omega)
      obtain ⟨rb, hb1, hb2, hb3⟩ := hbirth x y b hx hy hb
      have hlt := iin x y a b (by omega) (by omega) (by omega) hb
      have := (irc x (by omega)).2.1
      rw [ha2, hb2, tn_nI (by omega), tn_nI (by omega)] at hlt
      rw [hb3, decide_eq_true_eq] at h
      rw [ha3]
      exact decide_eq_true (by omega)
  have hltk : ∀ x y k, x < n → y < n → k < wr w x y → (k < lfc w kk x y ↔ bt kk (tn (w 8 ((x * 4 + y) * 8 + k))) = true) := fun x y k hx hy hk => ct_pre (hpre x y hx hy) k hk
  have htk : ∀ x q, x ≤ n → q < n → tk w' q x (rc w' q) ≤ wr w' x q := fun x q hx hq => by
    rw [n6, n3 q (by omega), n4 x q (by omega) (by omega)]
    have hb := itk x q (by omega) (by omega)
    have hmono : tk w q x (K q) ≤ tk w q x (rc w q) := fb_ct_mono _ (hKle q)
    by_cases h : x < n ∧ q < n
    · rw [if_pos h]
      rcases Nat.eq_zero_or_pos (tk w q x (K q)) with h0 | h0
      · omega
      · obtain ⟨r, hr1, hr2, hr3⟩ := fb_ct_kth (p := fun j => decide (w 2 (q * 8 + j) = nI x)) (k := tk w q x (K q) - 1) (n := K q) (by unfold tk at h0 ⊢; omega)
        have hrc : r < rc w q := by have := hKle q; omega
        have hfr : fr w q r = x := by
          unfold fr
          rw [of_decide_eq_true hr2]
          exact tn_nI (by omega)
        have hkr := hkb q r (by omega) hr1
        have ht : tk w q x r = tk w q x (K q) - 1 := hr3
        have hlt : tk w q x (K q) - 1 < wr w x q := by omega
        obtain ⟨r2, h1, h2, h3⟩ := hbirth x q _ h.1 hq hlt
        have := (irc x (by omega)).2.1
        have hbir : bir w q r = nI (x * 8 + r2) := by
          unfold bir
          rw [hfr, ht]
          exact h2
        rw [hbir, kbB_code _ (by omega), decide_eq_true_eq, show (x * 8 + r2) % 8 = r2 by omega, show (x * 8 + r2) / 8 = x by omega] at hkr
        have := (hltk x q _ h.1 hq hlt).mpr (by rw [h3]; exact decide_eq_true hkr)
        omega
    · rw [if_neg h]
      omega
  -- a letter of the world raised
  have let9 : ∀ x y k, x ≤ n → y < n → k < wr w' x y → k < wr w x y ∧ (w' 9 ((x * 4 + y) * 8 + k) = if x < n then w 9 ((x * 4 + y) * 8 + k) &&& kk else w 9 ((x * 4 + y) * 8 + k)) ∧ ∀ s, s < 4 → w' 10 (((x * 4 + y) * 8 + k) * 4 + s) = if x < n then w 10 (((x * 4 + y) * 8 + k) * 4 + s) &&& kk else w 10 (((x * 4 + y) * 8 + k) * 4 + s) := fun x y k hx hy hk => by
    have hk2 : k < wr w x y := Nat.lt_of_lt_of_le hk (n4le x y (by omega) (by omega))
    have := hw8 x y (by omega) (by omega)
    refine ⟨hk2, ?_⟩
    rw [e9, e10]
    by_cases h : x < n
    · rw [if_pos h]
      obtain ⟨a1, a2⟩ := (r3 x y (by omega) (by omega) ⟨h, hy⟩).2 k hk2
      exact ⟨a1, fun s hs => by rw [if_pos h]; exact a2 s hs⟩
    · rw [if_neg h]
      obtain ⟨a1, a2⟩ := (r4 x y (by omega) (by omega) (fun z => h z.1)).2 k (by omega)
      exact ⟨a1, fun s hs => by rw [if_neg h]; exact a2 s hs⟩
  -- what is known in the world raised
  have kn : ∀ p s c, p < 4 → s < 4 → bt (w' 11 (p * 4 + s)) c = if p < n ∧ s < n ∧ bt D p = true then (if bt D s = true then bt H1 c else bt (w 11 (s * 4 + s)) c && bt kk c) else bt (w 11 (p * 4 + s)) c && bt kk c := fun p s c hp hs => by
    rw [e11, hR' p s hp hs]
    by_cases h : p < n ∧ s < n ∧ bt D p = true
    · rw [if_pos ⟨h.1, h.1, h.2⟩, if_pos h]
      by_cases h2 : bt D s = true
      · rw [if_pos h2, if_pos h2]
      · rw [if_neg h2, if_neg h2]
        show bt (if s * 4 + s < 16 then w 11 (s * 4 + s) &&& kk else w 11 (s * 4 + s)) c = _
        rw [if_pos (by omega), b_and]
    · rw [if_neg (fun z => h ⟨z.1, z.2.2⟩), if_neg h]
      show bt (if p * 4 + s < 16 then w 11 (p * 4 + s) &&& kk else w 11 (p * 4 + s)) c = _
      rw [if_pos (by omega), b_and]
  have hRSn : ∀ q r, q < n → r < K q → r < rc w q := fun q r _ h => Nat.lt_of_lt_of_le h (hKle q)
  refine ⟨⟨?_, ?_, ?_, ?_, ?_, ?_, ?_, ?_, ?_, ?_, ?_⟩, ?_, ?_, ?_, ?_, ?_, ?_, ?_⟩
  · refine ⟨⟨by rw [n1, e00]; have := ihd.1.1; rw [hn] at this; exact this, by rw [n1]; have := ihd.1.2.1; rw [hn] at this; exact this, by omega⟩, ⟨by rw [n2, e01]; exact ihd.2.1.1, by rw [n2]; exact ihd.2.1.2.1, by rw [n2]; exact ihd.2.1.2.2⟩, fun q hq => ?_⟩
    rw [e02, b_0] at hq
    cases hq
  · intro q hq
    rw [n3 q hq, n1, e1, r2 q hq]
    refine ⟨?_, hK8 q, fun h => hKz q h⟩
    by_cases h : q < n
    · rw [if_pos h]
    · rw [if_neg h, hKz q (by omega), (irc q hq).1, (irc q hq).2.2 (by omega)]
  · intro x y hx hy
    rw [n4 x y hx hy, n1, e6]
    have := hw8 x y hx hy
    have := hlf x y
    by_cases h : x < n ∧ y < n
    · rw [if_pos h]
      refine ⟨(r3 x y hx hy h).1, by omega, fun h0 => ?_⟩
      have := (iwr x y hx hy).2.2 (by omega)
      rw [hn] at this
      exact this
    · rw [if_neg h, (r4 x y hx hy h).1]
      have := iwr x y hx hy
      rw [hn] at this
      exact this
  · intro q r hq hr
    rw [n1] at hq
    rw [n3 q (by omega)] at hr
    rw [n5, n6, n1, e2, e3, e4]
    have := ire q r (by omega) (hRSn q r hq hr)
    rw [hn] at this
    exact this
  · intro x q hx hq
    rw [n1] at hx hq
    exact htk x q hx hq
  · intro x y k hx hy hk
    rw [n1] at hx hy
    obtain ⟨hk2, l9, l10⟩ := let9 x y k hx hy hk
    obtain ⟨l1, l2, l3, l4, l5⟩ := ile x y k (by omega) (by omega) hk2
    rw [hn] at l2 l3 l5
    unfold lok
    rw [n1, e7, e8, l9]
    refine ⟨l1, fun h => ?_, fun h => ?_, fun c hc => ?_, fun s c hs hc => ?_⟩
    · rw [if_neg (by omega)]; exact l2 h
    · rw [n4 x y (by omega) (by omega), if_pos ⟨h, hy⟩] at hk
      have hkept := (hltk x y k h hy hk2).mp hk
      obtain ⟨r, hr1, hr2, hr3⟩ := hbirth x y k h hy hk2
      rw [hr3, decide_eq_true_eq] at hkept
      exact ⟨r, by rw [n3 x (by omega)]; exact hkept, hr2⟩
    · by_cases h : x < n
      · rw [if_pos h, b_and, Bool.and_eq_true] at hc
        exact (hisR c).mp hc.2
      · rw [if_neg h, (l2 (by omega)).2, b_0] at hc
        cases hc
    · rw [l10 s hs] at hc
      by_cases h : x < n
      · rw [if_pos h, b_and, Bool.and_eq_true] at hc
        rw [if_pos h, b_and, Bool.and_eq_true]
        exact ⟨⟨(l5 s c hs hc.1).1, hc.2⟩, (l5 s c hs hc.1).2⟩
      · rw [if_neg h] at hc
        rw [if_neg h]
        exact l5 s c hs hc
  · intro x y k k' hx hy hk hk'
    rw [n1] at hx hy
    rw [e8]
    exact iin x y k k' (by omega) (by omega) hk (Nat.lt_of_lt_of_le hk' (n4le x y (by omega) (by omega)))
  · intro p s c hp hs hb
    rw [kn p s c hp hs] at hb
    rw [kn p p c hp hp, n1, e02, b_0]
    by_cases h : p < n ∧ s < n ∧ bt D p = true
    · rw [if_pos h] at hb
      rw [if_pos ⟨h.1, h.1, h.2.2⟩, if_pos h.2.2]
      have hH : bt H1 c = true := by
        by_cases h2 : bt D s = true
        · rw [if_pos h2] at hb; exact hb
        · rw [if_neg h2, Bool.and_eq_true] at hb
          exact (bH1 c).mpr ⟨s, h.2.1, hb⟩
      obtain ⟨p2, -, -, hkc⟩ := (bH1 c).mp hH
      exact ⟨h.1, h.2.1, hH, (hisR c).mp hkc, rfl⟩
    · rw [if_neg h, Bool.and_eq_true] at hb
      obtain ⟨a1, a2, a3, a4, a5⟩ := ikn p s c hp hs hb.1
      rw [hn] at a1 a2
      rw [hDv] at a5
      rw [if_neg (fun z => by rw [a5] at z; exact absurd z.2.2 (by decide)), Bool.and_eq_true]
      exact ⟨a1, a2, ⟨a3, hb.2⟩, (hisR c).mp hb.2, rfl⟩
  · intro q r hq hr
    rw [n1] at hq
    rw [n3 q (by omega)] at hr
    rw [n7, e5]
    exact ipa q r (by omega) (hRSn q r hq hr)
  · intro C hC q r hq hr hc d hd
    rw [n1] at hq
    rw [n3 q (by omega)] at hr
    rw [e5] at hd
    have hClo : Clo (nn w) (rc w) (bir w) (fun d => C d ∧ isR w' d) := fun q' r' h1 h2 h3 => by
      rw [hn] at h1
      have h8 := (irc q' (by omega)).2.1
      obtain ⟨h5, h6⟩ := h3
      unfold isR at h6
      rw [n1, show (8 * q' + r') / 8 = q' by omega, show (8 * q' + r') % 8 = r' by omega, n3 q' (by omega)] at h6
      have hcl := hC q' r' (by rw [n1]; exact h1) (by rw [n3 q' (by omega)]; exact h6.2) h5
      rw [n7] at hcl
      refine ⟨fun h => ⟨hcl.1 h, ?_⟩, fun b hb e => ⟨hcl.2 b hb e, ?_⟩⟩
      · unfold isR
        rw [n1, show (8 * q' + r' - 1) / 8 = q' by omega, show (8 * q' + r' - 1) % 8 = r' - 1 by omega, n3 q' (by omega)]
        exact ⟨h1, by omega⟩
      · have := hkb q' r' h1 h6.2
        rw [e, kbB_code _ hb] at this
        exact (hisR b).mp (by rw [hkst]; exact this)
    have hkept : isR w' (q * 8 + r) := by
      unfold isR
      rw [n1, show (q * 8 + r) / 8 = q by have := hK8 q; omega, show (q * 8 + r) % 8 = r by have := hK8 q; omega, n3 q (by omega)]
      exact ⟨hq, hr⟩
    exact (ils _ hClo q r (by omega) (hRSn q r hq hr) ⟨hc, hkept⟩ d hd).1
  · intro q r hq hr q' r' h1 h2 h3
    rw [n1] at hq h1
    rw [n3 q (by omega)] at hr
    rw [n3 q' (by omega)] at h2
    rw [e5] at h3 ⊢
    rw [n7]
    exact icl q r (by omega) (hRSn q r hq hr) q' r' (by omega) (hRSn q' r' h1 h2) h3
  -- the reference's row
  all_goals rw [hm']
  · refine ⟨?_, ?_, ?_⟩
    · rw [upd_n (by omega), raO_o _ _ _ h4 (by omega) 32 (by omega), rcL_o _ _ _ (by omega) n h4, d1 0 (by omega), e00]; exact mhd.1
    · rw [upd_n (by omega), raO_o _ _ _ h4 (by omega) 32 (by omega), rcL_o _ _ _ (by omega) n h4, d1 1 (by omega), e01]; exact mhd.2.1
    · rw [upd_s, e02]
  · intro q hq
    rw [upd_n (by omega), raO_o _ _ _ h4 (by omega) 32 (by omega), rcL_rc _ _ _ hq n h4, e1, r2 q hq]
    by_cases h : q < n
    · rw [if_pos h, if_pos h]
    · rw [if_neg h, if_neg h, d1 _ (by omega)]
      exact mrc q hq
  · intro q r hq hr
    rw [n1] at hq
    rw [n3 q (by omega)] at hr
    have h8 := hK8 q
    rw [upd_n (by omega), raO_o _ _ _ h4 (by omega) 32 (by omega), rcL_o _ _ _ (by omega) n h4, d1 _ (by omega), upd_n (by omega), raO_o _ _ _ h4 (by omega) 32 (by omega), rcL_o _ _ _ (by omega) n h4, d1 _ (by omega), upd_n (by omega), raO_o _ _ _ h4 (by omega) 32 (by omega), rcL_o _ _ _ (by omega) n h4, d1 _ (by omega), e2, e3, e4]
    exact mre q r (by omega) (hRSn q r hq hr)
  · intro p hp
    apply b_ext
    intro c hc
    rw [upd_n (by omega), raO_he _ _ _ h4 hp hc 32 (by omega), rcL_he _ _ _ hp hc n h4, d1 _ (by omega), mhe p hp, hHH, kn p p c hp hp]
    have hnd : bt D p = true → bt (w 11 (p * 4 + p)) c = false := fun h => by
      cases e2 : bt (w 11 (p * 4 + p)) c with
      | false => rfl
      | true =>
        have := (ikn p p c hp hp e2).2.2.2.2
        rw [hDv, h] at this
        cases this
    by_cases hpn : p < n
    · cases hDp : bt D p with
      | true =>
        rw [hnd hDp]
        cases e : bt H1 c <;> simp [hc, hpn]
      | false => simp [hpn]
    · have e2 : bt (w 11 (p * 4 + p)) c = false := by
        cases e2 : bt (w 11 (p * 4 + p)) c with
        | false => rfl
        | true =>
          have := (ikn p p c hp hp e2).1
          omega
      rw [e2]
      simp [hpn]
  · intro p s c hp hs hc
    rw [upd_n (by omega), raO_kn _ _ _ h4 hD hp hc hs 32 (by omega), rcL_kn _ _ _ hp hc hs n h4, rcL_he _ _ _ hs hc n h4, d1 _ (by omega), d1 _ (by omega), d1 _ (by omega), mhe p hp, mhe s hs, mkn p s c hp hs hc, hHH, kn p s c hp hs]
    by_cases hpn : p < n
    · cases hDp : bt D p with
      | true =>
        have hpz : bt (w 11 (p * 4 + s)) c = false := by
          cases e2 : bt (w 11 (p * 4 + s)) c with
          | false => rfl
          | true =>
            have := (ikn p s c hp hs e2).2.2.2.2
            rw [hDv, hDp] at this
            cases this
        rw [hpz]
        by_cases hsn : s < n
        · cases e : bt H1 c with
          | true => cases hDs : bt D s <;> simp [hc, hpn, hsn]
          | false =>
            have e3 : (bt (w 11 (s * 4 + s)) c && bt kk c) = false := by
              cases e4 : (bt (w 11 (s * 4 + s)) c && bt kk c) with
              | false => rfl
              | true =>
                rw [Bool.and_eq_true] at e4
                rw [(bH1 c).mpr ⟨s, hsn, e4⟩] at e
                cases e
            rw [e3]
            simp [hpn, hsn]
        · have hDs : bt D s = false := by
            cases e2 : bt D s with
            | false => rfl
            | true => exact absurd (hD s e2) hsn
          rw [hDs]
          simp [hsn]
      | false =>
        cases e : bt (w 11 (p * 4 + s)) c with
        | false => simp
        | true =>
          rw [(ikn p s c hp hs e).2.2.1]
          cases e2 : bt kk c <;> simp [hpn]
    · have e2 : bt (w 11 (p * 4 + s)) c = false := by
        cases e2 : bt (w 11 (p * 4 + s)) c with
        | false => rfl
        | true =>
          have := (ikn p s c hp hs e2).1
          omega
      rw [e2]
      simp [hpn]
  · intro x y hx hy
    rw [upd_n (by omega), raO_o _ _ _ h4 (by omega) 32 (by omega), rcL_o _ _ _ (by omega) n h4, e6]
    by_cases h : x < n ∧ y < n
    · rw [(d3 x y hx hy h).1, (r3 x y hx hy h).1]
      congr 1
      unfold lfm lfc
      rw [lead_ct]
      · refine fb_ct_cong (fun k hk => ?_)
        obtain ⟨r, hr1, hr2, hr3⟩ := hbirth x y k h.1 h.2 hk
        have := (irc x (by omega)).2.1
        have em : m (lat x y k + 1) = w 8 ((x * 4 + y) * 8 + k) := (mle x y k (by omega) (by omega) hk).2.1
        rw [em, hr3, hr2, kbB_code _ (by omega), show (x * 8 + r) % 8 = r by omega, show (x * 8 + r) / 8 = x by omega]
      · intro a b hab hb hbt
        have ema : m (lat x y a + 1) = w 8 ((x * 4 + y) * 8 + a) := (mle x y a (by omega) (by omega) (by omega)).2.1
        have emb : m (lat x y b + 1) = w 8 ((x * 4 + y) * 8 + b) := (mle x y b (by omega) (by omega) hb).2.1
        obtain ⟨ra, ha1, ha2, ha3⟩ := hbirth x y a h.1 h.2 (by omega)
        obtain ⟨rb, hb1, hb2, hb3⟩ := hbirth x y b h.1 h.2 hb
        have := (irc x (by omega)).2.1
        rw [emb, hb2, kbB_code _ (by omega), show (x * 8 + rb) % 8 = rb by omega, show (x * 8 + rb) / 8 = x by omega, ← hb3] at hbt
        have := hpre x y h.1 h.2 a b hab hb hbt
        rw [ha3] at this
        rw [ema, ha2, kbB_code _ (by omega), show (x * 8 + ra) % 8 = ra by omega, show (x * 8 + ra) / 8 = x by omega]
        exact this
    · rw [(d4 x y hx hy h).1, (r4 x y hx hy h).1]
      exact mwr x y hx hy
  · intro x y k hx hy hk
    rw [n1] at hx hy
    obtain ⟨hk2, l9, l10⟩ := let9 x y k hx hy hk
    have := hw8 x y (by omega) (by omega)
    obtain ⟨b1, b2, b3, b4⟩ := mle x y k (by omega) (by omega) hk2
    have big : ∀ j, j < 7 → upd (raO (rcL m1 kk K n) n D H2 32) 2 0 (lat x y k + j) = m1 (lat x y k + j) := fun j hj => by
      rw [upd_n (by unfold lat; omega), raO_o _ _ _ h4 (by unfold lat; omega) 32 (by omega), rcL_o _ _ _ (by unfold lat; omega) n h4]
    have keep : ∀ j, j < 7 → j ≠ 2 → upd (raO (rcL m1 kk K n) n D H2 32) 2 0 (lat x y k + j) = m (lat x y k + j) := fun j hj h2 => by
      rw [big j hj]
      exact d2 x y k j (by omega) (by omega) (by omega) hj h2
    have hlfeq : x < n → lfm m K x y (wr w x y) = lfc w kk x y := fun h => by
      unfold lfm lfc
      rw [lead_ct]
      · refine fb_ct_cong (fun k hk => ?_)
        obtain ⟨r, hr1, hr2, hr3⟩ := hbirth x y k h hy hk
        have := (irc x (by omega)).2.1
        have em : m (lat x y k + 1) = w 8 ((x * 4 + y) * 8 + k) := (mle x y k (by omega) (by omega) hk).2.1
        rw [em, hr3, hr2, kbB_code _ (by omega), show (x * 8 + r) % 8 = r by omega, show (x * 8 + r) / 8 = x by omega]
      · intro a b hab hb hbt
        have ema : m (lat x y a + 1) = w 8 ((x * 4 + y) * 8 + a) := (mle x y a (by omega) (by omega) (by omega)).2.1
        have emb : m (lat x y b + 1) = w 8 ((x * 4 + y) * 8 + b) := (mle x y b (by omega) (by omega) hb).2.1
        obtain ⟨ra, ha1, ha2, ha3⟩ := hbirth x y a h hy (by omega)
        obtain ⟨rb, hb1, hb2, hb3⟩ := hbirth x y b h hy hb
        have := (irc x (by omega)).2.1
        rw [emb, hb2, kbB_code _ (by omega), show (x * 8 + rb) % 8 = rb by omega, show (x * 8 + rb) / 8 = x by omega, ← hb3] at hbt
        have := hpre x y h hy a b hab hb hbt
        rw [ha3] at this
        rw [ema, ha2, kbB_code _ (by omega), show (x * 8 + ra) % 8 = ra by omega, show (x * 8 + ra) / 8 = x by omega]
        exact this
    have m2e : upd (raO (rcL m1 kk K n) n D H2 32) 2 0 (lat x y k + 2) = if x < n then m (lat x y k + 2) &&& kk else m (lat x y k + 2) := by
      rw [big 2 (by omega)]
      by_cases h : x < n
      · rw [if_pos h]
        rw [n4 x y (by omega) (by omega), if_pos ⟨h, hy⟩] at hk
        exact (d3 x y (by omega) (by omega) ⟨h, hy⟩).2 k (by rw [hlfeq h]; exact hk)
      · rw [if_neg h]
        exact (d4 x y (by omega) (by omega) (fun z => h z.1)).2 k (by omega)
    refine ⟨?_, ?_, ?_, ?_⟩
    · rw [e7, ← b1]; exact keep 0 (by omega) (by omega)
    · rw [e8, ← b2]; exact keep 1 (by omega) (by omega)
    · rw [l9, ← b3]; exact m2e
    · intro s c hs hc hb
      rw [l9] at hb
      have e := keep (3 + c / 8) (by omega) (by omega)
      unfold lat at e
      rw [← Nat.add_assoc (143 + 7 * (8 * (4 * x + y) + k))] at e
      rw [e, l10 s hs]
      by_cases h : x < n
      · rw [if_pos h, b_and, Bool.and_eq_true] at hb
        rw [if_pos h, b_and, hb.2, Bool.and_true]
        exact b4 s c hs hc hb.1
      · rw [if_neg h] at hb
        rw [if_neg h]
        exact b4 s c hs hc hb
