theorem b_kni (w : Int32) (c i : Nat) : bt (kni w c) i = (decide (i < 4) && bt w (4 * (c % 8) + i)) := by
  unfold kni
  have h15 : ∀ i, bt (nI 15) i = decide (i < 4) := fun i => by
    rcases Nat.lt_or_ge i 32 with h | h
    · exact (by decide +kernel : ∀ i, i < 32 → bt (nI 15) i = decide (i < 4)) i h
    · rw [b_big h]; simp; omega
  rcases Nat.lt_or_ge i 32 with h | h
  · rw [b_and, h15, b_sshr _ (by omega) _ h, Bool.and_comm]
    by_cases h4 : i < 4
    · rw [if_pos (by omega)]
    · simp [h4]
  · rw [b_big h]
    have : ¬ i < 4 := by omega
    simp [this]
theorem b_not (x : Int32) {i : Nat} (h : i < 32) : bt (x ^^^ (-1)) i = !bt x i := by
  rw [b_xor, b_m1 i h]; simp
/-- know(q, c, s), by its bits -/
theorem know_kn (m : Nat → Int32) {q c : Nat} {s : Int32} (hq : q < 4) (hc : c < 32) (hs : ∀ i, bt s i = true → i < 4) {p c' i : Nat} (hp : p < 4) (hc' : c' < 32) (hi : i < 4) :
    bt (knowR m q c s (107 + 4 * p + c' / 8)) (4 * (c' % 8) + i) = if p = q ∧ c' = c then bt s i else bt (m (107 + 4 * p + c' / 8)) (4 * (c' % 8) + i) := by
  have h15 : ∀ i, bt (nI 15) i = decide (i < 4) := fun i => by
    rcases Nat.lt_or_ge i 32 with h | h
    · exact (by decide +kernel : ∀ i, i < 32 → bt (nI 15) i = decide (i < 4)) i h
    · rw [b_big h]; simp; omega
  unfold knowR
  try dsimp only
  rw [upd_n (by omega)]
  by_cases h : 107 + 4 * p + c' / 8 = 107 + 4 * q + c / 8
  · rw [h, upd_s, b_or, b_and, b_not _ (by omega), b_shl _ (by omega) _ (by omega), b_shl _ (by omega) _ (by omega), h15]
    have hpq : p = q := by omega
    have hdiv : c' / 8 = c / 8 := by omega
    by_cases hcc : c' = c
    · rw [if_pos ⟨hpq, hcc⟩, hcc]
      have e1 : 4 * (c % 8) + i - 4 * (c % 8) = i := by omega
      have e2 : 4 * (c % 8) ≤ 4 * (c % 8) + i := by omega
      rw [e1]
      simp [hi]
    · rw [if_neg (fun z => hcc z.2)]
      by_cases hle : 4 * (c % 8) ≤ 4 * (c' % 8) + i
      · have hge : ¬ (4 * (c' % 8) + i - 4 * (c % 8) < 4) := by omega
        have hsf : bt s (4 * (c' % 8) + i - 4 * (c % 8)) = false := by
          cases e : bt s (4 * (c' % 8) + i - 4 * (c % 8)) with
          | false => rfl
          | true => exact absurd (hs _ e) hge
        rw [hsf]
        simp [hge]
      · simp [hle]
  · rw [upd_n h, if_neg (fun z => h (by rw [z.1, z.2]))]
theorem know_he (m : Nat → Int32) {q c : Nat} {s : Int32} (hq : q < 4) (hc : c < 32) {p c' : Nat} (hp : p < 4) (hc' : c' < 32) :
    bt (knowR m q c s (103 + p)) c' = if p = q ∧ c' = c then decide (s ≠ 0) else bt (m (103 + p)) c' := by
  unfold knowR
  try dsimp only
  by_cases h : p = q
  · subst h
    rw [upd_s, upd_n (by omega)]
    by_cases h0 : s = 0
    · rw [if_pos h0, b_and, b_not _ hc', b_onen c hc]
      by_cases hcc : c' = c
      · simp [hcc, h0]
      · simp [hcc]
    · rw [if_neg h0, b_or, b_onen c hc]
      by_cases hcc : c' = c
      · simp [hcc, h0]
      · simp [hcc]
  · rw [upd_n (by omega), upd_n (by omega), if_neg (fun z => h z.1)]
theorem know_o (m : Nat → Int32) {q c j : Nat} {s : Int32} (hq : q < 4) (hc : c < 32) (h : j < 103 ∨ 123 ≤ j) : knowR m q c s j = m j := by
  unfold knowR
  try dsimp only
  rw [upd_n (by omega), upd_n (by omega)]
/-- the codes of a letter learnt, by bits -/
theorem knL_o (m : Nat → Int32) {y a : Nat} (hy : y < 4) {j : Nat} (h : j < 103 ∨ 123 ≤ j) : ∀ k, k ≤ 32 → knL m y a k j = m j
  | 0, _ => rfl
  | k + 1, hk => by
    rw [knL]
    split
    · rw [know_o _ hy (by omega) h, knL_o m hy h k (by omega)]
    · exact knL_o m hy h k (by omega)
theorem sites_lt {x : Int32} {a b : Int32} {y c c' : Nat} (hy : y < 4) (hx : x = (kni a c ||| kni b c') ||| nI 1 <<< (nI y &&& 31)) : ∀ i, bt x i = true → i < 4 := by
  intro i hi
  rw [hx, b_or, b_or, b_kni, b_kni, b_onen y (by omega)] at hi
  by_cases h : i < 4
  · exact h
  · have hy' : ¬ i = y := by omega
    simp [h, hy'] at hi
theorem knL_kn (m : Nat → Int32) {y a : Nat} (hy : y < 4) (ha : 123 ≤ a) {p c' i : Nat} (hp : p < 4) (hc' : c' < 32) (hi : i < 4) : ∀ k, k ≤ 32 →
    bt (knL m y a k (107 + 4 * p + c' / 8)) (4 * (c' % 8) + i) = if p = y ∧ c' < k ∧ bt (m (a + 2)) c' = true then (bt (m (107 + 4 * p + c' / 8)) (4 * (c' % 8) + i) || bt (m (a + 3 + c' / 8)) (4 * (c' % 8) + i)) || decide (i = y) else bt (m (107 + 4 * p + c' / 8)) (4 * (c' % 8) + i)
  | 0, _ => by rw [knL, if_neg (by omega)]
  | k + 1, hk => by
    have ih := knL_kn m hy ha hp hc' hi k (by omega)
    rw [knL, knL_o m hy (j := a + 2) (by omega) k (by omega), knL_o m hy (j := a + 3 + k / 8) (by omega) k (by omega)]
    by_cases hb : bt (m (a + 2)) k = true
    · rw [if_pos hb, know_kn _ hy (by omega) (sites_lt hy rfl) hp hc' hi]
      by_cases hpc : p = y ∧ c' = k
      · obtain ⟨rfl, rfl⟩ := hpc
        rw [if_pos ⟨rfl, rfl⟩, if_pos ⟨rfl, by omega, hb⟩, b_or, b_or, b_kni, b_kni, b_onen p (by omega), ih, if_neg (by omega)]
        simp [hi]
      · rw [if_neg hpc, ih]
        by_cases h2 : p = y ∧ c' < k ∧ bt (m (a + 2)) c' = true
        · rw [if_pos h2, if_pos ⟨h2.1, by omega, h2.2.2⟩]
        · rw [if_neg h2, if_neg (fun z => h2 ⟨z.1, by have : c' ≠ k := fun e => hpc ⟨z.1, e⟩; omega, z.2.2⟩)]
    · rw [if_neg hb, ih]
      by_cases h2 : p = y ∧ c' < k ∧ bt (m (a + 2)) c' = true
      · rw [if_pos h2, if_pos ⟨h2.1, by omega, h2.2.2⟩]
      · rw [if_neg h2, if_neg (fun z => h2 ⟨z.1, by have : c' ≠ k := fun e => hb (e ▸ z.2.2); omega, z.2.2⟩)]
theorem knL_he (m : Nat → Int32) {y a : Nat} (hy : y < 4) (ha : 123 ≤ a) {p c' : Nat} (hp : p < 4) (hc' : c' < 32) : ∀ k, k ≤ 32 →
    bt (knL m y a k (103 + p)) c' = if p = y ∧ c' < k ∧ bt (m (a + 2)) c' = true then true else bt (m (103 + p)) c'
  | 0, _ => by rw [knL, if_neg (by omega)]
  | k + 1, hk => by
    have ih := knL_he m hy ha hp hc' k (by omega)
    rw [knL, knL_o m hy (j := a + 2) (by omega) k (by omega), knL_o m hy (j := a + 3 + k / 8) (by omega) k (by omega)]
    by_cases hb : bt (m (a + 2)) k = true
    · rw [if_pos hb, know_he _ hy (by omega) hp hc']
      by_cases hpc : p = y ∧ c' = k
      · obtain ⟨rfl, rfl⟩ := hpc
        rw [if_pos ⟨rfl, rfl⟩, if_pos ⟨rfl, by omega, hb⟩]
        refine decide_eq_true (fun e => ?_)
        have := congrArg (fun z => bt z p) e
        simp only [b_or, b_onen p (by omega : p < 32), b_0, decide_true, Bool.or_true] at this
        cases this
      · rw [if_neg hpc, ih]
        by_cases h2 : p = y ∧ c' < k ∧ bt (m (a + 2)) c' = true
        · rw [if_pos h2, if_pos ⟨h2.1, by omega, h2.2.2⟩]
        · rw [if_neg h2, if_neg (fun z => h2 ⟨z.1, by have : c' ≠ k := fun e => hpc ⟨z.1, e⟩; omega, z.2.2⟩)]
    · rw [if_neg hb, ih]
      by_cases h2 : p = y ∧ c' < k ∧ bt (m (a + 2)) c' = true
      · rw [if_pos h2, if_pos ⟨h2.1, by omega, h2.2.2⟩]
      · rw [if_neg h2, if_neg (fun z => h2 ⟨z.1, by have : c' ≠ k := fun e => hb (e ▸ z.2.2); omega, z.2.2⟩)]
