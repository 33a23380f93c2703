theorem ct_ge {p : Nat → Bool} {a b : Nat} (h : a < b) (hp : p a = true) : fb_ct p a < fb_ct p b := by
  have h1 := fb_ct_mono p (show a + 1 ≤ b from h)
  rw [fb_ct_succ, hp] at h1
  simp only [if_true] at h1
  omega
theorem tk_lt {w : St} (hI : Inv w) {q r : Nat} (hq : q < nn w) (hr : r < rc w q) : tk w q (fr w q r) r < wr w (fr w q r) q := by
  obtain ⟨ihd, irc, iwr, ire, itk, -⟩ := hI
  obtain ⟨h1, h2, -⟩ := ire q r hq hr
  refine Nat.lt_of_lt_of_le (ct_ge hr ?_) (itk (fr w q r) q h2 hq)
  exact decide_eq_true h1
theorem bir_cases {w : St} (hI : Inv w) {q r : Nat} (hq : q < nn w) (hr : r < rc w q) : bir w q r = -9 ∨ ∃ b, b < 32 ∧ bir w q r = nI b ∧ isR w b ∧ b / 8 = fr w q r := by
  have hlt := tk_lt hI hq hr
  obtain ⟨ihd, irc, iwr, ire, itk, ile, -⟩ := hI
  obtain ⟨h1, h2, h3, -⟩ := ire q r hq hr
  obtain ⟨-, l2, l3, -⟩ := ile (fr w q r) q (tk w q (fr w q r) r) h2 hq hlt
  have h4 := ihd.1.2.2
  rcases Nat.lt_or_ge (fr w q r) (nn w) with h | h
  · obtain ⟨r', hr', e⟩ := l3 h
    have := (irc (fr w q r) (by omega)).2.1
    refine Or.inr ⟨fr w q r * 8 + r', by omega, e, ⟨?_, ?_⟩, by omega⟩
    · rw [show (fr w q r * 8 + r') / 8 = fr w q r by omega]; exact h
    · rw [show (fr w q r * 8 + r') / 8 = fr w q r by omega, show (fr w q r * 8 + r') % 8 = r' by omega]; exact hr'
  · exact Or.inl (l2 (by omega)).1
set_option maxHeartbeats 1000000 in
/-- a letter written: both sides -/
theorem Cpl_write {w : St} {m : Nat → Int32} (hC : Cpl w m) {x y cc : Nat} {b cs : Int32} (hx : x ≤ nn w) (hy : y < nn w) (hxy : x ≠ y) (hL : wr w x y < 8) (hcc : cc ≤ 99)
    (hb : (x = nn w ∧ b = -9 ∧ cs = 0) ∨ (x < nn w ∧ ∃ r, r < rc w x ∧ b = nI (x * 8 + r) ∧ (∀ k, k < wr w x y → tn (w 8 ((x * 4 + y) * 8 + k)) < x * 8 + r))) (hcs : ∀ c, bt cs c = true → isR w c) :
    Cpl (wrW w (nn w) x y (wr w x y) (nI cc) b cs) (wrM m x y (wr w x y) (nI cc) b cs) := by
  have hI := hC.1
  have tkl : ∀ q r, q < nn w → r < rc w q → tk w q (fr w q r) r < wr w (fr w q r) q := fun q r h1 h2 => tk_lt hI h1 h2
  obtain ⟨⟨ihd, irc, iwr, ire, itk, ile, iin, ikn, ipa, ils, icl⟩, mhd, mrc, mre, mhe, mkn, mwr, mle⟩ := hC
  have h4 := ihd.1.2.2
  generalize hLv : wr w x y = L at hL
  generalize hw' : wrW w (nn w) x y L (nI cc) b cs = w'
  have e0 : w' 0 = w 0 := by rw [← hw']; rfl
  have e1 : w' 1 = w 1 := by rw [← hw']; rfl
  have e2 : w' 2 = w 2 := by rw [← hw']; rfl
  have e3 : w' 3 = w 3 := by rw [← hw']; rfl
  have e4 : w' 4 = w 4 := by rw [← hw']; rfl
  have e5 : w' 5 = w 5 := by rw [← hw']; rfl
  have e6 : w' 6 = upd (w 6) (x * 4 + y) (nI (L + 1)) := by rw [← hw']; rfl
  have e7 : w' 7 = upd (w 7) ((x * 4 + y) * 8 + L) (nI cc) := by rw [← hw']; rfl
  have e8 : w' 8 = upd (w 8) ((x * 4 + y) * 8 + L) b := by rw [← hw']; rfl
  have e9 : w' 9 = upd (w 9) ((x * 4 + y) * 8 + L) cs := by rw [← hw']; rfl
  have e10 : ∀ i, w' 10 i = if ((x * 4 + y) * 8 + L) * 4 ≤ i ∧ i < ((x * 4 + y) * 8 + L) * 4 + 4 then (if x < nn w then w 11 (x * 4 + (i - ((x * 4 + y) * 8 + L) * 4)) &&& cs else 0) else w 10 i := fun i => by rw [← hw']; rfl
  have e11 : w' 11 = w 11 := by rw [← hw']; rfl
  have n1 : nn w' = nn w := by unfold nn; rw [e0]
  have n2 : ee w' = ee w := by unfold ee; rw [e0]
  have n3 : rc w' = rc w := by funext q; unfold rc; rw [e1]
  have n5 : fr w' = fr w := by funext q r; unfold fr; rw [e2]
  have n6 : tk w' = tk w := by funext q x r; unfold tk; rw [e2]
  have n8 : isR w' = isR w := by funext c; unfold isR; rw [n1, n3]
  have n4 : ∀ x' y', y' < 4 → wr w' x' y' = if x' = x ∧ y' = y then L + 1 else wr w x' y' := fun x' y' hy' => by
    unfold wr
    rw [e6]
    by_cases h : x' = x ∧ y' = y
    · rw [if_pos h, h.1, h.2, upd_s]
      exact tn_nI (by omega)
    · rw [if_neg h, upd_n (by omega)]
  -- old letters stay
  have old : ∀ x' y' k, y' < 4 → k < 8 → ¬ (x' = x ∧ y' = y ∧ k = L) → w' 7 ((x' * 4 + y') * 8 + k) = w 7 ((x' * 4 + y') * 8 + k) ∧ w' 8 ((x' * 4 + y') * 8 + k) = w 8 ((x' * 4 + y') * 8 + k) ∧ w' 9 ((x' * 4 + y') * 8 + k) = w 9 ((x' * 4 + y') * 8 + k) ∧ ∀ s, s < 4 → w' 10 (((x' * 4 + y') * 8 + k) * 4 + s) = w 10 (((x' * 4 + y') * 8 + k) * 4 + s) := by
    intro x' y' k hy' hk hne
    have hidx : (x' * 4 + y') * 8 + k ≠ (x * 4 + y) * 8 + L := by omega
    rw [e7, e8, e9, upd_n hidx, upd_n hidx, upd_n hidx]
    refine ⟨rfl, rfl, rfl, fun s hs => ?_⟩
    rw [e10, if_neg (by omega)]
  have w8 : ∀ x' y', x' < 5 → y' < 4 → wr w x' y' ≤ 8 := fun x' y' h1 h2 => (iwr x' y' h1 h2).2.1
  have n7 : ∀ q r, q < nn w → r < rc w q → bir w' q r = bir w q r := fun q r hq hr => by
    have hlt := tkl q r hq hr
    have hfr := (ire q r hq hr).2.1
    have := w8 (fr w q r) q (by omega) (by omega)
    unfold bir
    rw [n5, n6]
    refine (old _ _ _ (by omega) (by omega) ?_).2.1
    rintro ⟨a1, a2, a3⟩
    rw [a1, a2, hLv] at hlt
    rw [a1, a2] at a3
    omega
  have hnew7 : w' 7 ((x * 4 + y) * 8 + L) = nI cc := by rw [e7, upd_s]
  have hnew8 : w' 8 ((x * 4 + y) * 8 + L) = b := by rw [e8, upd_s]
  have hnew9 : w' 9 ((x * 4 + y) * 8 + L) = cs := by rw [e9, upd_s]
  have hnew10 : ∀ s, s < 4 → w' 10 (((x * 4 + y) * 8 + L) * 4 + s) = if x < nn w then w 11 (x * 4 + s) &&& cs else 0 := fun s hs => by
    rw [e10, if_pos (by omega), Nat.add_sub_cancel_left]
  -- a letter of w' is an old one, or this
  have cases' : ∀ x' y' k, x' ≤ nn w → y' < nn w → k < wr w' x' y' → (k < wr w x' y' ∧ ¬ (x' = x ∧ y' = y ∧ k = L)) ∨ (x' = x ∧ y' = y ∧ k = L) := by
    intro x' y' k h1 h2 h3
    rw [n4 x' y' (by omega)] at h3
    by_cases h : x' = x ∧ y' = y
    · rw [if_pos h] at h3
      obtain ⟨rfl, rfl⟩ := h
      by_cases hk : k = L
      · exact Or.inr ⟨rfl, rfl, hk⟩
      · exact Or.inl ⟨by omega, fun z => hk z.2.2⟩
    · rw [if_neg h] at h3
      exact Or.inl ⟨h3, fun z => h ⟨z.1, z.2.1⟩⟩
  refine ⟨⟨?_, ?_, ?_, ?_, ?_, ?_, ?_, ?_, ?_, ?_, ?_⟩, ?_, ?_, ?_, ?_, ?_, ?_, ?_⟩
  · unfold I_hd
    rw [n1, n2, e0]
    exact ihd
  · unfold I_rc
    rw [n1, n3, e1]
    exact irc
  · intro x' y' hx' hy'
    rw [n4 x' y' hy', n1, e6]
    by_cases h : x' = x ∧ y' = y
    · rw [if_pos h, h.1, h.2, upd_s]
      exact ⟨rfl, by omega, fun _ => ⟨hx, hy, hxy⟩⟩
    · rw [if_neg h, upd_n (by omega)]
      exact iwr x' y' hx' hy'
  · unfold I_re
    rw [n1, n3, n5, n6, e2, e3, e4]
    exact ire
  · intro x' q hx' hq
    rw [n1] at hx' hq
    rw [n6, n3, n4 x' q (by omega)]
    by_cases h : x' = x ∧ q = y
    · rw [if_pos h]
      have := itk x' q hx' hq
      rw [h.1, h.2, hLv] at this
      rw [h.1, h.2]
      omega
    · rw [if_neg h]
      exact itk x' q hx' hq
  · intro x' y' k hx' hy' hk
    rw [n1] at hx' hy'
    unfold lok
    rw [n1, n3, n8]
    rcases cases' x' y' k hx' hy' hk with ⟨hk', hne⟩ | ⟨rfl, rfl, rfl⟩
    · have := w8 x' y' (by omega) (by omega)
      obtain ⟨o1, o2, o3, o4⟩ := old x' y' k (by omega) (by omega) hne
      rw [o1, o2, o3]
      obtain ⟨l1, l2, l3, l4, l5⟩ := ile x' y' k hx' hy' hk'
      refine ⟨l1, l2, l3, l4, fun s c hs => ?_⟩
      rw [o4 s hs]
      exact l5 s c hs
    · rw [hnew7, hnew8, hnew9]
      refine ⟨⟨cc, hcc, rfl⟩, fun h => ?_, fun h => ?_, hcs, fun s c hs hbt => ?_⟩
      · rcases hb with ⟨-, b1, b2⟩ | ⟨hlt, -⟩
        · exact ⟨b1, b2⟩
        · omega
      · rcases hb with ⟨heq, -⟩ | ⟨-, r, hr, hbr, -⟩
        · omega
        · exact ⟨r, hr, hbr⟩
      · rw [hnew10 s hs] at hbt
        by_cases h : x' < nn w
        · rw [if_pos h, b_and, Bool.and_eq_true] at hbt
          exact ⟨hbt.2, (ikn x' s c (by omega) hs hbt.1).2.1⟩
        · rw [if_neg h, b_0] at hbt
          cases hbt
  · intro x' y' k k' hx' hy' hk hk'
    rw [n1] at hx' hy'
    have hw8' := w8 x' y' (by omega) (by omega)
    rcases cases' x' y' k' (by omega) hy' hk' with ⟨hk2, hne⟩ | ⟨rfl, rfl, rfl⟩
    · rw [(old x' y' k (by omega) (by omega) (by rintro ⟨a1, a2, a3⟩; subst a1 a2 a3; omega)).2.1, (old x' y' k' (by omega) (by omega) hne).2.1]
      exact iin x' y' k k' hx' hy' hk hk2
    · rw [hnew8, (old x' y' k (by omega) (by omega) (by omega)).2.1]
      rcases hb with ⟨heq, -⟩ | ⟨-, r, hr, hbr, hinc⟩
      · omega
      · have := (irc x' (by omega)).2.1
        rw [hbr, tn_nI (by omega)]
        exact hinc k (by omega)
  · unfold I_kn
    rw [n1, n8, e0, e11]
    exact ikn
  · intro q r hq hr
    rw [n1] at hq
    rw [n3] at hr
    rw [e5, n7 q r hq hr]
    exact ipa q r hq hr
  · intro Cl hCl q r hq hr
    rw [n1] at hq
    rw [n3] at hr
    rw [e5]
    refine ils Cl (fun q' r' h1 h2 h3 => ?_) q r hq hr
    have := hCl q' r' (by rw [n1]; exact h1) (by rw [n3]; exact h2) h3
    rw [n7 q' r' h1 h2] at this
    exact this
  · intro q r hq hr q' r' h1 h2 h3
    rw [n1] at hq h1
    rw [n3] at hr h2
    rw [e5] at h3 ⊢
    rw [n7 q' r' h1 h2]
    exact icl q r hq hr q' r' h1 h2 h3
  -- the reference's row
  all_goals generalize hm' : wrM m x y L (nI cc) b cs = m'
  · have mo : ∀ i, i < 123 → m' i = m i := fun i hi => by
      rw [← hm']
      unfold wrM
      rw [upd_n (by omega), seg_o (by omega), upd_n (by omega), upd_n (by omega), upd_n (by omega)]
    unfold M_hd
    rw [mo 0 (by omega), mo 1 (by omega), mo 2 (by omega), e0]
    exact mhd
  · intro q hq
    rw [e1, ← hm']
    unfold wrM
    rw [upd_n (by omega), seg_o (by omega), upd_n (by omega), upd_n (by omega), upd_n (by omega)]
    exact mrc q hq
  · intro q r hq hr
    rw [n1] at hq
    rw [n3] at hr
    have := (irc q (by omega)).2.1
    have mo : ∀ i, i < 123 → m' i = m i := fun i hi => by
      rw [← hm']
      unfold wrM
      rw [upd_n (by omega), seg_o (by omega), upd_n (by omega), upd_n (by omega), upd_n (by omega)]
    rw [mo _ (by omega), mo _ (by omega), mo _ (by omega), e2, e3, e4]
    exact mre q r hq hr
  · intro p hp
    rw [e11, ← hm']
    unfold wrM
    rw [upd_n (by omega), seg_o (by omega), upd_n (by omega), upd_n (by omega), upd_n (by omega)]
    exact mhe p hp
  · intro p s c hp hs hc
    rw [e11, ← hm']
    unfold wrM
    rw [upd_n (by omega), seg_o (by omega), upd_n (by omega), upd_n (by omega), upd_n (by omega)]
    exact mkn p s c hp hs hc
  · intro x' y' hx' hy'
    rw [e6, ← hm']
    unfold wrM
    by_cases h : x' = x ∧ y' = y
    · rw [h.1, h.2, upd_s, upd_s]
    · rw [upd_n (by omega), upd_n (by omega), seg_o (by omega), upd_n (by omega), upd_n (by omega), upd_n (by omega)]
      exact mwr x' y' hx' hy'
  · intro x' y' k hx' hy' hk
    rw [n1] at hx' hy'
    have mbig : ∀ i, 143 ≤ i → m' i = seg (fun k => if b = -9 then 0 else m (107 + 4 * x + k)) (upd (upd (upd m (143 + 7 * (8 * (4 * x + y) + L)) (nI cc)) (143 + 7 * (8 * (4 * x + y) + L) + 1) b) (143 + 7 * (8 * (4 * x + y) + L) + 2) cs) (143 + 7 * (8 * (4 * x + y) + L) + 3) 4 i := fun i hi => by
      rw [← hm']
      unfold wrM
      rw [upd_n (by omega)]
    unfold lom
    rcases cases' x' y' k hx' hy' hk with ⟨hk', hne⟩ | ⟨rfl, rfl, rfl⟩
    · have := w8 x' y' (by omega) (by omega)
      obtain ⟨o1, o2, o3, o4⟩ := old x' y' k (by omega) (by omega) hne
      have hidx : 8 * (4 * x' + y') + k ≠ 8 * (4 * x + y) + L := by omega
      obtain ⟨l1, l2, l3, l4⟩ := mle x' y' k hx' hy' hk'
      have mo : ∀ j, j < 7 → m' (143 + 7 * (8 * (4 * x' + y') + k) + j) = m (143 + 7 * (8 * (4 * x' + y') + k) + j) := fun j hj => by
        rw [mbig _ (by omega), seg_o (by omega), upd_n (by omega), upd_n (by omega), upd_n (by omega)]
      refine ⟨?_, ?_, ?_, ?_⟩
      · rw [o1, ← l1]; exact mo 0 (by omega)
      · rw [o2, ← l2]; exact mo 1 (by omega)
      · rw [o3, ← l3]; exact mo 2 (by omega)
      · intro s c hs hc hbt
        rw [o3] at hbt
        have e := mo (3 + c / 8) (by omega)
        rw [← Nat.add_assoc (143 + 7 * (8 * (4 * x' + y') + k))] at e
        rw [o4 s hs, ← l4 s c hs hc hbt, e]
    · rw [hnew7, hnew8, hnew9]
      refine ⟨?_, ?_, ?_, ?_⟩
      · rw [mbig _ (by omega), seg_o (by omega), upd_n (by omega), upd_n (by omega), upd_s]
      · rw [mbig _ (by omega), seg_o (by omega), upd_n (by omega), upd_s]
      · rw [mbig _ (by omega), seg_o (by omega), upd_s]
      · intro s c hs hc hbt
        rw [mbig _ (by omega), seg_in (by omega), hnew10 s hs]
        rcases hb with ⟨heq, b1, b2⟩ | ⟨hlt, r, hr, hbr, -⟩
        · rw [b2, b_0] at hbt
          cases hbt
        · have := (irc x' (by omega)).2.1
          rw [if_neg (by rw [hbr]; exact nI_neg (by omega) m9_neg), if_pos hlt, b_and, hbt, Bool.and_true]
          exact mkn x' s c (by omega) hs hc
