set_option maxHeartbeats 2000000 in
/-- a receipt, with what is learnt by it: both sides -/
theorem Cpl_rcl {w : St} {m : Nat → Int32} (hC : Cpl w m) {x y v : Nat} (hx : x ≤ nn w) (hy : y < nn w) (hxy : x ≠ y) (hr : rc w y < 8) (ht : tk w y x (rc w y) < wr w x y) (hv : v < 997) (hd : bt (w 0 2) y = false) :
    Cpl (rclW w (nn w) x y (rc w y) (tk w y x (rc w y)) v (pstW w x y (rc w y) (tk w y x (rc w y)))) (rclM m x y (rc w y) (tk w y x (rc w y)) v) := by
  have hI := hC.1
  obtain ⟨⟨ihd, irc, iwr, ire, itk, ile, iin, ikn, ipa, ils, icl⟩, mhd, mrc, mre, mhe, mkn, mwr, mle⟩ := hC
  have h4 := ihd.1.2.2
  have hlok := ile x y _ hx hy ht
  have hlom := mle x y _ hx hy ht
  have hw8 := (iwr x y (by omega) (by omega)).2.1
  generalize hrv : rc w y = r at hr ht hlok hlom
  generalize htv : tk w y x r = t at ht hlok hlom
  have ht8 : t < 8 := by omega
  generalize hpv : pstW w x y r t = p
  generalize hw' : rclW w (nn w) x y r t v p = w'
  have e0 : w' 0 = w 0 := by rw [← hw']; rfl
  have e1 : w' 1 = upd (w 1) y (nI (r + 1)) := by rw [← hw']; rfl
  have e2 : w' 2 = upd (w 2) (y * 8 + r) (nI x) := by rw [← hw']; rfl
  have e3 : w' 3 = upd (w 3) (y * 8 + r) (nI t) := by rw [← hw']; rfl
  have e4 : w' 4 = upd (w 4) (y * 8 + r) (nI v) := by rw [← hw']; rfl
  have e5 : w' 5 = upd (w 5) (y * 8 + r) p := by rw [← hw']; rfl
  have e6 : w' 6 = w 6 := by rw [← hw']; rfl
  have e7 : w' 7 = w 7 := by rw [← hw']; rfl
  have e8 : w' 8 = w 8 := by rw [← hw']; rfl
  have e9 : w' 9 = w 9 := by rw [← hw']; rfl
  have e10 : w' 10 = w 10 := by rw [← hw']; rfl
  have e11 : w' 11 = upd (fun i => if y * 4 ≤ i ∧ i < y * 4 + nn w then w 11 i ||| w 10 (((x * 4 + y) * 8 + t) * 4 + (i - y * 4)) else w 11 i) (y * 4 + y) ((if y * 4 ≤ y * 4 + y ∧ y * 4 + y < y * 4 + nn w then w 11 (y * 4 + y) ||| w 10 (((x * 4 + y) * 8 + t) * 4 + (y * 4 + y - y * 4)) else w 11 (y * 4 + y)) ||| ((nI 1 <<< (nI (y * 8 + r) &&& 31)) ||| w 9 ((x * 4 + y) * 8 + t))) := by rw [← hw']; rfl
  have n1 : nn w' = nn w := by unfold nn; rw [e0]
  have n2 : ee w' = ee w := by unfold ee; rw [e0]
  have n4 : wr w' = wr w := by funext x y; unfold wr; rw [e6]
  have n3 : ∀ q, rc w' q = if q = y then r + 1 else rc w q := fun q => by
    unfold rc
    rw [e1]
    by_cases h : q = y
    · rw [if_pos h, h, upd_s]; exact tn_nI (by omega)
    · rw [if_neg h, upd_n h]
  have n3m : ∀ q, rc w q ≤ rc w' q := fun q => by
    rw [n3]
    by_cases h : q = y
    · rw [if_pos h, h, hrv]; omega
    · rw [if_neg h]; exact Nat.le_refl _
  have n8 : ∀ c, isR w c → isR w' c := fun c h => ⟨by rw [n1]; exact h.1, Nat.lt_of_lt_of_le h.2 (n3m _)⟩
  -- receipts: an old one, or this
  have oldrc : ∀ q r', q < nn w → r' < rc w' q → (r' < rc w q ∧ q * 8 + r' ≠ y * 8 + r) ∨ (q = y ∧ r' = r) := fun q r' hq h => by
    rw [n3] at h
    by_cases e : q = y
    · rw [if_pos e] at h
      by_cases e2 : r' = r
      · exact Or.inr ⟨e, e2⟩
      · exact Or.inl ⟨by rw [e, hrv]; omega, by omega⟩
    · rw [if_neg e] at h
      have := (irc q (by omega)).2.1
      exact Or.inl ⟨h, by omega⟩
  have n5 : ∀ q r', r' < 8 → q * 8 + r' ≠ y * 8 + r → fr w' q r' = fr w q r' := fun q r' _ h => by unfold fr; rw [e2, upd_n h]
  have n5n : fr w' y r = x := by unfold fr; rw [e2, upd_s]; exact tn_nI (by omega)
  have n6 : ∀ q x' r', r' ≤ 8 → (q = y → r' ≤ r) → tk w' q x' r' = tk w q x' r' := fun q x' r' h8 h => by
    unfold tk
    refine fb_ct_cong (fun j hj => ?_)
    rw [e2, upd_n (by
      by_cases e : q = y
      · have := h e; omega
      · omega)]
  have n7 : ∀ q r', q < nn w → r' < rc w q → bir w' q r' = bir w q r' := fun q r' hq hr' => by
    have := (irc q (by omega)).2.1
    have hne : q * 8 + r' ≠ y * 8 + r := by
      by_cases e : q = y
      · rw [e, hrv] at hr'; omega
      · omega
    unfold bir
    rw [e8, n5 q r' (by omega) hne, n6 q _ r' (by omega) (fun e => by rw [e, hrv] at hr'; omega)]
  have n7n : bir w' y r = w 8 ((x * 4 + y) * 8 + t) := by
    unfold bir
    rw [e8, n5n, n6 y x r (by omega) (fun _ => Nat.le_refl _), htv]
  -- codes that aren't this one's
  have hnc : ∀ c, isR w c → c ≠ y * 8 + r := fun c h e => by
    have h1 := h.2
    rw [e, show (y * 8 + r) / 8 = y by omega, show (y * 8 + r) % 8 = r by omega, hrv] at h1
    omega
  have hcode : isR w' (y * 8 + r) := by
    refine ⟨by rw [n1, show (y * 8 + r) / 8 = y by omega]; exact hy, ?_⟩
    rw [show (y * 8 + r) / 8 = y by omega, show (y * 8 + r) % 8 = r by omega, n3, if_pos rfl]
    omega
  obtain ⟨-, lk2, lk3, lk4, lk5⟩ := hlok
  have hpb : ∀ d, bt p d = true ↔ d = y * 8 + r ∨ (0 < r ∧ bt (w 5 (y * 8 + (r - 1))) d = true) ∨ ∃ b, b < 32 ∧ w 8 ((x * 4 + y) * 8 + t) = nI b ∧ bt (w 5 b) d = true := by
    intro d
    rw [← hpv]
    unfold pstW
    rw [b_or, b_or, b_onen _ (by omega), Bool.or_eq_true, Bool.or_eq_true, decide_eq_true_eq]
    have f1 : bt (if r = 0 then 0 else w 5 (y * 8 + (r - 1))) d = true ↔ 0 < r ∧ bt (w 5 (y * 8 + (r - 1))) d = true := by
      by_cases h0 : r = 0
      · rw [if_pos h0, b_0]; simp; omega
      · rw [if_neg h0]
        exact ⟨fun h => ⟨by omega, h⟩, fun h => h.2⟩
    have f2 : bt (if w 8 ((x * 4 + y) * 8 + t) = -9 then 0 else w 5 (tn (w 8 ((x * 4 + y) * 8 + t)))) d = true ↔ ∃ b, b < 32 ∧ w 8 ((x * 4 + y) * 8 + t) = nI b ∧ bt (w 5 b) d = true := by
      rcases Nat.lt_or_ge x (nn w) with hxn | hxn
      · obtain ⟨r', hr', e⟩ := lk3 hxn
        have := (irc x (by omega)).2.1
        rw [if_neg (by rw [e]; exact nI_neg (by omega) m9_neg), e, tn_nI (by omega)]
        constructor
        · intro h; exact ⟨x * 8 + r', by omega, rfl, h⟩
        · rintro ⟨b, hb, e2, h⟩
          rw [(nI_eq (by omega) (by omega)).mp e2]
          exact h
      · have e := (lk2 (by omega)).1
        rw [if_pos e, b_0, e]
        constructor
        · intro h; cases h
        · rintro ⟨b, hb, e2, -⟩
          exact absurd e2.symm (nI_neg (by omega) m9_neg)
    rw [f1, f2, or_assoc]
  -- a birth of w is a code of w
  have hbn : ∀ q r' b, q < nn w → r' < rc w q → b < 32 → bir w q r' = nI b → b ≠ y * 8 + r := fun q r' b hq hr' hb e => by
    rcases bir_cases hI hq hr' with h | ⟨b', hb', e', hR, -⟩
    · exact absurd (e.symm.trans h) (nI_neg (by omega) m9_neg)
    · rw [(nI_eq (by omega) (by omega)).mp (e.symm.trans e')]
      exact hnc b' hR
  have hbnn : ∀ b, b < 32 → w 8 ((x * 4 + y) * 8 + t) = nI b → b ≠ y * 8 + r := fun b hb e => by
    rcases Nat.lt_or_ge x (nn w) with hxn | hxn
    · obtain ⟨r', hr', e'⟩ := lk3 hxn
      have := (irc x (by omega)).2.1
      have := (nI_eq (by omega) (by omega)).mp (e.symm.trans e')
      omega
    · exact absurd (e.symm.trans (lk2 (by omega)).1) (nI_neg (by omega) m9_neg)
  -- what y knows then
  have kny : ∀ s c, s < 4 → c < 32 → bt (w' 11 (y * 4 + s)) c = (bt (w 11 (y * 4 + s)) c || bt (w 10 (((x * 4 + y) * 8 + t) * 4 + s)) c || (decide (s = y) && (decide (c = y * 8 + r) || bt (w 9 ((x * 4 + y) * 8 + t)) c))) := by
    intro s c hs hc
    rw [e11]
    by_cases h : s = y
    · subst h
      rw [upd_s, if_pos (by omega), b_or, b_or, b_or, b_onen _ (by omega), Nat.add_sub_cancel_left]
      simp
    · rw [upd_n (by omega)]
      try dsimp only
      by_cases hn : s < nn w
      · rw [if_pos (by omega), b_or, Nat.add_sub_cancel_left]
        simp [h]
      · rw [if_neg (by omega)]
        have : bt (w 10 (((x * 4 + y) * 8 + t) * 4 + s)) c = false := by
          cases e : bt (w 10 (((x * 4 + y) * 8 + t) * 4 + s)) c with
          | false => rfl
          | true => exact absurd (lk5 s c hs e).2 hn
        rw [this]
        simp [h]
  have kno : ∀ q s, q ≠ y → q < 4 → s < 4 → w' 11 (q * 4 + s) = w 11 (q * 4 + s) := fun q s hq h1 h2 => by
    rw [e11, upd_n (by omega)]
    try dsimp only
    rw [if_neg (by omega)]
  have hb32 : ∀ (z : Int32) c, bt z c = true → c < 32 := fun z c h => by
    rcases Nat.lt_or_ge c 32 with q | q
    · exact q
    · rw [b_big q] at h; cases h
  unfold rclM
  generalize ha : 143 + 7 * (8 * (4 * x + y) + t) = a
  generalize hm1 : rcM m x y r t v = m1
  have ha143 : 143 ≤ a := by omega
  have hm1o : ∀ i, 103 ≤ i → m1 i = m i := fun i hi => by
    rw [← hm1]
    unfold rcM
    rw [upd_n (by omega), upd_n (by omega), upd_n (by omega), upd_n (by omega)]
  have hlow : ∀ i, (i < 103 ∨ 123 ≤ i) → knL (knowR m1 y (8 * y + r) (nI 1 <<< (nI y &&& 31))) y a 32 i = m1 i := fun i hi => by
    rw [knL_o _ (by omega) hi 32 (by omega), know_o _ (by omega) (by omega) hi]
  refine ⟨⟨?_, ?_, ?_, ?_, ?_, ?_, ?_, ?_, ?_, ?_, ?_⟩, ?_, ?_, ?_, ?_, ?_, ?_, ?_⟩
  · unfold I_hd
    rw [n1, n2, e0]
    exact ihd
  · intro q hq
    rw [n3, n1, e1]
    by_cases h : q = y
    · rw [if_pos h, h, upd_s]
      exact ⟨rfl, by omega, fun h2 => by omega⟩
    · rw [if_neg h, upd_n h]
      exact irc q hq
  · unfold I_wr
    rw [n1, n4, e6]
    exact iwr
  · intro q r' hq hr'
    rw [n1] at hq
    rcases oldrc q r' hq hr' with ⟨ho, hne⟩ | ⟨rfl, rfl⟩
    · have := (irc q (by omega)).2.1
      rw [n5 q r' (by omega) hne, n6 q _ r' (by omega) (fun e => by rw [e, hrv] at ho; omega), n1, e2, e3, e4, upd_n hne, upd_n hne, upd_n hne]
      exact ire q r' hq ho
    · rw [n5n, n6 q x r' (by omega) (fun _ => Nat.le_refl _), htv, n1, e2, e3, e4, upd_s, upd_s, upd_s]
      exact ⟨rfl, hx, hxy, rfl, v, hv, rfl⟩
  · intro x' q hx' hq
    rw [n1] at hx' hq
    rw [n4, n3]
    by_cases h : q = y
    · subst h
      rw [if_pos rfl]
      have e : tk w' q x' (r + 1) = tk w' q x' r + if decide (w' 2 (q * 8 + r) = nI x') = true then 1 else 0 := fb_ct_succ _ _
      rw [e, n6 q x' r (by omega) (fun _ => Nat.le_refl _), e2, upd_s]
      by_cases hxx : x' = x
      · subst hxx
        rw [htv]
        split <;> omega
      · rw [if_neg (by rw [decide_eq_true_eq]; exact fun e => hxx ((nI_eq (by omega) (by omega)).mp e).symm)]
        have := itk x' q hx' hq
        rw [hrv] at this
        exact this
    · rw [if_neg h]
      have := (irc q (by omega)).2.1
      rw [n6 q x' _ (by omega) (fun e => absurd e h)]
      exact itk x' q hx' hq
  · intro x' y' k hx' hy' hk
    rw [n1] at hx' hy'
    rw [n4] at hk
    obtain ⟨l1, l2, l3, l4, l5⟩ := ile x' y' k hx' hy' hk
    unfold lok
    rw [n1, e7, e8, e9, e10]
    refine ⟨l1, l2, fun h => ?_, fun c hc => n8 c (l4 c hc), l5⟩
    obtain ⟨r', hr', e⟩ := l3 h
    exact ⟨r', Nat.lt_of_lt_of_le hr' (n3m _), e⟩
  · unfold I_in
    rw [n1, n4, e8]
    exact iin
  · intro q s c hq hs hb
    have hc := hb32 _ _ hb
    rw [n1, e0]
    by_cases h : q = y
    · subst h
      rw [kny s c hs hc] at hb
      rw [kny q c hq hc]
      simp only [Bool.or_eq_true, Bool.and_eq_true, decide_eq_true_eq] at hb ⊢
      rcases hb with (h1 | h1) | ⟨h1, h2⟩
      · obtain ⟨a1, a2, a3, a4, a5⟩ := ikn q s c hq hs h1
        exact ⟨a1, a2, Or.inl (Or.inl a3), n8 c a4, a5⟩
      · obtain ⟨a1, a2⟩ := lk5 s c hs h1
        exact ⟨hy, a2, Or.inr ⟨trivial, Or.inr a1⟩, n8 c (lk4 c a1), hd⟩
      · subst h1
        refine ⟨hy, hy, Or.inr ⟨trivial, h2⟩, ?_, hd⟩
        rcases h2 with h2 | h2
        · rw [h2]; exact hcode
        · exact n8 c (lk4 c h2)
    · rw [kno q s h hq hs] at hb
      rw [kno q q h hq hq]
      obtain ⟨a1, a2, a3, a4, a5⟩ := ikn q s c hq hs hb
      exact ⟨a1, a2, a3, n8 c a4, a5⟩
  · intro q r' hq hr' d
    rw [n1] at hq
    rcases oldrc q r' hq hr' with ⟨ho, hne⟩ | ⟨rfl, rfl⟩
    · rw [n7 q r' hq ho, e5, upd_n hne, ipa q r' hq ho d]
      have e1' : 0 < r' → upd (w 5) (y * 8 + r) p (q * 8 + (r' - 1)) = w 5 (q * 8 + (r' - 1)) := fun h => upd_n (by
        have := (irc q (by omega)).2.1
        by_cases e : q = y
        · rw [e, hrv] at ho; omega
        · omega)
      constructor
      · rintro (h | ⟨h1, h2⟩ | ⟨b, h1, h2, h3⟩)
        · exact Or.inl h
        · exact Or.inr (Or.inl ⟨h1, by rw [e1' h1]; exact h2⟩)
        · exact Or.inr (Or.inr ⟨b, h1, h2, by rw [upd_n (hbn q r' b hq ho h1 h2)]; exact h3⟩)
      · rintro (h | ⟨h1, h2⟩ | ⟨b, h1, h2, h3⟩)
        · exact Or.inl h
        · exact Or.inr (Or.inl ⟨h1, by rw [e1' h1] at h2; exact h2⟩)
        · exact Or.inr (Or.inr ⟨b, h1, h2, by rw [upd_n (hbn q r' b hq ho h1 h2)] at h3; exact h3⟩)
    · rw [n7n, e5, upd_s, hpb d]
      have e1' : 0 < r' → upd (w 5) (q * 8 + r') p (q * 8 + (r' - 1)) = w 5 (q * 8 + (r' - 1)) := fun h => upd_n (by omega)
      constructor
      · rintro (h | ⟨h1, h2⟩ | ⟨b, h1, h2, h3⟩)
        · exact Or.inl h
        · exact Or.inr (Or.inl ⟨h1, by rw [e1' h1]; exact h2⟩)
        · exact Or.inr (Or.inr ⟨b, h1, h2, by rw [upd_n (hbnn b h1 h2)]; exact h3⟩)
      · rintro (h | ⟨h1, h2⟩ | ⟨b, h1, h2, h3⟩)
        · exact Or.inl h
        · exact Or.inr (Or.inl ⟨h1, by rw [e1' h1] at h2; exact h2⟩)
        · exact Or.inr (Or.inr ⟨b, h1, h2, by rw [upd_n (hbnn b h1 h2)] at h3; exact h3⟩)
  · intro Cl hCl q r' hq hr' hc d hdd
    rw [n1] at hq
    have hClo : Clo (nn w) (rc w) (bir w) Cl := fun q' r'' h1 h2 h3 => by
      have := hCl q' r'' (by rw [n1]; exact h1) (Nat.lt_of_lt_of_le h2 (n3m _)) h3
      rw [n7 q' r'' h1 h2] at this
      exact this
    rcases oldrc q r' hq hr' with ⟨ho, hne⟩ | ⟨rfl, rfl⟩
    · rw [e5, upd_n hne] at hdd
      exact ils Cl hClo q r' hq ho hc d hdd
    · rw [e5, upd_s, hpb d] at hdd
      have hcl := hCl q r' (by rw [n1]; exact hy) (by rw [n3, if_pos rfl]; omega) (by rw [Nat.mul_comm]; exact hc)
      rw [n7n] at hcl
      rcases hdd with h | ⟨h1, h2⟩ | ⟨b, h1, h2, h3⟩
      · rw [h]; exact hc
      · refine ils Cl hClo q (r' - 1) hy (by omega) ?_ d h2
        have := hcl.1 h1
        rw [show q * 8 + (r' - 1) = 8 * q + r' - 1 by omega]
        exact this
      · rcases Nat.lt_or_ge x (nn w) with hxn | hxn
        · obtain ⟨r2, hr2, e'⟩ := lk3 hxn
          have := (irc x (by omega)).2.1
          have e3 : b = x * 8 + r2 := (nI_eq (by omega) (by omega)).mp (h2.symm.trans e')
          rw [e3] at h3
          refine ils Cl hClo x r2 hxn hr2 ?_ d h3
          rw [← e3]
          exact hcl.2 b h1 h2
        · exact absurd (h2.symm.trans (lk2 (by omega)).1) (nI_neg (by omega) m9_neg)
  · intro q r' hq hr' q2 r2 g1 g2 g3
    rw [n1] at hq g1
    -- what an old receipt goes back to is old
    have hRS : Clo (nn w) (rc w) (bir w) (fun d => isR w d) := fun q' r'' h1 h2 h3 => by
      have h8 := (irc q' (by omega)).2.1
      refine ⟨fun h => ⟨?_, ?_⟩, fun b hb e => ?_⟩
      · rw [show (8 * q' + r'' - 1) / 8 = q' by omega]; exact h1
      · rw [show (8 * q' + r'' - 1) / 8 = q' by omega, show (8 * q' + r'' - 1) % 8 = r'' - 1 by omega]; omega
      · rcases bir_cases hI h1 h2 with h | ⟨b', hb', e', hR, -⟩
        · exact absurd (e.symm.trans h) (nI_neg (by omega) m9_neg)
        · rw [(nI_eq (by omega) (by omega)).mp (e.symm.trans e')]; exact hR
    have hold : ∀ q' r'', q' < nn w → r'' < rc w q' → ∀ d, bt (w 5 (q' * 8 + r'')) d = true → isR w d := fun q' r'' h1 h2 d hdd => by
      have h8 := (irc q' (by omega)).2.1
      refine ils _ hRS q' r'' h1 h2 ⟨?_, ?_⟩ d hdd
      · rw [show (q' * 8 + r'') / 8 = q' by omega]; exact h1
      · rw [show (q' * 8 + r'') / 8 = q' by omega, show (q' * 8 + r'') % 8 = r'' by omega]; exact h2
    -- closed, of an old one
    have hcl : ∀ q' r'', q' < nn w → r'' < rc w q' → bt (w 5 (q' * 8 + r'')) (8 * q2 + r2) = true → (0 < r2 → bt (w 5 (q' * 8 + r'')) (8 * q2 + r2 - 1) = true) ∧ ∀ b, b < 32 → bir w' q2 r2 = nI b → bt (w 5 (q' * 8 + r'')) b = true := fun q' r'' h1 h2 h3 => by
      have hR := hold q' r'' h1 h2 _ h3
      rcases oldrc q2 r2 g1 g2 with ⟨ho, hne⟩ | ⟨rfl, rfl⟩
      · rw [n7 q2 r2 g1 ho]
        exact icl q' r'' h1 h2 q2 r2 g1 ho h3
      · exact absurd (by omega) (hnc _ hR)
    rcases oldrc q r' hq hr' with ⟨ho, hne⟩ | ⟨rfl, rfl⟩
    · rw [e5, upd_n hne] at g3 ⊢
      exact hcl q r' hq ho g3
    · rw [e5, upd_s] at g3 ⊢
      rw [hpb] at g3
      rcases g3 with g3 | ⟨h1, h2⟩ | ⟨b, h1, h2, h3⟩
      · have e1' : q2 = q := by
          have : r2 < 8 := by
            have := (irc q2 (by omega)).2.1
            rw [n3] at g2
            by_cases e : q2 = q
            · rw [if_pos e] at g2; omega
            · rw [if_neg e] at g2; omega
          omega
        have e2' : r2 = r' := by omega
        subst e1' e2'
        rw [n7n]
        have self : ∀ q' r'', q' < nn w → r'' < rc w q' → bt (w 5 (q' * 8 + r'')) (q' * 8 + r'') = true := fun q' r'' h1 h2 => (ipa q' r'' h1 h2 _).mpr (Or.inl rfl)
        refine ⟨fun h => ?_, fun b hb e => ?_⟩
        · refine (hpb _).mpr (Or.inr (Or.inl ⟨h, ?_⟩))
          have := self q2 (r2 - 1) hy (by omega)
          rw [show 8 * q2 + r2 - 1 = q2 * 8 + (r2 - 1) by omega]
          exact this
        · refine (hpb _).mpr (Or.inr (Or.inr ⟨b, hb, e, ?_⟩))
          rcases Nat.lt_or_ge x (nn w) with hxn | hxn
          · obtain ⟨r3, hr3, e'⟩ := lk3 hxn
            have := (irc x (by omega)).2.1
            have e3 : b = x * 8 + r3 := (nI_eq (by omega) (by omega)).mp (e.symm.trans e')
            rw [e3]
            exact self x r3 hxn hr3
          · exact absurd (e.symm.trans (lk2 (by omega)).1) (nI_neg (by omega) m9_neg)
      · have := hcl q (r' - 1) hy (by omega) h2
        exact ⟨fun h => (hpb _).mpr (Or.inr (Or.inl ⟨h1, this.1 h⟩)), fun b hb e => (hpb _).mpr (Or.inr (Or.inl ⟨h1, this.2 b hb e⟩))⟩
      · rcases Nat.lt_or_ge x (nn w) with hxn | hxn
        · obtain ⟨r3, hr3, e'⟩ := lk3 hxn
          have := (irc x (by omega)).2.1
          have e3 : b = x * 8 + r3 := (nI_eq (by omega) (by omega)).mp (h2.symm.trans e')
          rw [e3] at h3
          have := hcl x r3 hxn hr3 h3
          rw [← e3] at this
          exact ⟨fun h => (hpb _).mpr (Or.inr (Or.inr ⟨b, h1, h2, this.1 h⟩)), fun b' hb e => (hpb _).mpr (Or.inr (Or.inr ⟨b, h1, h2, this.2 b' hb e⟩))⟩
        · exact absurd (h2.symm.trans (lk2 (by omega)).1) (nI_neg (by omega) m9_neg)
  · refine ⟨?_, ?_, ?_⟩
    · rw [hlow _ (by omega), ← hm1, e0]
      unfold rcM
      rw [upd_n (by omega), upd_n (by omega), upd_n (by omega), upd_n (by omega)]
      exact mhd.1
    · rw [hlow _ (by omega), ← hm1, e0]
      unfold rcM
      rw [upd_n (by omega), upd_n (by omega), upd_n (by omega), upd_n (by omega)]
      exact mhd.2.1
    · rw [hlow _ (by omega), ← hm1, e0]
      unfold rcM
      rw [upd_n (by omega), upd_n (by omega), upd_n (by omega), upd_n (by omega)]
      exact mhd.2.2
  · intro q hq
    rw [hlow _ (by omega), ← hm1, e1]
    unfold rcM
    by_cases h : q = y
    · rw [h, upd_s, upd_s]
    · rw [upd_n (by omega), upd_n (by omega), upd_n (by omega), upd_n (by omega), upd_n h]
      exact mrc q hq
  · intro q r' hq hr'
    rw [n1] at hq
    have hr8 : r' < 8 := by
      have := (irc q (by omega)).2.1
      rw [n3] at hr'
      by_cases e : q = y
      · rw [if_pos e] at hr'; omega
      · rw [if_neg e] at hr'; omega
    rw [hlow _ (by omega), hlow _ (by omega), hlow _ (by omega), e2, e3, e4, ← hm1]
    unfold rcM
    rcases oldrc q r' hq hr' with ⟨ho, hne⟩ | ⟨rfl, rfl⟩
    · rw [upd_n hne, upd_n hne, upd_n hne]
      rw [upd_n (by omega), upd_n (by omega), upd_n (by omega), upd_n (by omega), upd_n (by omega), upd_n (by omega), upd_n (by omega), upd_n (by omega), upd_n (by omega), upd_n (by omega), upd_n (by omega), upd_n (by omega)]
      exact mre q r' hq ho
    · rw [upd_s, upd_s, upd_s]
      refine ⟨?_, ?_, ?_⟩
      · rw [upd_n (by omega), upd_n (by omega), upd_n (by omega), Nat.add_zero, upd_s]
      · rw [upd_n (by omega), upd_n (by omega), upd_s]
      · rw [upd_n (by omega), upd_s]
  · intro q hq
    apply b_ext
    intro c hc
    rw [knL_he _ (by omega) (by omega) hq hc 32 (by omega), know_he _ (by omega) (by omega) hq hc, know_o _ (by omega) (by omega) (by omega), hm1o _ (by omega), hm1o _ (by omega), mhe q hq]
    have hcar : m (a + 2) = w 9 ((x * 4 + y) * 8 + t) := by rw [← ha]; exact hlom.2.2.1
    rw [hcar]
    by_cases h : q = y
    · subst h
      rw [kny q c hq hc]
      by_cases hb : bt (w 9 ((x * 4 + q) * 8 + t)) c = true
      · rw [if_pos ⟨rfl, hc, hb⟩, hb]
        simp
      · have hbf : bt (w 9 ((x * 4 + q) * 8 + t)) c = false := by simpa using hb
        rw [if_neg (fun z => hb z.2.2), hbf]
        have htf : bt (w 10 (((x * 4 + q) * 8 + t) * 4 + q)) c = false := by
          cases e : bt (w 10 (((x * 4 + q) * 8 + t) * 4 + q)) c with
          | false => rfl
          | true => exact absurd (lk5 q c hq e).1 hb
        rw [htf]
        by_cases hcc : c = 8 * q + r
        · rw [if_pos ⟨rfl, hcc⟩]
          have : c = q * 8 + r := by omega
          simp only [this, decide_true, Bool.true_or, Bool.and_true, Bool.or_true]
          refine decide_eq_true (fun e => ?_)
          have := congrArg (fun z => bt z q) e
          simp only [b_onen q (by omega : q < 32), b_0, decide_true] at this
          cases this
        · rw [if_neg (fun z => hcc z.2)]
          have : ¬ c = q * 8 + r := by omega
          simp [this]
    · rw [if_neg (fun z => h z.1), if_neg (fun z => h z.1), kno q q h hq hq]
  · intro q s c hq hs hc
    have hs1 : ∀ i, bt (nI 1 <<< (nI y &&& 31)) i = true → i < 4 := fun i hi => by
      rw [b_onen y (by omega), decide_eq_true_eq] at hi
      omega
    rw [knL_kn _ (by omega) (by omega) hq hc hs 32 (by omega), know_kn _ (by omega) (by omega) hs1 hq hc hs, know_o _ (by omega) (by omega) (j := a + 2) (by omega), know_o _ (by omega) (by omega) (j := a + 3 + c / 8) (by omega), hm1o _ (by omega), hm1o _ (by omega), hm1o _ (by omega), mkn q s c hq hs hc, b_onen y (by omega)]
    have hcar : m (a + 2) = w 9 ((x * 4 + y) * 8 + t) := by rw [← ha]; exact hlom.2.2.1
    have hto : bt (w 9 ((x * 4 + y) * 8 + t)) c = true → bt (m (a + 3 + c / 8)) (4 * (c % 8) + s) = bt (w 10 (((x * 4 + y) * 8 + t) * 4 + s)) c := fun h => by rw [← ha]; exact hlom.2.2.2 s c hs hc h
    rw [hcar]
    by_cases h : q = y
    · subst h
      rw [kny s c hs hc]
      by_cases hb : bt (w 9 ((x * 4 + q) * 8 + t)) c = true
      · have hcc : ¬ c = 8 * q + r := fun e => hnc c (lk4 c hb) (by omega)
        have hcc2 : ¬ c = q * 8 + r := by omega
        rw [if_pos ⟨rfl, hc, hb⟩, if_neg (fun z => hcc z.2), hto hb, hb]
        simp [hcc2]
      · have hbf : bt (w 9 ((x * 4 + q) * 8 + t)) c = false := by simpa using hb
        rw [if_neg (fun z => hb z.2.2), hbf]
        have htf : bt (w 10 (((x * 4 + q) * 8 + t) * 4 + s)) c = false := by
          cases e : bt (w 10 (((x * 4 + q) * 8 + t) * 4 + s)) c with
          | false => rfl
          | true => exact absurd (lk5 s c hs e).1 hb
        rw [htf]
        by_cases hcc : c = 8 * q + r
        · rw [if_pos ⟨rfl, hcc⟩]
          have hcc2 : c = q * 8 + r := by omega
          have hof : bt (w 11 (q * 4 + s)) c = false := by
            cases e : bt (w 11 (q * 4 + s)) c with
            | false => rfl
            | true => exact absurd hcc2 (hnc c (ikn q s c hq hs e).2.2.2.1)
          rw [hof]
          simp [hcc2]
        · rw [if_neg (fun z => hcc z.2)]
          have : ¬ c = q * 8 + r := by omega
          simp [this]
    · rw [if_neg (fun z => h z.1), if_neg (fun z => h z.1), kno q s h hq hs]
  · intro x' y' hx' hy'
    rw [hlow _ (by omega), hm1o _ (by omega), e6]
    exact mwr x' y' hx' hy'
  · intro x' y' k hx' hy' hk
    rw [n1] at hx' hy'
    rw [n4] at hk
    obtain ⟨l1, l2, l3, l4⟩ := mle x' y' k hx' hy' hk
    unfold lom
    rw [hlow _ (by omega), hlow _ (by omega), hlow _ (by omega), hm1o _ (by omega), hm1o _ (by omega), hm1o _ (by omega), e7, e8, e9, e10]
    refine ⟨l1, l2, l3, fun s c hs hc hb => ?_⟩
    rw [hlow _ (by omega), hm1o _ (by omega)]
    exact l4 s c hs hc hb

/-- the two sides' codes to be carried on are the same -/
theorem uns_eq {w : St} {m : Nat → Int32} (hC : Cpl w m) {e y : Nat} (hy : y < 4) : unsM m e y = unsf w (nn w) e y := by
  obtain ⟨⟨ihd, irc, iwr, ire, itk, ile, iin, ikn, ipa, ils, icl⟩, mhd, mrc, mre, mhe, mkn, mwr, mle⟩ := hC
  have h4 := ihd.1.2.2
  unfold unsM unsf
  refine mk_cong (fun c hc => ?_)
  rw [mhe y hy]
  have e1 : kni (m (107 + 4 * y + c / 8)) c = mk (fun s => bt (w 11 (y * 4 + s)) c) (nn w) := by
    apply b_ext
    intro i hi
    rw [b_kni, b_mk _ _ (by omega)]
    by_cases h : i < 4
    · rw [mkn y i c hy h hc]
      by_cases hn : i < nn w
      · simp [h, hn]
      · have : bt (w 11 (y * 4 + i)) c = false := by
          cases e : bt (w 11 (y * 4 + i)) c with
          | false => rfl
          | true => exact absurd (ikn y i c hy h e).2.1 hn
        rw [this]
        simp
    · have : ¬ i < nn w := by omega
      simp [h, this]
  rw [e1]
theorem Cpl_ans {w : St} {m : Nat → Int32} (hC : Cpl w m) {y r v : Nat} (hy : y < nn w) (hr : r < rc w y) (hprev : ∀ z k, z < nn w → k < wr w y z → tn (w 8 ((y * 4 + z) * 8 + k)) < y * 8 + r) :
    Cpl (ansW w (nn w) (ee w) y (y * 8 + r) v) (ansM m (nn w) (ee w) y (8 * y + r) v) := by
  have hC0 := hC
  obtain ⟨⟨ihd, irc, iwr, ire, itk, ile, iin, ikn, ipa, ils, icl⟩, mhd, mrc, mre, mhe, mkn, mwr, mle⟩ := hC
  have h4 := ihd.1.2.2
  have h2 := ihd.1.2.1
  have hmod : v % nn w < nn w := Nat.mod_lt _ (by omega)
  unfold ansW ansM
  rw [mwr y (v % nn w) (by omega) (by omega), uns_eq hC0 (by omega)]
  have hwr := (iwr y (v % nn w) (by omega) (by omega)).2.1
  have hwv : tn (w 6 (y * 4 + v % nn w)) = wr w y (v % nn w) := rfl
  rw [hwv]
  by_cases h : v % 3 = 0 ∨ v % nn w = y ∨ 8 ≤ wr w y (v % nn w)
  · rw [if_pos h, if_pos (by omega)]
    exact hC0
  · rw [if_neg h, if_neg (by omega), show 8 * y + r = y * 8 + r by omega]
    refine Cpl_write hC0 (by omega) hmod (by omega) (by omega) (by have := Nat.mod_lt v (show 0 < 100 by omega); omega) (Or.inr ⟨hy, r, hr, rfl, fun k hk => hprev _ k hmod hk⟩) (fun c hc => ?_)
    have hc32 : c < 32 := by
      rcases Nat.lt_or_ge c 32 with q | q
      · exact q
      · rw [b_big q] at hc; cases hc
    unfold unsf at hc
    rw [b_mk _ _ (by omega), Bool.and_eq_true, Bool.and_eq_true] at hc
    exact (ikn y y c (by omega) (by omega) hc.2.1).2.2.2.1
/-- a receipt, and what is written by it -/
theorem Cpl_take {w : St} {m : Nat → Int32} (hC : Cpl w m) {x y v : Nat} (hx : x ≤ nn w) (hy : y < nn w) (hxy : x ≠ y) (hr : rc w y < 8) (ht : tk w y x (rc w y) < wr w x y) (hv : v < 997) (hd : bt (w 0 2) y = false) :
    Cpl (takeW w (nn w) (ee w) x y (rc w y) (tk w y x (rc w y)) v) (takeM m (nn w) (ee w) x y (rc w y) (tk w y x (rc w y)) v) := by
  have h1 := Cpl_rcl hC hx hy hxy hr ht hv hd
  obtain ⟨⟨ihd, irc, iwr, ire, itk, ile, iin, ikn, ipa, ils, icl⟩, -⟩ := hC
  have h4 := ihd.1.2.2
  unfold takeW takeM
  generalize hw' : rclW w (nn w) x y (rc w y) (tk w y x (rc w y)) v (pstW w x y (rc w y) (tk w y x (rc w y))) = w' at h1
  have n1 : nn w = nn w' := by rw [← hw']; rfl
  have n2 : ee w = ee w' := by rw [← hw']; rfl
  have n3 : rc w' y = rc w y + 1 := by
    rw [← hw']
    show tn (upd (w 1) y (nI (rc w y + 1)) y) = _
    rw [upd_s]
    exact tn_nI (by omega)
  have n4 : wr w' = wr w := by rw [← hw']; rfl
  have e8 : w' 8 = w 8 := by rw [← hw']; rfl
  have hall : ∀ z k, z < nn w → k < wr w y z → tn (w 8 ((y * 4 + z) * 8 + k)) < y * 8 + rc w y := fun z k hz hk => by
    obtain ⟨r', hr', e⟩ := (ile y z k (by omega) hz hk).2.2.1 hy
    rw [e, tn_nI (by omega)]
    omega
  rw [n1, n2]
  refine Cpl_ans h1 (by rw [← n1]; exact hy) (by rw [n3]; omega) (fun z k hz hk => ?_)
  rw [e8]
  rw [n4] at hk
  rw [← n1] at hz
  exact hall z k hz hk
/-- a site crashes -/
theorem Cpl_crash {w : St} {m : Nat → Int32} (hC : Cpl w m) {q : Nat} (hq : q < nn w) :
    Cpl (sr (st w 0 2 (w 0 2 ||| nI 1 <<< (nI q &&& 31))) 11 (fun i => if q * 4 ≤ i ∧ i < q * 4 + 4 then 0 else w 11 i)) (seg (fun _ => 0) (upd (upd m 2 (m 2 ||| nI 1 <<< (nI q &&& 31))) (103 + q) 0) (107 + 4 * q) 4) := by
  obtain ⟨⟨ihd, irc, iwr, ire, itk, ile, iin, ikn, ipa, ils, icl⟩, mhd, mrc, mre, mhe, mkn, mwr, mle⟩ := hC
  have h4 := ihd.1.2.2
  generalize hw' : sr (st w 0 2 (w 0 2 ||| nI 1 <<< (nI q &&& 31))) 11 (fun i => if q * 4 ≤ i ∧ i < q * 4 + 4 then 0 else w 11 i) = w'
  have e00 : w' 0 0 = w 0 0 := by rw [← hw']; rfl
  have e01 : w' 0 1 = w 0 1 := by rw [← hw']; rfl
  have e02 : w' 0 2 = w 0 2 ||| nI 1 <<< (nI q &&& 31) := by rw [← hw']; rfl
  have e1 : w' 1 = w 1 := by rw [← hw']; rfl
  have e2 : w' 2 = w 2 := by rw [← hw']; rfl
  have e3 : w' 3 = w 3 := by rw [← hw']; rfl
  have e4 : w' 4 = w 4 := by rw [← hw']; rfl
  have e5 : w' 5 = w 5 := by rw [← hw']; rfl
  have e6 : w' 6 = w 6 := by rw [← hw']; rfl
  have e7 : w' 7 = w 7 := by rw [← hw']; rfl
  have e8 : w' 8 = w 8 := by rw [← hw']; rfl
  have e9 : w' 9 = w 9 := by rw [← hw']; rfl
  have e10 : w' 10 = w 10 := by rw [← hw']; rfl
  have e11 : ∀ p s, p < 4 → s < 4 → w' 11 (p * 4 + s) = if p = q then 0 else w 11 (p * 4 + s) := fun p s hp hs => by
    rw [← hw']
    show (if q * 4 ≤ p * 4 + s ∧ p * 4 + s < q * 4 + 4 then 0 else w 11 (p * 4 + s)) = _
    by_cases h : p = q
    · rw [if_pos h, if_pos (by omega)]
    · rw [if_neg h, if_neg (by omega)]
  have n1 : nn w' = nn w := by unfold nn; rw [e00]
  have n2 : ee w' = ee w := by unfold ee; rw [e01]
  have n3 : rc w' = rc w := by funext q; unfold rc; rw [e1]
  have n4 : wr w' = wr w := by funext x y; unfold wr; rw [e6]
  have n5 : fr w' = fr w := by funext q r; unfold fr; rw [e2]
  have n6 : tk w' = tk w := by funext q x r; unfold tk; rw [e2]
  have n7 : bir w' = bir w := by funext q r; unfold bir; rw [e8, n5, n6]
  have n8 : isR w' = isR w := by funext c; unfold isR; rw [n1, n3]
  have n9 : lok w' = lok w := by funext x y k; unfold lok; rw [n1, n3, n8, e7, e8, e9, e10]
  have hdn : ∀ p, p < 4 → bt (w' 0 2) p = (bt (w 0 2) p || decide (p = q)) := fun p hp => by rw [e02, b_or, b_onen q (by omega)]
  refine ⟨⟨?_, ?_, ?_, ?_, ?_, ?_, ?_, ?_, ?_, ?_, ?_⟩, ?_, ?_, ?_, ?_, ?_, ?_, ?_⟩
  · unfold I_hd
    rw [n1, n2, e00, e01, e02]
    refine ⟨ihd.1, ihd.2.1, fun p hp => ?_⟩
    rw [b_or, b_onen q (by omega), Bool.or_eq_true, decide_eq_true_eq] at hp
    rcases hp with h | h
    · exact ihd.2.2 p h
    · omega
  · unfold I_rc; rw [n1, n3, e1]; exact irc
  · unfold I_wr; rw [n1, n4, e6]; exact iwr
  · unfold I_re; rw [n1, n3, n5, n6, e2, e3, e4]; exact ire
  · unfold I_tk; rw [n1, n6, n3, n4]; exact itk
  · unfold I_le; rw [n1, n4, n9]; exact ile
  · unfold I_in; rw [n1, n4, e8]; exact iin
  · intro p s c hp hs hb
    rw [e11 p s hp hs] at hb
    rw [e11 p p hp hp, n1, n8, hdn p hp]
    by_cases h : p = q
    · rw [if_pos h, b_0] at hb; cases hb
    · rw [if_neg h] at hb
      rw [if_neg h]
      obtain ⟨a1, a2, a3, a4, a5⟩ := ikn p s c hp hs hb
      exact ⟨a1, a2, a3, a4, by rw [a5]; simp [h]⟩
  · unfold I_pa; rw [n1, n3, n7, e5]; exact ipa
  · unfold I_ls; rw [n1, n3, n7, e5]; exact ils
  · unfold I_cl; rw [n1, n3, n7, e5]; exact icl
  · refine ⟨?_, ?_, ?_⟩
    · rw [seg_o (by omega), upd_n (by omega), upd_n (by omega), e00]; exact mhd.1
    · rw [seg_o (by omega), upd_n (by omega), upd_n (by omega), e01]; exact mhd.2.1
    · rw [seg_o (by omega), upd_n (by omega), upd_s, e02, mhd.2.2]
  · intro p hp
    rw [seg_o (by omega), upd_n (by omega), upd_n (by omega), e1]
    exact mrc p hp
  · intro p r hp hr
    rw [n1] at hp
    rw [n3] at hr
    have := (irc p (by omega)).2.1
    rw [seg_o (by omega), upd_n (by omega), upd_n (by omega), seg_o (by omega), upd_n (by omega), upd_n (by omega), seg_o (by omega), upd_n (by omega), upd_n (by omega), e2, e3, e4]
    exact mre p r hp hr
  · intro p hp
    rw [seg_o (by omega), e11 p p hp hp]
    by_cases h : p = q
    · rw [if_pos h, h, upd_s]
    · rw [if_neg h, upd_n (by omega), upd_n (by omega)]
      exact mhe p hp
  · intro p s c hp hs hc
    rw [e11 p s hp hs]
    by_cases h : p = q
    · subst h
      rw [if_pos rfl, seg_in (by omega), b_0, b_0]
    · rw [if_neg h, seg_o (by omega), upd_n (by omega), upd_n (by omega)]
      exact mkn p s c hp hs hc
  · intro x y hx hy
    rw [seg_o (by omega), upd_n (by omega), upd_n (by omega), e6]
    exact mwr x y hx hy
  · intro x y k hx hy hk
    rw [n1] at hx hy
    rw [n4] at hk
    obtain ⟨l1, l2, l3, l4⟩ := mle x y k hx hy hk
    unfold lom
    rw [seg_o (by omega), upd_n (by omega), upd_n (by omega), seg_o (by omega), upd_n (by omega), upd_n (by omega), seg_o (by omega), upd_n (by omega), upd_n (by omega), e7, e8, e9, e10]
    refine ⟨l1, l2, l3, fun s c hs hc hb => ?_⟩
    rw [seg_o (by omega), upd_n (by omega), upd_n (by omega)]
    exact l4 s c hs hc hb
