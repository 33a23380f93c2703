/-! a world and what holds of it; the reference's row beside it -/
def nn (w : St) : Nat := tn (w 0 0)
def ee (w : St) : Nat := tn (w 0 1)
def rc (w : St) (q : Nat) : Nat := tn (w 1 q)
def wr (w : St) (x y : Nat) : Nat := tn (w 6 (x * 4 + y))
def fr (w : St) (q r : Nat) : Nat := tn (w 2 (q * 8 + r))
def tk (w : St) (q x r : Nat) : Nat := fb_ct (fun j => decide (w 2 (q * 8 + j) = nI x)) r
def bir (w : St) (q r : Nat) : Int32 := w 8 ((fr w q r * 4 + q) * 8 + tk w q (fr w q r) r)
def isR (w : St) (c : Nat) : Prop := c / 8 < nn w ∧ c % 8 < rc w (c / 8)
def I_hd (w : St) : Prop := (w 0 0 = nI (nn w) ∧ 2 ≤ nn w ∧ nn w ≤ 4) ∧ (w 0 1 = nI (ee w) ∧ 1 ≤ ee w ∧ ee w ≤ 4) ∧ ∀ q, bt (w 0 2) q = true → q < nn w
def I_rc (w : St) : Prop := ∀ q, q < 4 → w 1 q = nI (rc w q) ∧ rc w q ≤ 8 ∧ (nn w ≤ q → rc w q = 0)
def I_wr (w : St) : Prop := ∀ x y, x < 5 → y < 4 → w 6 (x * 4 + y) = nI (wr w x y) ∧ wr w x y ≤ 8 ∧ (0 < wr w x y → x ≤ nn w ∧ y < nn w ∧ x ≠ y)
def I_re (w : St) : Prop := ∀ q r, q < nn w → r < rc w q → w 2 (q * 8 + r) = nI (fr w q r) ∧ fr w q r ≤ nn w ∧ fr w q r ≠ q ∧ w 3 (q * 8 + r) = nI (tk w q (fr w q r) r) ∧ ∃ b, b < 997 ∧ w 4 (q * 8 + r) = nI b
def I_tk (w : St) : Prop := ∀ x q, x ≤ nn w → q < nn w → tk w q x (rc w q) ≤ wr w x q
/-- a letter -/
def lok (w : St) (x y k : Nat) : Prop := (∃ c, c ≤ 99 ∧ w 7 ((x * 4 + y) * 8 + k) = nI c) ∧ (x = nn w → w 8 ((x * 4 + y) * 8 + k) = -9 ∧ w 9 ((x * 4 + y) * 8 + k) = 0) ∧ (x < nn w → ∃ r, r < rc w x ∧ w 8 ((x * 4 + y) * 8 + k) = nI (x * 8 + r)) ∧ (∀ c, bt (w 9 ((x * 4 + y) * 8 + k)) c = true → isR w c) ∧ ∀ s c, s < 4 → bt (w 10 (((x * 4 + y) * 8 + k) * 4 + s)) c = true → bt (w 9 ((x * 4 + y) * 8 + k)) c = true ∧ s < nn w
def I_le (w : St) : Prop := ∀ x y k, x ≤ nn w → y < nn w → k < wr w x y → lok w x y k
def I_in (w : St) : Prop := ∀ x y k k', x < nn w → y < nn w → k < k' → k' < wr w x y → tn (w 8 ((x * 4 + y) * 8 + k)) < tn (w 8 ((x * 4 + y) * 8 + k'))
def I_kn (w : St) : Prop := ∀ p s c, p < 4 → s < 4 → bt (w 11 (p * 4 + s)) c = true → p < nn w ∧ s < nn w ∧ bt (w 11 (p * 4 + p)) c = true ∧ isR w c ∧ bt (w 0 2) p = false
def I_pa (w : St) : Prop := ∀ q r, q < nn w → r < rc w q → ∀ d, bt (w 5 (q * 8 + r)) d = true ↔ d = q * 8 + r ∨ (0 < r ∧ bt (w 5 (q * 8 + (r - 1))) d = true) ∨ ∃ b, b < 32 ∧ bir w q r = nI b ∧ bt (w 5 b) d = true
def I_ls (w : St) : Prop := ∀ C : Nat → Prop, Clo (nn w) (rc w) (bir w) C → ∀ q r, q < nn w → r < rc w q → C (q * 8 + r) → ∀ d, bt (w 5 (q * 8 + r)) d = true → C d
def I_cl (w : St) : Prop := ∀ q r, q < nn w → r < rc w q → Clo (nn w) (rc w) (bir w) (fun d => bt (w 5 (q * 8 + r)) d = true)
def Inv (w : St) : Prop := I_hd w ∧ I_rc w ∧ I_wr w ∧ I_re w ∧ I_tk w ∧ I_le w ∧ I_in w ∧ I_kn w ∧ I_pa w ∧ I_ls w ∧ I_cl w
def M_hd (w : St) (m : Nat → Int32) : Prop := m 0 = w 0 0 ∧ m 1 = w 0 1 ∧ m 2 = w 0 2
def M_rc (w : St) (m : Nat → Int32) : Prop := ∀ q, q < 4 → m (3 + q) = w 1 q
def M_re (w : St) (m : Nat → Int32) : Prop := ∀ q r, q < nn w → r < rc w q → m (7 + 24 * q + 3 * r + 0) = w 2 (q * 8 + r) ∧ m (7 + 24 * q + 3 * r + 1) = w 3 (q * 8 + r) ∧ m (7 + 24 * q + 3 * r + 2) = w 4 (q * 8 + r)
def M_he (w : St) (m : Nat → Int32) : Prop := ∀ p, p < 4 → m (103 + p) = w 11 (p * 4 + p)
def M_kn (w : St) (m : Nat → Int32) : Prop := ∀ p s c, p < 4 → s < 4 → c < 32 → bt (m (107 + 4 * p + c / 8)) (4 * (c % 8) + s) = bt (w 11 (p * 4 + s)) c
def M_wr (w : St) (m : Nat → Int32) : Prop := ∀ x y, x < 5 → y < 4 → m (123 + (4 * x + y)) = w 6 (x * 4 + y)
def lom (w : St) (m : Nat → Int32) (x y k : Nat) : Prop := m (143 + 7 * (8 * (4 * x + y) + k)) = w 7 ((x * 4 + y) * 8 + k) ∧ m (143 + 7 * (8 * (4 * x + y) + k) + 1) = w 8 ((x * 4 + y) * 8 + k) ∧ m (143 + 7 * (8 * (4 * x + y) + k) + 2) = w 9 ((x * 4 + y) * 8 + k) ∧ ∀ s c, s < 4 → c < 32 → bt (w 9 ((x * 4 + y) * 8 + k)) c = true → bt (m (143 + 7 * (8 * (4 * x + y) + k) + 3 + c / 8)) (4 * (c % 8) + s) = bt (w 10 (((x * 4 + y) * 8 + k) * 4 + s)) c
def M_le (w : St) (m : Nat → Int32) : Prop := ∀ x y k, x ≤ nn w → y < nn w → k < wr w x y → lom w m x y k
def MR (w : St) (m : Nat → Int32) : Prop := M_hd w m ∧ M_rc w m ∧ M_re w m ∧ M_he w m ∧ M_kn w m ∧ M_wr w m ∧ M_le w m
def Cpl (w : St) (m : Nat → Int32) : Prop := Inv w ∧ MR w m
/-- the world a of the class's -/
def wv (S : St) (a : Nat) : St := fun j => S (12 * a + j)
theorem Inv_cong {w w' : St} (h : ∀ j, j < 12 → w' j = w j) (hI : Inv w) : Inv w' := by
  have e0 := h 0 (by omega)
  have e1 := h 1 (by omega)
  have e2 := h 2 (by omega)
  have e3 := h 3 (by omega)
  have e4 := h 4 (by omega)
  have e5 := h 5 (by omega)
  have e6 := h 6 (by omega)
  have e7 := h 7 (by omega)
  have e8 := h 8 (by omega)
  have e9 := h 9 (by omega)
  have e10 := h 10 (by omega)
  have e11 := h 11 (by omega)
  have n1 : nn w' = nn w := by unfold nn; rw [e0]
  have n2 : ee w' = ee w := by unfold ee; rw [e0]
  have n3 : rc w' = rc w := by funext q; unfold rc; rw [e1]
  have n4 : wr w' = wr w := by funext x y; unfold wr; rw [e6]
  have n5 : fr w' = fr w := by funext q r; unfold fr; rw [e2]
  have n6 : tk w' = tk w := by funext q x r; unfold tk; rw [e2]
  have n7 : bir w' = bir w := by funext q r; unfold bir; rw [e8, n5, n6]
  have n8 : isR w' = isR w := by funext c; unfold isR; rw [n1, n3]
  have n9 : lok w' = lok w := by funext x y k; unfold lok; rw [n1, n3, n8, e7, e8, e9, e10]
  unfold Inv I_hd I_rc I_wr I_re I_tk I_le I_in I_kn I_pa I_ls I_cl at hI ⊢
  rw [n1, n2, n3, n4, n5, n6, n7, n8, n9, e0, e1, e2, e3, e4, e5, e6, e8, e11]
  exact hI
theorem MR_cong {w w' : St} {m m' : Nat → Int32} (h : ∀ j, j < 12 → w' j = w j) (hm : ∀ i, i < 1263 → m' i = m i) (hI : Inv w) (hR : MR w m) : MR w' m' := by
  have e0 := h 0 (by omega)
  have e1 := h 1 (by omega)
  have e2 := h 2 (by omega)
  have e3 := h 3 (by omega)
  have e4 := h 4 (by omega)
  have e6 := h 6 (by omega)
  have e7 := h 7 (by omega)
  have e8 := h 8 (by omega)
  have e9 := h 9 (by omega)
  have e10 := h 10 (by omega)
  have e11 := h 11 (by omega)
  have n1 : nn w' = nn w := by unfold nn; rw [e0]
  have n3 : rc w' = rc w := by funext q; unfold rc; rw [e1]
  have n4 : wr w' = wr w := by funext x y; unfold wr; rw [e6]
  obtain ⟨ihd, irc, iwr, -⟩ := hI
  have h4 : nn w ≤ 4 := ihd.1.2.2
  have r8 : ∀ q, q < 4 → rc w q ≤ 8 := fun q hq => (irc q hq).2.1
  have w8 : ∀ x y, x < 5 → y < 4 → wr w x y ≤ 8 := fun x y hx hy => (iwr x y hx hy).2.1
  obtain ⟨a1, a2, a3, a4, a5, a6, a7⟩ := hR
  refine ⟨?_, ?_, ?_, ?_, ?_, ?_, ?_⟩
  · unfold M_hd at a1 ⊢
    rw [hm 0 (by omega), hm 1 (by omega), hm 2 (by omega), e0]
    exact a1
  · intro q hq
    rw [hm _ (by omega), e1]
    exact a2 q hq
  · intro q r hq hr
    rw [n1] at hq
    rw [n3] at hr
    have := r8 q (by omega)
    rw [hm _ (by omega), hm _ (by omega), hm _ (by omega), e2, e3, e4]
    exact a3 q r hq hr
  · intro p hp
    rw [hm _ (by omega), e11]
    exact a4 p hp
  · intro p s c hp hs hc
    rw [hm _ (by omega), e11]
    exact a5 p s c hp hs hc
  · intro x y hx hy
    rw [hm _ (by omega), e6]
    exact a6 x y hx hy
  · intro x y k hx hy hk
    rw [n1] at hx hy
    rw [n4] at hk
    have := w8 x y (by omega) (by omega)
    obtain ⟨b1, b2, b3, b4⟩ := a7 x y k hx hy hk
    refine ⟨?_, ?_, ?_, ?_⟩
    · rw [hm _ (by omega), e7]; exact b1
    · rw [hm _ (by omega), e8]; exact b2
    · rw [hm _ (by omega), e9]; exact b3
    · intro s c hs hc hb
      rw [e9] at hb
      rw [hm _ (by omega), e10]
      exact b4 s c hs hc hb
theorem Cpl_cong {w w' : St} {m m' : Nat → Int32} (h : ∀ j, j < 12 → w' j = w j) (hm : ∀ i, i < 1263 → m' i = m i) (hC : Cpl w m) : Cpl w' m' := ⟨Inv_cong h hC.1, MR_cong h hm hC.1 hC.2⟩
/-- the class's cells of C and the reference's of M go together -/
def T_u (C M : St) : Prop := ∃ u ne, u ≤ 5 ∧ ne < 5 ∧ C 96 3 = nI u ∧ C 96 2 = nI ne ∧ M 103 2 = nI u ∧ ∀ j, j < u → Cpl (wv C (1 + (ne + 4 - j) % 5)) (fun i => M 105 (1263 * (u - 1 - j) + i))
def T_im (C M : St) : Prop := ∀ i, i < 2 → M 107 i = bI (bt (C 96 5) i) ∧ (bt (C 96 5) i = true → Cpl (wv C (6 + i)) (fun j => M 106 (1263 * i + j)))
def T_se (C M : St) : Prop := ∃ se, se ≤ 6 ∧ C 96 8 = nI se ∧ M 103 5 = nI se ∧ ∀ j, j < se → ∃ a b, a < 4 ∧ b ≤ 8 ∧ C 99 j = nI a ∧ M 108 j = nI a ∧ C 100 j = nI b ∧ M 109 j = nI b
def Top (C M : St) : Prop := Cpl C (M 104) ∧ T_u C M ∧ T_im C M ∧ T_se C M
theorem Top_cong {C C' M M' : St} (hC : ∀ k, k < 101 → C' k = C k) (hM : ∀ k, 103 ≤ k → k < 110 → M' k = M k) (h : Top C M) : Top C' M' := by
  obtain ⟨h1, ⟨u, ne, u1, u2, u3, u4, u5, u6⟩, h3, ⟨se, s1, s2, s3, s4⟩⟩ := h
  have wvc : ∀ a, a < 8 → wv C' a = wv C a ∨ True := fun _ _ => Or.inr trivial
  refine ⟨?_, ⟨u, ne, u1, u2, ?_, ?_, ?_, ?_⟩, ?_, ⟨se, s1, ?_, ?_, ?_⟩⟩
  · exact Cpl_cong (fun j hj => hC j (by omega)) (fun i _ => by rw [hM 104 (by omega) (by omega)]) h1
  · rw [hC 96 (by omega)]; exact u3
  · rw [hC 96 (by omega)]; exact u4
  · rw [hM 103 (by omega) (by omega)]; exact u5
  · intro j hj
    exact Cpl_cong (fun i hi => hC _ (by omega)) (fun i _ => by rw [hM 105 (by omega) (by omega)]) (u6 j hj)
  · intro i hi
    rw [hC 96 (by omega), hM 107 (by omega) (by omega)]
    refine ⟨(h3 i hi).1, fun hb => ?_⟩
    exact Cpl_cong (fun j hj => hC _ (by omega)) (fun j _ => by rw [hM 106 (by omega) (by omega)]) ((h3 i hi).2 hb)
  · rw [hC 96 (by omega)]; exact s2
  · rw [hM 103 (by omega) (by omega)]; exact s3
  · intro j hj
    rw [hC 99 (by omega), hC 100 (by omega), hM 108 (by omega) (by omega), hM 109 (by omega) (by omega)]
    exact s4 j hj
/-- worlds begun anew -/
theorem Cpl_start {S : St} {n e : Nat} (h2 : 2 ≤ n) (h4 : n ≤ 4) (he1 : 1 ≤ e) (he4 : e ≤ 4) : Cpl (startW S (nI n) (nI e)) (fun i => if i = 0 then nI n else if i = 1 then nI e else 0) := by
  generalize hw : startW S (nI n) (nI e) = w
  have e00 : w 0 0 = nI n := by rw [← hw]; rfl
  have e01 : w 0 1 = nI e := by rw [← hw]; rfl
  have e02 : w 0 2 = 0 := by rw [← hw]; rfl
  have e1 : ∀ q, w 1 q = 0 := fun q => by rw [← hw]; rfl
  have e6 : ∀ q, w 6 q = 0 := fun q => by rw [← hw]; rfl
  have e11 : ∀ q, w 11 q = 0 := fun q => by rw [← hw]; rfl
  have t0 : tn 0 = 0 := by decide +kernel
  have n1 : nn w = n := by unfold nn; rw [e00]; exact tn_nI (by omega)
  have n2 : ee w = e := by unfold ee; rw [e01]; exact tn_nI (by omega)
  have n3 : ∀ q, rc w q = 0 := fun q => by unfold rc; rw [e1]; exact t0
  have n4 : ∀ x y, wr w x y = 0 := fun x y => by unfold wr; rw [e6]; exact t0
  refine ⟨⟨?_, ?_, ?_, ?_, ?_, ?_, ?_, ?_, ?_, ?_, ?_⟩, ?_, ?_, ?_, ?_, ?_, ?_, ?_⟩
  · refine ⟨⟨by rw [n1]; exact e00, by omega, by omega⟩, ⟨by rw [n2]; exact e01, by omega, by omega⟩, fun q hq => ?_⟩
    rw [e02, b_0] at hq
    cases hq
  · intro q hq
    rw [n3, e1]
    exact ⟨nI_0.symm, by omega, fun _ => rfl⟩
  · intro x y hx hy
    rw [n4, e6]
    exact ⟨nI_0.symm, by omega, fun h => by omega⟩
  · intro q r hq hr
    rw [n3] at hr
    omega
  · intro x q hx hq
    rw [n3]
    exact Nat.zero_le _
  · intro x y k hx hy hk
    rw [n4] at hk
    omega
  · intro x y k k' hx hy hk hk'
    rw [n4] at hk'
    omega
  · intro p s c hp hs hb
    rw [e11, b_0] at hb
    cases hb
  · intro q r hq hr
    rw [n3] at hr
    omega
  · intro C hC q r hq hr
    rw [n3] at hr
    omega
  · intro q r hq hr
    rw [n3] at hr
    omega
  · exact ⟨e00.symm, e01.symm, e02.symm⟩
  · intro q hq
    rw [e1]
    show (if 3 + q = 0 then nI n else if 3 + q = 1 then nI e else 0) = 0
    rw [if_neg (by omega), if_neg (by omega)]
  · intro q r hq hr
    rw [n3] at hr
    omega
  · intro p hp
    rw [e11]
    show (if 103 + p = 0 then nI n else if 103 + p = 1 then nI e else 0) = 0
    rw [if_neg (by omega), if_neg (by omega)]
  · intro p s c hp hs hc
    rw [e11]
    show bt (if 107 + 4 * p + c / 8 = 0 then nI n else if 107 + 4 * p + c / 8 = 1 then nI e else 0) _ = _
    rw [if_neg (by omega), if_neg (by omega), b_0, b_0]
  · intro x y hx hy
    rw [e6]
    show (if 123 + (4 * x + y) = 0 then nI n else if 123 + (4 * x + y) = 1 then nI e else 0) = 0
    rw [if_neg (by omega), if_neg (by omega)]
  · intro x y k hx hy hk
    rw [n4] at hk
    omega
