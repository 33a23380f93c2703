theorem wlen_le (j : Nat) : wlen j ≤ 640 := by
  unfold wlen
  split <;> omega
theorem alen_le (k : Nat) : alen k ≤ 6315 := by
  unfold alen
  split <;> first | omega | (have := wlen_le; rename_i k' _ _ _ _ _ _ _ _ _ _ _ _; exact Nat.le_trans (wlen_le _) (by omega))
theorem wl_at {ks : List Nat} {g : GG} {S : St} {k : Nat} (h : k ∈ ks) : ∃ i : Nat, ks[i]? = some k ∧ (wl ks g S)[i]? = some (g.1 k, ct g (S k) k) := by
  obtain ⟨i, hi⟩ := List.getElem?_of_mem h
  exact ⟨i, hi, by unfold wl; rw [List.getElem?_map, hi]; rfl⟩
theorem nodup_at : ∀ {ks : List Nat}, ks.Nodup → ∀ {i j k : Nat}, ks[i]? = some k → ks[j]? = some k → i = j
  | [], _, i, j, k, h, _ => by simp at h
  | a :: t, hn, i, j, k, h1, h2 => by
    rw [List.nodup_cons] at hn
    cases i with
    | zero =>
      cases j with
      | zero => rfl
      | succ j =>
        rw [List.getElem?_cons_zero] at h1
        rw [List.getElem?_cons_succ] at h2
        cases h1
        exact absurd (List.mem_of_getElem? h2) hn.1
    | succ i =>
      rw [List.getElem?_cons_succ] at h1
      cases j with
      | zero =>
        rw [List.getElem?_cons_zero] at h2
        cases h2
        exact absurd (List.mem_of_getElem? h1) hn.1
      | succ j =>
        rw [List.getElem?_cons_succ] at h2
        rw [nodup_at hn.2 h1 h2]
theorem wl_set {ks : List Nat} {g : GG} {S : St} {k i : Nat} {r : Nat → Int32} {x : va_E} (hn : ks.Nodup) (hi : ks[i]? = some k) (hx : x = ct g r k) : (wl ks g S).set i (g.1 k, x) = wl ks g (sr S k r) := by
  subst hx
  have hl : i < ks.length := (List.getElem?_eq_some_iff.mp hi).1
  apply List.ext_getElem?
  intro j
  by_cases hj : j = i
  · subst hj
    rw [List.getElem?_set_self (by unfold wl; rw [List.length_map]; exact hl)]
    unfold wl
    rw [List.getElem?_map, hi]
    dsimp only [Option.map]
    rw [sr_s]
  · rw [List.getElem?_set_ne (Ne.symm hj)]
    unfold wl
    rw [List.getElem?_map, List.getElem?_map]
    cases hq : ks[j]? with
    | none => rfl
    | some q =>
      have hne : q ≠ k := fun e => hj (nodup_at hn (by rw [hq, e]) hi)
      dsimp only [Option.map]
      rw [sr_n hne]
section EV
variable {ks : List Nat} {m : MD} {pc : Nat} {L : List (Option V)} {sk : List V} {S : St} {Q : Option Int32 → St → Prop}
theorem ev_getf {own C : String} {T : u_T} {N ci idx f k : Nat} {v : V} (hm : m.1 = own) (hl : Cond.fieldLink own idx C (T f).2.1 (T f).2.2.1 ∈ gw) (hT : (T f).1 = C) (hin : ∀ w ∈ u_ws C T N, w ∈ gw) (hc : cls3[ci]? = some (C, T, N)) (hf : f < N) (hk : k ∈ ks)
    (hv : ∀ g : GG, ∃ fs, ct g (S k) k = .inr (ci, fs) ∧ fs[f]? = some (vl g v)) (hd : decode m.2.1 pc = .ok (.getfield idx, 3)) (kk : Ev ks m (pc + 3) L (v :: sk) S Q) : Ev ks m pc L (.inr k :: sk) S Q := by
  intro l g p e s mi args below meth c H locs ls C0 R1 S1 L1
  obtain ⟨i, h1, h2⟩ := wl_at (g := g) (S := S) hk
  obtain ⟨fs, h3, h4⟩ := hv g
  rw [h3] at h2
  exact va_get (D := g.2.1) (cl := cls3) C0.1 C0.2.1 C0.2.2.2.2.2.2.1 hin (hm ▸ C0.2.2.2.1) C0.2.2.2.2.2.2.2 R1.1 i h2 hc f hf (C0.2.2.2.2.2.2.1 _ hl) (fun x h => by rw [hT] at h; exact h) h4 hd (kk l g p e s mi args below meth c H locs ls C0 R1 S1 L1)
theorem ev_putf {own C : String} {T : u_T} {ty0 : Nat → FieldType} {N ci idx f k : Nat} {x : Int32} (hm : m.1 = own) (hl : Cond.fieldLink own idx C (T f).2.1 (T f).2.2.1 ∈ gw) (hT : (T f).1 = C) (hin : ∀ w ∈ u_ws C T N, w ∈ gw) (hc : cls3[ci]? = some (C, T, N)) (hty : ∀ k, k < N → parseFieldDescriptor (T k).2.2.1 = some (ty0 k)) (hnm : ∀ a, a < N → ∀ b, b < N → a ≠ b → (T a).2.1 ≠ (T b).2.1) (hfin : (T f).2.2.2 = false) (hti : (T f).2.2.1 = "I") (hf : f < N) (hk : k ∈ ks)
    (hv : ∀ g : GG, ∃ fs, ct g (S k) k = .inr (ci, fs) ∧ f < fs.length ∧ ct g (upd (S k) f x) k = .inr (ci, fs.set f (.int x))) (hd : decode m.2.1 pc = .ok (.putfield idx, 3)) (kk : Ev ks m (pc + 3) L sk (st S k f x) Q) : Ev ks m pc L (.inl x :: .inr k :: sk) S Q := by
  intro l g p e s mi args below meth c H locs ls C0 R1 S1 L1
  obtain ⟨i, h1, h2⟩ := wl_at (g := g) (S := S) hk
  obtain ⟨fs, h3, h4, h5⟩ := hv g
  rw [h3] at h2
  refine va_put (D := g.2.1) (cl := cls3) (A := AA ks g) (ty := .int) (v := .int x) C0.1 C0.2.1 C0.2.2.2.2.2.2.1 hin ty0 hty hnm (hm ▸ C0.2.2.2.1) C0.2.2.2.2.2.2.2 R1.1 R1.2.1 S1 i h2 hc f hf (C0.2.2.2.2.2.2.1 _ hl) (fun x h => by rw [hT] at h; exact h) hfin (by rw [hti]; decide +kernel) rfl rfl h4 hd (fun H1 locs1 hP hD hS => ?_)
  rw [wl_set R1.2.2 h1 h5.symm] at hP hD
  exact kk l g p e s mi args below meth c H1 locs1 ls C0 ⟨hP, hD, R1.2.2⟩ hS L1
theorem ev_iald {k i : Nat} (N : Nat) (hN : alen k = N) (ha : isA k = true) (hk : k ∈ ks) (hi : i < N) (hd : decode m.2.1 pc = .ok (.iaload, 1)) (kk : Ev ks m (pc + 1) L (.inl (S k i) :: sk) S Q) : Ev ks m pc L (.inl (nI i) :: .inr k :: sk) S Q := by
  intro l g p e s mi args below meth c H locs ls C0 R1 S1 L1
  obtain ⟨j, h1, h2⟩ := wl_at (g := g) (S := S) hk
  rw [ct_A ha] at h2
  subst hN
  have hb := alen_le k
  refine va_iald (D := g.2.1) (cl := cls3) C0.1 C0.2.1 C0.2.2.2.2.2.2.2 R1.1 j 0 h2 rfl (vp_in_nI hi (by omega)) hd ?_
  rw [nI_clamp (by omega)]
  exact kk l g p e s mi args below meth c H locs ls C0 R1 S1 L1
theorem ev_iast {k i : Nat} {x : Int32} (N : Nat) (hN : alen k = N) (ha : isA k = true) (hk : k ∈ ks) (hi : i < N) (hd : decode m.2.1 pc = .ok (.iastore, 1)) (kk : Ev ks m (pc + 1) L sk (st S k i x) Q) : Ev ks m pc L (.inl x :: .inl (nI i) :: .inr k :: sk) S Q := by
  intro l g p e s mi args below meth c H locs ls C0 R1 S1 L1
  obtain ⟨j, h1, h2⟩ := wl_at (g := g) (S := S) hk
  rw [ct_A ha] at h2
  subst hN
  have hb := alen_le k
  refine va_iast (D := g.2.1) (cl := cls3) (A := AA ks g) C0.1 C0.2.1 C0.2.2.2.2.2.2.2 R1.1 R1.2.1 S1 j 0 h2 rfl (vp_in_nI hi (by omega)) hd (fun H1 locs1 hP hD hS => ?_)
  rw [nI_clamp (by omega)] at hP hD
  rw [wl_set R1.2.2 h1 (ct_A ha).symm] at hP hD
  exact kk l g p e s mi args below meth c H1 locs1 ls C0 ⟨hP, hD, R1.2.2⟩ hS L1
theorem ct_107 {g : GG} {r : Nat → Int32} : ct g r 107 = .inl (g.2.2.2.1, 2, .inl r) := rfl
theorem ev_zald {i : Nat} (hk : 107 ∈ ks) (hi : i < 2) (hd : decode m.2.1 pc = .ok (.baload, 1)) (kk : Ev ks m (pc + 1) L (.inl (S 107 i) :: sk) S Q) : Ev ks m pc L (.inl (nI i) :: .inr 107 :: sk) S Q := by
  intro l g p e s mi args below meth c H locs ls C0 R1 S1 L1
  obtain ⟨j, h1, h2⟩ := wl_at (g := g) (S := S) hk
  rw [ct_107] at h2
  refine va_zald (D := g.2.1) (cl := cls3) C0.1 C0.2.1 C0.2.2.2.2.2.2.2 R1.1 j 1 h2 rfl (vp_in_nI hi (by omega)) hd ?_
  rw [nI_clamp (by omega)]
  exact kk l g p e s mi args below meth c H locs ls C0 R1 S1 L1
theorem ev_zast {i : Nat} {x : Int32} (hx : vp_nar .boolean x = x) (hk : 107 ∈ ks) (hi : i < 2) (hd : decode m.2.1 pc = .ok (.bastore, 1)) (kk : Ev ks m (pc + 1) L sk (st S 107 i x) Q) : Ev ks m pc L (.inl x :: .inl (nI i) :: .inr 107 :: sk) S Q := by
  intro l g p e s mi args below meth c H locs ls C0 R1 S1 L1
  obtain ⟨j, h1, h2⟩ := wl_at (g := g) (S := S) hk
  rw [ct_107] at h2
  refine va_zast (D := g.2.1) (cl := cls3) (A := AA ks g) C0.1 C0.2.1 C0.2.2.2.2.2.2.2 R1.1 R1.2.1 S1 j 1 h2 rfl (vp_in_nI hi (by omega)) hd (fun H1 locs1 hP hD hS => ?_)
  rw [nI_clamp (by omega), hx] at hP hD
  rw [wl_set R1.2.2 h1 ct_107.symm] at hP hD
  exact kk l g p e s mi args below meth c H1 locs1 ls C0 ⟨hP, hD, R1.2.2⟩ hS L1
theorem ev_aald97 {i : Nat} (hk : 97 ∈ ks) (hi : i < 5) (hd : decode m.2.1 pc = .ok (.aaload, 1)) (kk : Ev ks m (pc + 1) L (.inr (12 * (1 + i)) :: sk) S Q) : Ev ks m pc L (.inl (nI i) :: .inr 97 :: sk) S Q := by
  intro l g p e s mi args below meth c H locs ls C0 R1 S1 L1
  obtain ⟨j, h1, h2⟩ := wl_at (g := g) (S := S) hk
  refine va_aldq (D := g.2.1) (cl := cls3) (C := "CarriedOrders$World") C0.1 C0.2.1 C0.2.2.2.2.2.2.2 R1.1 j 2 h2 rfl (vp_in_nI hi (by omega)) hd ?_
  rw [nI_clamp (by omega)]
  exact kk l g p e s mi args below meth c H locs ls C0 R1 S1 L1
theorem ev_aald98 {i : Nat} (hk : 98 ∈ ks) (hi : i < 2) (hd : decode m.2.1 pc = .ok (.aaload, 1)) (kk : Ev ks m (pc + 1) L (.inr (12 * (6 + i)) :: sk) S Q) : Ev ks m pc L (.inl (nI i) :: .inr 98 :: sk) S Q := by
  intro l g p e s mi args below meth c H locs ls C0 R1 S1 L1
  obtain ⟨j, h1, h2⟩ := wl_at (g := g) (S := S) hk
  refine va_aldq (D := g.2.1) (cl := cls3) (C := "CarriedOrders$World") C0.1 C0.2.1 C0.2.2.2.2.2.2.2 R1.1 j 2 h2 rfl (vp_in_nI hi (by omega)) hd ?_
  rw [nI_clamp (by omega)]
  exact kk l g p e s mi args below meth c H locs ls C0 R1 S1 L1
theorem ev_alen {k : Nat} (N : Nat) (hN : alen k = N) (ha : isA k = true) (hk : k ∈ ks) (hd : decode m.2.1 pc = .ok (.arraylength, 1)) (kk : Ev ks m (pc + 1) L (.inl (nI N) :: sk) S Q) : Ev ks m pc L (.inr k :: sk) S Q := by
  intro l g p e s mi args below meth c H locs ls C0 R1 S1 L1
  obtain ⟨j, h1, h2⟩ := wl_at (g := g) (S := S) hk
  rw [ct_A ha] at h2
  subst hN
  exact va_alen (D := g.2.1) (cl := cls3) C0.1 C0.2.1 C0.2.2.2.2.2.2.2 R1.1 j 0 h2 rfl rfl hd (kk l g p e s mi args below meth c H locs ls C0 R1 S1 L1)
/-- what may differ in the store without a cell's differing -/
def wid (k : Nat) : Nat := bif isA k then alen k else bif Nat.blt k 96 then 3 else 9
def Eqv (ks : List Nat) (S S' : St) : Prop := ∀ k ∈ ks, ∀ i, i < wid k → S k i = S' k i
theorem arrV_cong {cA : ClassId} {n : Nat} {f f' : Nat → Value} (h : ∀ i, i < n → f i = f' i) : arrV cA n f = arrV cA n f' := by
  unfold arrV
  congr 1
  congr 1
  funext j
  exact h j.1 j.2
theorem ct_cong {g : GG} {D : va_G} {H : Heap} {r r' : Nat → Int32} {k : Nat} (h : ∀ i, i < wid k → r i = r' i) (hp : va_at D cls3 (g.1 k, ct g r k) H) : va_at D cls3 (g.1 k, ct g r' k) H := by
  by_cases ha : isA k = true
  · rw [ct_A ha] at hp ⊢
    show H[g.1 k]? = some (vp_cell _ _)
    rw [vp_cell_i, ← arrV_cong (f := fun j => Value.int (r j)) (fun i hi => by rw [h i (by unfold wid; rw [ha]; exact hi)])]
    exact hp
  · have ha : isA k = false := by simpa using ha
    have hw : ∀ i, i < 3 → r i = r' i := fun i hi => h i (by unfold wid; rw [ha]; show i < bif _ then 3 else 9; cases Nat.blt k 96 <;> simp <;> omega)
    by_cases h7 : k = 107
    · subst h7
      rw [ct_107] at hp ⊢
      show H[g.1 107]? = some (vp_cell _ _)
      rw [vp_cell_i, ← arrV_cong (f := fun j => Value.int (r j)) (fun i hi => by rw [hw i (by omega)])]
      exact hp
    have hc : Nat.beq k 107 = false := by
      cases hc : Nat.beq k 107 with
      | false => rfl
      | true => exact absurd (Nat.eq_of_beq_eq_true hc) h7
    have e : ct g r k = ct g r' k := by
      unfold ct
      rw [ha, hc]
      cases hb : Nat.blt k 96 with
      | true => simp only [cond_true, cond_false, fW, hw 0 (by omega), hw 1 (by omega), hw 2 (by omega)]
      | false =>
        have h9 : ∀ i, i < 9 → r i = r' i := fun i hi => h i (by unfold wid; rw [ha, hb]; exact hi)
        simp only [cond_false, fC, fM, h9 2 (by omega), h9 3 (by omega), h9 5 (by omega), h9 8 (by omega)]
    rw [← e]; exact hp
theorem Rp_cong {g : GG} {S S' : St} {H : Heap} (h : Eqv ks S S') (hR : Rp ks g S H) : Rp ks g S' H := by
  obtain ⟨hP, hD, hn⟩ := hR
  have key : ∀ (i : Nat) (q : Nat × va_E), (wl ks g S')[i]? = some q → ∃ k, ks[i]? = some k ∧ q = (g.1 k, ct g (S' k) k) ∧ (wl ks g S)[i]? = some (g.1 k, ct g (S k) k) := by
    intro i q hq
    unfold wl at hq ⊢
    rw [List.getElem?_map] at hq ⊢
    cases hk : ks[i]? with
    | none => rw [hk] at hq; cases hq
    | some k => rw [hk] at hq; exact ⟨k, rfl, (Option.some.inj hq).symm, rfl⟩
  refine ⟨fun i q hq => ?_, ⟨fun i j a b ha hb hab => ?_, fun i q hq => ?_⟩, hn⟩
  · obtain ⟨k, h1, rfl, h3⟩ := key i q hq
    exact ct_cong (h k (List.mem_of_getElem? h1)) (hP i _ h3)
  · obtain ⟨k, h1, rfl, h3⟩ := key i a ha
    obtain ⟨k', h1', rfl, h3'⟩ := key j b hb
    exact hD.1 i j _ _ h3 h3' hab
  · obtain ⟨k, h1, rfl, h3⟩ := key i q hq
    exact hD.2 i (g.1 k, ct g (S k) k) h3
theorem ev_cong {S' : St} (h : Eqv ks S S') (kk : Ev ks m pc L sk S' Q) : Ev ks m pc L sk S Q := fun l g p e s mi args below meth c H locs ls C R1 S1 L1 => kk l g p e s mi args below meth c H locs ls C (Rp_cong h R1) S1 L1
end EV
