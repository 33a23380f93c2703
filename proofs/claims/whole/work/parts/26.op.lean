theorem Cn.mono {ks : List Nat} {m : MD} {y : MethodName} {av : List V} {S : St} {Q Q' : Option Int32 → St → Prop} (h : Cn ks m y av S Q) (hq : ∀ r S', Q r S' → Q' r S') : Cn ks m y av S Q' := by
  intro l g p e h1 h2 h3 s mm args below h4 h5 h6 h7
  obtain ⟨n, o, a1, a2, a3, ⟨⟨r, S', b1, b2, b3, b4⟩, b5⟩, a5⟩ := h l g p e h1 h2 h3 s mm args below h4 h5 h6 h7
  exact ⟨n, o, a1, a2, a3, ⟨⟨r, S', b1, hq r S' b2, b3, b4⟩, b5⟩, a5⟩
/-- an operation of both: the same answer, and what goes together stays so -/
def Op (ks : List Nat) (m1 : MD) (y1 : MethodName) (m2 : MD) (y2 : MethodName) (av : List V) : Prop := ∀ C : St, (∃ M, Top C M) → ∃ (v : Int32) (P : St → Prop), Cn ks m1 y1 (.inr 96 :: av) C (Gi v P) ∧ (∀ C', P C' → ∀ k, 103 ≤ k → C' k = C k) ∧ ∀ M, Top C M → Cn ks m2 y2 (.inr 103 :: av) M (Gi v (fun M' => (∀ k, k < 103 → M' k = M k) ∧ ∀ C', P C' → Top C' M'))
theorem op_read {ks : List Nat} {m1 m2 : MD} {y1 y2 : MethodName} {av : List V} (h : ∀ C, Inv C → (∃ M, Top C M) → ∃ v, Cn ks m1 y1 (.inr 96 :: av) C (Ri v C) ∧ ∀ M, Top C M → Cn ks m2 y2 (.inr 103 :: av) M (Ri v M)) : Op ks m1 y1 m2 y2 av := by
  intro C hC
  obtain ⟨M0, hM0⟩ := id hC
  obtain ⟨v, h1, h2⟩ := h C hM0.1.1 hC
  refine ⟨v, fun S' => S' = C, h1, fun C' hC' k _ => by rw [hC'], fun M hM => ?_⟩
  refine (h2 M hM).mono (fun r S' hr => ⟨hr.1, fun k _ => by rw [hr.2], fun C' hC' => ?_⟩)
  rw [hr.2, hC']
  exact hM
theorem op_scr {ks : List Nat} {m1 m2 : MD} {y1 y2 : MethodName} {av : List V} (h : ∀ C, Inv C → (∃ M, Top C M) → ∃ v, Cn ks m1 y1 (.inr 96 :: av) C (Gi v (fun C' => ∀ k, k ≠ 101 → k ≠ 102 → C' k = C k)) ∧ ∀ M, Top C M → Cn ks m2 y2 (.inr 103 :: av) M (Gi v (fun M' => ∀ k, k ≠ 110 → k ≠ 111 → M' k = M k))) : Op ks m1 y1 m2 y2 av := by
  intro C hC
  obtain ⟨M0, hM0⟩ := id hC
  obtain ⟨v, h1, h2⟩ := h C hM0.1.1 hC
  refine ⟨v, _, h1, fun C' hC' k hk => hC' k (by omega) (by omega), fun M hM => ?_⟩
  refine (h2 M hM).mono (fun r S' hr => ⟨hr.1, fun k hk => hr.2 k (by omega) (by omega), fun C' hC' => ?_⟩)
  exact Top_cong (fun k hk => hC' k (by omega) (by omega)) (fun k h1 h2 => hr.2 k (by omega) (by omega)) hM
/-- the reference's row beside a world -/
theorem mf_n {w : St} {m : Nat → Int32} (h : Cpl w m) : m 0 = nI (nn w) ∧ m 1 = nI (ee w) ∧ m 2 = w 0 2 := ⟨h.2.1.1.trans h.1.1.1.1, h.2.1.2.1.trans h.1.1.2.1.1, h.2.1.2.2⟩
theorem mf_r {w : St} {m : Nat → Int32} (h : Cpl w m) : ∀ q, q < nn w → m (3 + q) = nI (rc w q) ∧ rc w q ≤ 8 := fun q hq => by
  have h4 := h.1.1.1.2.2
  have := h.1.2.1 q (by omega)
  exact ⟨(h.2.2.1 q (by omega)).trans this.1, this.2.1⟩
theorem mf_L {w : St} {m : Nat → Int32} (h : Cpl w m) : ∀ x y, x < 5 → y < 4 → m (123 + (4 * x + y)) = nI (wr w x y) ∧ wr w x y ≤ 8 := fun x y hx hy => by
  have := h.1.2.2.1 x y hx hy
  exact ⟨(h.2.2.2.2.2.2.1 x y hx hy).trans this.1, this.2.1⟩
theorem mf_B {w : St} {m : Nat → Int32} (h : Cpl w m) : BH m (nn w) (rc w) (bir w) := fun q r hq hr => by
  have h4 := h.1.1.1.2.2
  have hlt := tk_lt h.1 hq hr
  obtain ⟨e1, e2, e3, e4, -⟩ := h.1.2.2.2.1 q r hq hr
  obtain ⟨a1, a2, -⟩ := h.2.2.2.1 q r hq hr
  have hw := (h.1.2.2.1 (fr w q r) q (by omega) (by omega)).2.1
  refine ⟨⟨fr w q r, tk w q (fr w q r) r, by omega, by omega, a1.trans e1, a2.trans e4, ?_⟩, ?_⟩
  · exact (h.2.2.2.2.2.2.2 (fr w q r) q (tk w q (fr w q r) r) e2 hq hlt).2.1
  · rcases bir_cases h.1 hq hr with e | ⟨b, hb, e, -⟩
    · exact Or.inl e
    · exact Or.inr ⟨b, hb, e⟩
theorem mf_G {w : St} {m : Nat → Int32} (h : Cpl w m) (D : Int32) : Gfp (nn w) (rc w) D (orF (fun q => bif bt D q then 0 else m (103 + q)) (nn w)) (bir w) (kcn w D) := by
  have h4 := h.1.1.1.2.2
  refine kcn_gfp h.1 D (fun e => ?_)
  rw [b_orF]
  constructor
  · rintro ⟨p, h1, h2⟩
    cases hd : bt D p with
    | true => rw [hd] at h2; rw [show (bif true then (0 : Int32) else m (103 + p)) = 0 from rfl, b_0] at h2; cases h2
    | false =>
      rw [hd] at h2
      refine ⟨p, h1, hd, ?_⟩
      rw [← h.2.2.2.2.1 p (by omega)]
      exact h2
  · rintro ⟨p, h1, hd, h2⟩
    refine ⟨p, h1, ?_⟩
    rw [hd]
    show bt (m (103 + p)) e = true
    rw [h.2.2.2.2.1 p (by omega)]
    exact h2
theorem mf_b {w : St} {m : Nat → Int32} (h : Cpl w m) : ∀ x y k, x < nn w → y < nn w → k < wr w x y → m (lat x y k + 1) = -9 ∨ ∃ b, b < 32 ∧ m (lat x y k + 1) = nI b := fun x y k hx hy hk => by
  have h4 := h.1.1.1.2.2
  obtain ⟨r, hr, e⟩ := (h.1.2.2.2.2.2.1 x y k (by omega) hy hk).2.2.1 hx
  have h8 := (h.1.2.1 x (by omega)).2.1
  exact Or.inr ⟨x * 8 + r, by omega, (h.2.2.2.2.2.2.2 x y k (by omega) hy hk).2.1.trans e⟩
theorem mf_k {w : St} (hI : Inv w) (D : Int32) : (∀ q, q < nn w → kR (kcn w D) q = nI (kcn w D q) ∧ kcn w D q ≤ rc w q) ∧ ∀ q, kR (kcn w D) q = nI (kcn w D q) ∧ kcn w D q ≤ 8 := ⟨fun q _ => ⟨rfl, (kcn_le hI D q).1⟩, fun q => ⟨rfl, (kcn_le hI D q).2⟩⟩
/-- what the class's world says of itself -/
theorem wf_n {w : St} (h : Inv w) : (w 0 0 = nI (nn w) ∧ 2 ≤ nn w ∧ nn w ≤ 4) ∧ w 0 1 = nI (ee w) ∧ 1 ≤ ee w ∧ ee w ≤ 4 := ⟨h.1.1, h.1.2.1⟩
theorem wf_r {w : St} (h : Inv w) : ∀ q, q < nn w → w 1 q = nI (rc w q) ∧ rc w q ≤ 8 := fun q hq => by
  have h4 := h.1.1.2.2
  have := h.2.1 q (by omega)
  exact ⟨this.1, this.2.1⟩
theorem wf_L {w : St} (h : Inv w) : ∀ x y, x < 5 → y < 4 → w 6 (x * 4 + y) = nI (wr w x y) ∧ wr w x y ≤ 8 := fun x y hx hy => ⟨(h.2.2.1 x y hx hy).1, (h.2.2.1 x y hx hy).2.1⟩
