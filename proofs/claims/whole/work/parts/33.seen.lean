theorem op_fn {ks : List Nat} {m1 m2 : MD} {y1 y2 : MethodName} {av : List V} (h : ∀ C, Inv C → (∃ M, Top C M) → ∃ v C', Cn ks m1 y1 (.inr 96 :: av) C (Ri v C') ∧ (∀ k, 103 ≤ k → C' k = C k) ∧ ∀ M, Top C M → ∃ M', Cn ks m2 y2 (.inr 103 :: av) M (Ri v M') ∧ (∀ k, k < 103 → M' k = M k) ∧ Top C' M') : Op ks m1 y1 m2 y2 av := by
  intro C hC
  obtain ⟨M0, hM0⟩ := id hC
  obtain ⟨v, C', h1, h2, h3⟩ := h C hM0.1.1 hC
  refine ⟨v, fun S' => S' = C', h1, fun X hX k hk => by rw [hX]; exact h2 k hk, fun M hM => ?_⟩
  obtain ⟨M', a, b, c⟩ := h3 M hM
  refine a.mono (fun r S' hr => ⟨hr.1, fun k hk => by rw [hr.2]; exact b k hk, fun X hX => ?_⟩)
  rw [hr.2, hX]
  exact c
theorem fn_read {ks : List Nat} {m1 m2 : MD} {y1 y2 : MethodName} {av : List V} {C : St} (v : Int32) (h1 : Cn ks m1 y1 (.inr 96 :: av) C (Ri v C)) (h2 : ∀ M, Top C M → Cn ks m2 y2 (.inr 103 :: av) M (Ri v M)) : ∃ v C', Cn ks m1 y1 (.inr 96 :: av) C (Ri v C') ∧ (∀ k, 103 ≤ k → C' k = C k) ∧ ∀ M, Top C M → ∃ M', Cn ks m2 y2 (.inr 103 :: av) M (Ri v M') ∧ (∀ k, k < 103 → M' k = M k) ∧ Top C' M' := ⟨v, C, h1, fun _ _ => rfl, fun M hM => ⟨M, h2 M hM, fun _ _ => rfl, hM⟩⟩
theorem T_u_cong {C C' M M' : St} (h : T_u C M) (hw : ∀ k, 12 ≤ k → k < 96 → C' k = C k) (h2 : C' 96 2 = C 96 2) (h3 : C' 96 3 = C 96 3) (hm : M' 105 = M 105) (hm2 : M' 103 2 = M 103 2) : T_u C' M' := by
  obtain ⟨u, ne, u1, u2, u3, u4, u5, u6⟩ := h
  refine ⟨u, ne, u1, u2, h3.trans u3, h2.trans u4, hm2.trans u5, fun j hj => ?_⟩
  refine Cpl_cong (fun i hi => ?_) (fun i _ => by rw [hm]) (u6 j hj)
  exact hw _ (by omega) (by omega)
theorem T_im_cong {C C' M M' : St} (h : T_im C M) (hw : ∀ k, 12 ≤ k → k < 96 → C' k = C k) (h5 : C' 96 5 = C 96 5) (hm : M' 106 = M 106) (hm2 : M' 107 = M 107) : T_im C' M' := by
  intro i hi
  rw [h5, hm2]
  refine ⟨(h i hi).1, fun hb => ?_⟩
  exact Cpl_cong (fun j hj => hw _ (by omega) (by omega)) (fun j _ => by rw [hm]) ((h i hi).2 hb)
theorem T_se_cong {C C' M M' : St} (h : T_se C M) (h8 : C' 96 8 = C 96 8) (c1 : C' 99 = C 99) (c2 : C' 100 = C 100) (h5 : M' 103 5 = M 103 5) (m1 : M' 108 = M 108) (m2 : M' 109 = M 109) : T_se C' M' := by
  obtain ⟨se, s1, s2, s3, s4⟩ := h
  refine ⟨se, s1, h8.trans s2, h5.trans s3, ?_⟩
  rw [c1, c2, m1, m2]
  exact s4
/-- another world now -/
theorem Top_set {W Z C' M' : St} (h : Top W Z) (hc : Cpl C' (M' 104)) (hw : ∀ k, 12 ≤ k → k < 103 → C' k = W k) (hm : ∀ k, 103 ≤ k → k < 110 → k ≠ 104 → M' k = Z k) : Top C' M' := by
  refine ⟨hc, T_u_cong h.2.1 (fun k a b => hw k a (by omega)) (by rw [hw 96 (by omega) (by omega)]) (by rw [hw 96 (by omega) (by omega)]) (hm 105 (by omega) (by omega) (by omega)) (by rw [hm 103 (by omega) (by omega) (by omega)]), T_im_cong h.2.2.1 (fun k a b => hw k a (by omega)) (by rw [hw 96 (by omega) (by omega)]) (hm 106 (by omega) (by omega) (by omega)) (hm 107 (by omega) (by omega) (by omega)), T_se_cong h.2.2.2 (by rw [hw 96 (by omega) (by omega)]) (hw 99 (by omega) (by omega)) (hw 100 (by omega) (by omega)) (by rw [hm 103 (by omega) (by omega) (by omega)]) (hm 108 (by omega) (by omega) (by omega)) (hm 109 (by omega) (by omega) (by omega))⟩
theorem op_forget {ks : List Nat} (hC : InC ks) (hM : InM ks) : Op ks mX1_forget yX1_forget mX2_forget yX2_forget [] := by
  refine op_fn (fun C hI hX => ?_)
  have hW : InW ks := hC.w
  obtain ⟨⟨hn, h2, h4⟩, he, he1, he4⟩ := wf_n hI
  have hr := wf_r hI
  have hL := wf_L hI
  refine ⟨C 96 8, st C 96 8 (nI 0), ?_, fun k hk => by rw [st_n, sr_n (by omega)], fun M hT => ⟨st M 103 5 (nI 0), ?_, fun k hk => by rw [st_n, sr_n (by omega)], ?_⟩⟩
  · refine cnV okX1_forget 1 rfl ?_
    show Ev ks mX1_forget 0 [some (.inr 96), none] [] C _
    refine ev_aload_n0 dX1_forget_0 ?_
    refine gfX1_43 rfl (hC 96 rfl) dX1_forget_1 ?_
    refine ev_istore_n1 dX1_forget_4 ?_
    refine ev_aload_n0 dX1_forget_5 ?_
    refine ev_c0 dX1_forget_6 ?_
    refine pfX1_43 rfl (hC 96 rfl) dX1_forget_7 ?_
    refine ev_iload_n1 dX1_forget_10 ?_
    refine ev_ireturn rfl dX1_forget_11 ?_
    exact ⟨rfl, rfl⟩
  · refine cnV okX2_forget 1 rfl ?_
    show Ev ks mX2_forget 0 [some (.inr 103), none] [] M _
    refine ev_aload_n0 dX2_forget_0 ?_
    refine gfX2_75 rfl (hM 103 rfl) dX2_forget_1 ?_
    refine ev_istore_n1 dX2_forget_4 ?_
    refine ev_aload_n0 dX2_forget_5 ?_
    refine ev_c0 dX2_forget_6 ?_
    refine pfX2_75 rfl (hM 103 rfl) dX2_forget_7 ?_
    refine ev_iload_n1 dX2_forget_10 ?_
    refine ev_ireturn rfl dX2_forget_11 ?_
    obtain ⟨se, s1, s2, s3, s4⟩ := hT.2.2.2
    exact ⟨by rw [s2, s3], rfl⟩
  · refine ⟨hT.1, T_u_cong hT.2.1 (fun k a b => by rw [st_n, sr_n (by omega)]) rfl rfl rfl rfl, T_im_cong hT.2.2.1 (fun k a b => by rw [st_n, sr_n (by omega)]) rfl rfl rfl, ⟨0, by omega, rfl, rfl, fun j hj => by omega⟩⟩
theorem op_sees {ks : List Nat} (hC : InC ks) (hM : InM ks) {q b : Int32} : Op ks mX1_sees yX1_sees mX2_sees yX2_sees [.inl q, .inl b] := by
  refine op_fn (fun C hI hX => ?_)
  have hW : InW ks := hC.w
  obtain ⟨⟨hn, h2, h4⟩, he, he1, he4⟩ := wf_n hI
  have hr := wf_r hI
  have hL := wf_L hI
  obtain ⟨M0, hM0⟩ := id hX
  obtain ⟨se, s1, s2, -⟩ := hM0.2.2.2
  have ms : ∀ M, Top C M → M 103 5 = nI se := fun M hT => by
    obtain ⟨se', t1, t2, t3, -⟩ := hT.2.2.2
    rw [t3, ← t2, s2]
  cases hq : isS (nn C) q with
  | false =>
    refine fn_read (-1) ?_ (fun M hT => ?_)
    · refine cnV okX1_sees 0 rfl ?_
      show Ev ks mX1_sees 0 [some (.inr 96), some (.inl q), some (.inl b)] [] C _
      refine ev_aload_n0 dX1_sees_0 ?_
      refine gfX1_12 rfl (hC 96 rfl) dX1_sees_1 ?_
      refine ev_iload_n1 dX1_sees_4 ?_
      refine ev_cV1f okX0_isSite lkX1_50 (Nat.le_of_ble_eq_true rfl) (Nat.le_of_ble_eq_true rfl) (hC 0 rfl) isO_0 (c_X0_isSite hW hn) dX1_sees_5 ?_
      first | refine ev_if_eqB 21 (by decide) dX1_sees_8 (fun h8 => ?_) (fun h8 => by rw [hq] at h8; cases h8)
      refine ev_cm1 dX1_sees_21 ?_
      refine ev_ireturn rfl dX1_sees_22 ?_
      exact ⟨rfl, rfl⟩
    · have mn := (mf_n hT.1).1
      have me := (mf_n hT.1).2.1
      have m2 := (mf_n hT.1).2.2
      have mr := mf_r hT.1
      have mL := mf_L hT.1
      refine cnV okX2_sees 0 rfl ?_
      show Ev ks mX2_sees 0 [some (.inr 103), some (.inl q), some (.inl b)] [] M _
      refine ev_aload_n0 dX2_sees_0 ?_
      refine ev_iload_n1 dX2_sees_1 ?_
      refine ev_cV1f okX2_isSite lkX2_78 (Nat.le_of_ble_eq_true rfl) (Nat.le_of_ble_eq_true rfl) (hM 103 rfl) isO_103 (c_X2_isSite hM mn h2 h4) dX2_sees_2 ?_
      first | refine ev_if_eqB 18 (by decide) dX2_sees_5 (fun h5 => ?_) (fun h5 => by rw [hq] at h5; cases h5)
      refine ev_cm1 dX2_sees_18 ?_
      refine ev_ireturn rfl dX2_sees_19 ?_
      exact ⟨rfl, rfl⟩
  | true =>
    obtain ⟨j, hj, rfl⟩ := (isS_iff (by omega)).mp hq
    cases hb : isS 9 b with
    | false =>
      refine fn_read (-1) ?_ (fun M hT => ?_)
      · refine cnV okX1_sees 0 rfl ?_
        show Ev ks mX1_sees 0 [some (.inr 96), some (.inl (nI j)), some (.inl b)] [] C _
        refine ev_aload_n0 dX1_sees_0 ?_
        refine gfX1_12 rfl (hC 96 rfl) dX1_sees_1 ?_
        refine ev_iload_n1 dX1_sees_4 ?_
        refine ev_cV1f okX0_isSite lkX1_50 (Nat.le_of_ble_eq_true rfl) (Nat.le_of_ble_eq_true rfl) (hC 0 rfl) isO_0 (c_X0_isSite hW hn) dX1_sees_5 ?_
        first | refine ev_if_eqB 21 (by decide) dX1_sees_8 (fun h8 => by rw [hq] at h8; cases h8) (fun h8 => ?_)
        refine ev_iload_n2 dX1_sees_11 ?_
        first | refine ev_if_lt 21 (by decide) dX1_sees_12 (fun h12 => ?_) (fun h12 => ?_)
        · refine ev_cm1 dX1_sees_21 ?_
          refine ev_ireturn rfl dX1_sees_22 ?_
          exact ⟨rfl, rfl⟩
        · refine ev_iload_n2 dX1_sees_15 ?_
          refine ev_bipush (nI 8) kb_8 dX1_sees_16 ?_
          first | refine ev_icmp_le 23 (by decide) dX1_sees_18 (fun h18 => by exact (isS_out (by omega) hb h12 h18).elim) (fun h18 => ?_)
          refine ev_cm1 dX1_sees_21 ?_
          refine ev_ireturn rfl dX1_sees_22 ?_
          exact ⟨rfl, rfl⟩
      · have mn := (mf_n hT.1).1
        have me := (mf_n hT.1).2.1
        have m2 := (mf_n hT.1).2.2
        have mr := mf_r hT.1
        have mL := mf_L hT.1
        refine cnV okX2_sees 0 rfl ?_
        show Ev ks mX2_sees 0 [some (.inr 103), some (.inl (nI j)), some (.inl b)] [] M _
        refine ev_aload_n0 dX2_sees_0 ?_
        refine ev_iload_n1 dX2_sees_1 ?_
        refine ev_cV1f okX2_isSite lkX2_78 (Nat.le_of_ble_eq_true rfl) (Nat.le_of_ble_eq_true rfl) (hM 103 rfl) isO_103 (c_X2_isSite hM mn h2 h4) dX2_sees_2 ?_
        first | refine ev_if_eqB 18 (by decide) dX2_sees_5 (fun h5 => by rw [hq] at h5; cases h5) (fun h5 => ?_)
        refine ev_iload_n2 dX2_sees_8 ?_
        refine ev_c0 dX2_sees_9 ?_
        refine ev_bipush (nI 8) kb_8 dX2_sees_10 ?_
        refine ev_cS3f okX2_in lkX2_43 (Nat.le_of_ble_eq_true rfl) (Nat.le_of_ble_eq_true rfl) c_X2_in dX2_sees_12 ?_
        first | refine ev_if_neB 20 (by decide) dX2_sees_15 (fun h15 => by rw [isS_in (by omega), hb] at h15; cases h15) (fun h15 => ?_)
        refine ev_cm1 dX2_sees_18 ?_
        refine ev_ireturn rfl dX2_sees_19 ?_
        exact ⟨rfl, rfl⟩
    | true =>
      obtain ⟨b, hb9, rfl⟩ := (isS_iff (by omega)).mp hb
      rcases Nat.lt_or_ge se 6 with h6 | h6
      · have e1 : st C 99 se (nI j) 96 8 = nI se := s2
        have e2 : st (st C 99 se (nI j)) 100 se (nI b) 96 8 = nI se := s2
        refine ⟨nI (se + 1), st (st (st C 99 se (nI j)) 100 se (nI b)) 96 8 (nI (se + 1)), ?_, fun k hk => by rw [st_n, sr_n (by omega), st_n, sr_n (by omega), st_n, sr_n (by omega)], fun M hT => ⟨st (st (st M 108 se (nI j)) 109 se (nI b)) 103 5 (nI (se + 1)), ?_, fun k hk => by rw [st_n, sr_n (by omega), st_n, sr_n (by omega), st_n, sr_n (by omega)], ?_⟩⟩
        · refine cnV okX1_sees 0 rfl ?_
          show Ev ks mX1_sees 0 [some (.inr 96), some (.inl (nI j)), some (.inl (nI b))] [] C _
          refine ev_aload_n0 dX1_sees_0 ?_
          refine gfX1_12 rfl (hC 96 rfl) dX1_sees_1 ?_
          refine ev_iload_n1 dX1_sees_4 ?_
          refine ev_cV1f okX0_isSite lkX1_50 (Nat.le_of_ble_eq_true rfl) (Nat.le_of_ble_eq_true rfl) (hC 0 rfl) isO_0 (c_X0_isSite hW hn) dX1_sees_5 ?_
          first | refine ev_if_eqB 21 (by decide) dX1_sees_8 (fun h8 => by rw [hq] at h8; cases h8) (fun h8 => ?_)
          refine ev_iload_n2 dX1_sees_11 ?_
          refine ev_if_ltN 21 (by omega) (by decide) dX1_sees_12 ?_
          refine ev_iload_n2 dX1_sees_15 ?_
          refine ev_bipush (nI 8) kb_8 dX1_sees_16 ?_
          first | refine ev_icmp_leN 23 (by omega) (by omega) (by decide) dX1_sees_18 (fun h18 => ?_) (fun h18 => by omega)
          refine ev_aload_n0 dX1_sees_23 ?_
          refine gfX1_43 rfl (hC 96 rfl) dX1_sees_24 ?_
          rw [s2]
          refine ev_bipush (nI 6) kb_6 dX1_sees_27 ?_
          first | refine ev_icmp_ltN 35 (by omega) (by omega) (by decide) dX1_sees_29 (fun h29 => ?_) (fun h29 => by omega)
          refine ev_aload_n0 dX1_sees_35 ?_
          refine gfX1_23 rfl (hC 96 rfl) dX1_sees_36 ?_
          refine ev_aload_n0 dX1_sees_39 ?_
          refine gfX1_43 rfl (hC 96 rfl) dX1_sees_40 ?_
          rw [s2]
          refine ev_iload_n1 dX1_sees_43 ?_
          refine ev_iast 6 rfl rfl (hC 99 rfl) (by omega) dX1_sees_44 ?_
          refine ev_aload_n0 dX1_sees_45 ?_
          refine gfX1_27 rfl (hC 96 rfl) dX1_sees_46 ?_
          refine ev_aload_n0 dX1_sees_49 ?_
          refine gfX1_43 rfl (hC 96 rfl) dX1_sees_50 ?_
          rw [e1]
          refine ev_iload_n2 dX1_sees_53 ?_
          refine ev_iast 6 rfl rfl (hC 100 rfl) (by omega) dX1_sees_54 ?_
          refine ev_aload_n0 dX1_sees_55 ?_
          refine ev_dup dX1_sees_56 ?_
          refine gfX1_43 rfl (hC 96 rfl) dX1_sees_57 ?_
          rw [e2]
          refine ev_c1 dX1_sees_60 ?_
          first | refine ev_iaddN dX1_sees_61 ?_ | refine ev_iadd dX1_sees_61 ?_
          refine pfX1_43 rfl (hC 96 rfl) dX1_sees_62 ?_
          refine ev_aload_n0 dX1_sees_65 ?_
          refine gfX1_43 rfl (hC 96 rfl) dX1_sees_66 ?_
          refine ev_ireturn rfl dX1_sees_69 ?_
          exact ⟨rfl, rfl⟩
        · have mn := (mf_n hT.1).1
          have me := (mf_n hT.1).2.1
          have m2 := (mf_n hT.1).2.2
          have mr := mf_r hT.1
          have mL := mf_L hT.1
          have s3 := ms M hT
          have e1 : st M 108 se (nI j) 103 5 = nI se := s3
          have e2 : st (st M 108 se (nI j)) 109 se (nI b) 103 5 = nI se := s3
          refine cnV okX2_sees 0 rfl ?_
          show Ev ks mX2_sees 0 [some (.inr 103), some (.inl (nI j)), some (.inl (nI b))] [] M _
          refine ev_aload_n0 dX2_sees_0 ?_
          refine ev_iload_n1 dX2_sees_1 ?_
          refine ev_cV1f okX2_isSite lkX2_78 (Nat.le_of_ble_eq_true rfl) (Nat.le_of_ble_eq_true rfl) (hM 103 rfl) isO_103 (c_X2_isSite hM mn h2 h4) dX2_sees_2 ?_
          first | refine ev_if_eqB 18 (by decide) dX2_sees_5 (fun h5 => by rw [hq] at h5; cases h5) (fun h5 => ?_)
          refine ev_iload_n2 dX2_sees_8 ?_
          refine ev_c0 dX2_sees_9 ?_
          refine ev_bipush (nI 8) kb_8 dX2_sees_10 ?_
          refine ev_cS3f okX2_in lkX2_43 (Nat.le_of_ble_eq_true rfl) (Nat.le_of_ble_eq_true rfl) c_X2_in dX2_sees_12 ?_
          first | refine ev_if_neB 20 (by decide) dX2_sees_15 (fun h15 => ?_) (fun h15 => by rw [isS_in (by omega), hb] at h15; cases h15)
          refine ev_aload_n0 dX2_sees_20 ?_
          refine gfX2_75 rfl (hM 103 rfl) dX2_sees_21 ?_
          rw [s3]
          refine ev_bipush (nI 6) kb_6 dX2_sees_24 ?_
          first | refine ev_icmp_neN 32 (by omega) (by omega) (by decide) dX2_sees_26 (fun h26 => ?_) (fun h26 => by omega)
          refine ev_aload_n0 dX2_sees_32 ?_
          refine gfX2_23 rfl (hM 103 rfl) dX2_sees_33 ?_
          refine ev_aload_n0 dX2_sees_36 ?_
          refine gfX2_75 rfl (hM 103 rfl) dX2_sees_37 ?_
          rw [s3]
          refine ev_iload_n1 dX2_sees_40 ?_
          refine ev_iast 6 rfl rfl (hM 108 rfl) (by omega) dX2_sees_41 ?_
          refine ev_aload_n0 dX2_sees_42 ?_
          refine gfX2_26 rfl (hM 103 rfl) dX2_sees_43 ?_
          refine ev_aload_n0 dX2_sees_46 ?_
          refine gfX2_75 rfl (hM 103 rfl) dX2_sees_47 ?_
          rw [e1]
          refine ev_iload_n2 dX2_sees_50 ?_
          refine ev_iast 6 rfl rfl (hM 109 rfl) (by omega) dX2_sees_51 ?_
          refine ev_aload_n0 dX2_sees_52 ?_
          refine ev_dup dX2_sees_53 ?_
          refine gfX2_75 rfl (hM 103 rfl) dX2_sees_54 ?_
          rw [e2]
          refine ev_c1 dX2_sees_57 ?_
          first | refine ev_iaddN dX2_sees_58 ?_ | refine ev_iadd dX2_sees_58 ?_
          refine pfX2_75 rfl (hM 103 rfl) dX2_sees_59 ?_
          refine ev_aload_n0 dX2_sees_62 ?_
          refine gfX2_75 rfl (hM 103 rfl) dX2_sees_63 ?_
          refine ev_ireturn rfl dX2_sees_66 ?_
          exact ⟨rfl, rfl⟩
        · refine ⟨hT.1, T_u_cong hT.2.1 (fun k a b => by rw [st_n, sr_n (by omega), st_n, sr_n (by omega), st_n, sr_n (by omega)]) rfl rfl rfl rfl, T_im_cong hT.2.2.1 (fun k a b => by rw [st_n, sr_n (by omega), st_n, sr_n (by omega), st_n, sr_n (by omega)]) rfl rfl rfl, ?_⟩
          obtain ⟨se', t1, t2, t3, t4⟩ := hT.2.2.2
          obtain rfl : se' = se := by
            have := congrArg tn (t2.symm.trans s2)
            rw [tn_nI (by omega), tn_nI (by omega)] at this
            exact this
          refine ⟨se' + 1, by omega, rfl, rfl, fun i hi => ?_⟩
          show ∃ a b, a < 4 ∧ b ≤ 8 ∧ upd (C 99) se' (nI j) i = nI a ∧ upd (M 108) se' (nI j) i = nI a ∧ upd (C 100) se' (nI _) i = nI b ∧ upd (M 109) se' (nI _) i = nI b
          by_cases his : i = se'
          · rw [his, upd_s, upd_s, upd_s, upd_s]
            exact ⟨j, b, by omega, by omega, rfl, rfl, rfl, rfl⟩
          · rw [upd_n his, upd_n his, upd_n his, upd_n his]
            exact t4 i (by omega)
      · refine fn_read (-3) ?_ (fun M hT => ?_)
        · refine cnV okX1_sees 0 rfl ?_
          show Ev ks mX1_sees 0 [some (.inr 96), some (.inl (nI j)), some (.inl (nI b))] [] C _
          refine ev_aload_n0 dX1_sees_0 ?_
          refine gfX1_12 rfl (hC 96 rfl) dX1_sees_1 ?_
          refine ev_iload_n1 dX1_sees_4 ?_
          refine ev_cV1f okX0_isSite lkX1_50 (Nat.le_of_ble_eq_true rfl) (Nat.le_of_ble_eq_true rfl) (hC 0 rfl) isO_0 (c_X0_isSite hW hn) dX1_sees_5 ?_
          first | refine ev_if_eqB 21 (by decide) dX1_sees_8 (fun h8 => by rw [hq] at h8; cases h8) (fun h8 => ?_)
          refine ev_iload_n2 dX1_sees_11 ?_
          refine ev_if_ltN 21 (by omega) (by decide) dX1_sees_12 ?_
          refine ev_iload_n2 dX1_sees_15 ?_
          refine ev_bipush (nI 8) kb_8 dX1_sees_16 ?_
          first | refine ev_icmp_leN 23 (by omega) (by omega) (by decide) dX1_sees_18 (fun h18 => ?_) (fun h18 => by omega)
          refine ev_aload_n0 dX1_sees_23 ?_
          refine gfX1_43 rfl (hC 96 rfl) dX1_sees_24 ?_
          rw [s2]
          refine ev_bipush (nI 6) kb_6 dX1_sees_27 ?_
          first | refine ev_icmp_ltN 35 (by omega) (by omega) (by decide) dX1_sees_29 (fun h29 => by omega) (fun h29 => ?_)
          refine ev_bipush (-3 : Int32) kb_m3 dX1_sees_32 ?_
          refine ev_ireturn rfl dX1_sees_34 ?_
          exact ⟨rfl, rfl⟩
        · have mn := (mf_n hT.1).1
          have me := (mf_n hT.1).2.1
          have m2 := (mf_n hT.1).2.2
          have mr := mf_r hT.1
          have mL := mf_L hT.1
          have s3 := ms M hT
          refine cnV okX2_sees 0 rfl ?_
          show Ev ks mX2_sees 0 [some (.inr 103), some (.inl (nI j)), some (.inl (nI b))] [] M _
          refine ev_aload_n0 dX2_sees_0 ?_
          refine ev_iload_n1 dX2_sees_1 ?_
          refine ev_cV1f okX2_isSite lkX2_78 (Nat.le_of_ble_eq_true rfl) (Nat.le_of_ble_eq_true rfl) (hM 103 rfl) isO_103 (c_X2_isSite hM mn h2 h4) dX2_sees_2 ?_
          first | refine ev_if_eqB 18 (by decide) dX2_sees_5 (fun h5 => by rw [hq] at h5; cases h5) (fun h5 => ?_)
          refine ev_iload_n2 dX2_sees_8 ?_
          refine ev_c0 dX2_sees_9 ?_
          refine ev_bipush (nI 8) kb_8 dX2_sees_10 ?_
          refine ev_cS3f okX2_in lkX2_43 (Nat.le_of_ble_eq_true rfl) (Nat.le_of_ble_eq_true rfl) c_X2_in dX2_sees_12 ?_
          first | refine ev_if_neB 20 (by decide) dX2_sees_15 (fun h15 => ?_) (fun h15 => by rw [isS_in (by omega), hb] at h15; cases h15)
          refine ev_aload_n0 dX2_sees_20 ?_
          refine gfX2_75 rfl (hM 103 rfl) dX2_sees_21 ?_
          rw [s3]
          refine ev_bipush (nI 6) kb_6 dX2_sees_24 ?_
          first | refine ev_icmp_neN 32 (by omega) (by omega) (by decide) dX2_sees_26 (fun h26 => by omega) (fun h26 => ?_)
          refine ev_bipush (-3 : Int32) kb_m3 dX2_sees_29 ?_
          refine ev_ireturn rfl dX2_sees_31 ?_
          exact ⟨rfl, rfl⟩
/-- what is remembered ahead of a change -/
def remS (C : St) (ne u : Nat) : St := st (st (cpyW C (1 + ne) 0) 96 2 (nI ((ne + 1) % 5))) 96 3 (nI (nu u))
theorem remS_o {C : St} {ne u k : Nat} (hne : ne < 5) (hk : k < 12 ∨ 72 ≤ k) (h : k ≠ 96) : remS C ne u k = C k := by
  unfold remS
  rw [st_n, sr_n h, st_n, sr_n h]
  unfold cpyW
  exact if_neg (by omega)
theorem remS_96 {C : St} {ne u i : Nat} (hne : ne < 5) (h2 : i ≠ 2) (h3 : i ≠ 3) : remS C ne u 96 i = C 96 i := by
  unfold remS
  rw [st_n, sr_s, upd_n h3, st_n, sr_s, upd_n h2]
  unfold cpyW
  rw [if_neg (by omega)]
theorem c_X1_remember {ks : List Nat} (hC : InC ks) {S : St} {u ne : Nat} (hu : S 96 3 = nI u) (hn : S 96 2 = nI ne) (hu5 : u ≤ 5) (hne : ne < 5) : Cn ks mX1_remember yX1_remember [.inr 96] S (Rv (remS S ne u)) := by
  have e96 : cpyW S (1 + ne) 0 96 = S 96 := if_neg (by omega)
  have e2 : cpyW S (1 + ne) 0 96 2 = nI ne := by rw [e96]; exact hn
  have e3 : ∀ x, st (cpyW S (1 + ne) 0) 96 2 x 96 3 = nI u := fun x => by rw [st_n, sr_s, upd_n (by omega), e96]; exact hu
  have emin : (if nI 5 < nI (u + 1) then nI 5 else nI (u + 1)) = nI (nu u) := by
    unfold nu
    by_cases h : u = 5
    · rw [if_pos h, h, if_pos (nI_lt (by omega) (by omega))]
    · rw [if_neg h, if_neg (by rw [Int32.lt_iff_toInt_lt, nI_toInt (by omega), nI_toInt (by omega)]; omega)]
  refine cnV okX1_remember 0 rfl ?_
  show Ev ks mX1_remember 0 [some (.inr 96)] [] S _
  refine ev_aload_n0 dX1_remember_0 ?_
  refine gfX1_16 rfl (hC 96 rfl) dX1_remember_1 ?_
  refine ev_aload_n0 dX1_remember_4 ?_
  refine gfX1_104 rfl (hC 96 rfl) dX1_remember_5 ?_
  rw [hn]
  refine ev_aald97 (hC 97 rfl) (by omega) dX1_remember_8 ?_
  refine ev_aload_n0 dX1_remember_9 ?_
  refine gfX1_12 rfl (hC 96 rfl) dX1_remember_10 ?_
  refine ev_become okX0_become lkX1_107 (Nat.le_of_ble_eq_true rfl) (Nat.le_of_ble_eq_true rfl) (hC _ (by rw [Nat.blt, Nat.ble_eq]; omega)) (isO_W (by omega) (by omega)) (c_X0_become hC (a := 1 + ne) (b := 0) (by omega) (by omega) (by omega)) dX1_remember_13 ?_
  refine ev_aload_n0 dX1_remember_16 ?_
  refine ev_aload_n0 dX1_remember_17 ?_
  refine gfX1_104 rfl (hC 96 rfl) dX1_remember_18 ?_
  rw [e2]
  refine ev_c1 dX1_remember_21 ?_
  first | refine ev_iaddN dX1_remember_22 ?_ | refine ev_iadd dX1_remember_22 ?_
  refine ev_c5 dX1_remember_23 ?_
  refine ev_iremN (by omega) (by omega) (by omega) dX1_remember_24 ?_
  refine pfX1_104 rfl (hC 96 rfl) dX1_remember_25 ?_
  refine ev_aload_n0 dX1_remember_28 ?_
  refine ev_aload_n0 dX1_remember_29 ?_
  refine gfX1_101 rfl (hC 96 rfl) dX1_remember_30 ?_
  rw [e3]
  refine ev_c1 dX1_remember_33 ?_
  first | refine ev_iaddN dX1_remember_34 ?_ | refine ev_iadd dX1_remember_34 ?_
  refine ev_c5 dX1_remember_35 ?_
  refine ev_min lkX1_198 (by decide) (by decide) kn_s kx_i kn_c dX1_remember_36 ?_
  rw [emin]
  refine pfX1_101 rfl (hC 96 rfl) dX1_remember_39 ?_
  refine ev_return rfl dX1_remember_42 ?_
  exact ⟨rfl, rfl⟩
theorem Top_rem {C M : St} {u ne : Nat} (h : Top C M) (hu5 : u ≤ 5) (hne : ne < 5) (hu : C 96 3 = nI u) (hn : C 96 2 = nI ne) : M 103 2 = nI u ∧ Top (remS C ne u) (noteS M u) := by
  obtain ⟨h1, ⟨u', ne', u1, u2, u3, u4, u5, u6⟩, h3, h4⟩ := h
  obtain rfl : u' = u := by
    have := congrArg tn (u3.symm.trans hu)
    rw [tn_nI (by omega), tn_nI (by omega)] at this
    exact this
  obtain rfl : ne' = ne := by
    have := congrArg tn (u4.symm.trans hn)
    rw [tn_nI (by omega), tn_nI (by omega)] at this
    exact this
  have hwv : ∀ a i, a < 8 → a ≠ 1 + ne' → i < 12 → wv (remS C ne' u') a i = wv C a i := fun a i ha hne hi => by
    unfold wv remS
    rw [st_n, sr_n (by omega), st_n, sr_n (by omega)]
    exact if_neg (by omega)
  have hwv0 : ∀ i, i < 12 → wv (remS C ne' u') (1 + ne') i = C i := fun i hi => by
    unfold wv remS
    rw [st_n, sr_n (by omega), st_n, sr_n (by omega)]
    unfold cpyW
    rw [if_pos (by omega)]
    congr 1
    omega
  refine ⟨u5, ?_, ⟨nu u', (ne' + 1) % 5, ?_, by omega, rfl, rfl, rfl, ?_⟩, ?_, ?_⟩
  · exact Cpl_cong (fun j hj => remS_o hne (Or.inl hj) (by omega)) (fun i _ => rfl) h1
  · unfold nu; split <;> omega
  · intro j hj
    rcases Nat.eq_zero_or_pos j with rfl | hj0
    · have e : ((ne' + 1) % 5 + 4 - 0) % 5 = ne' := by omega
      rw [e]
      refine Cpl_cong hwv0 (fun i hi => ?_) h1
      show nrow M u' (1263 * (nu u' - 1 - 0) + i) = M 104 i
      unfold nrow nu
      by_cases h5 : u' = 5
      · rw [if_pos h5, if_pos h5]
        exact seg_in hi
      · rw [if_neg h5, if_neg h5, show u' + 1 - 1 - 0 = u' by omega]
        exact seg_in hi
    · have hj5 : j < 5 ∧ j - 1 < u' := by unfold nu at hj; split at hj <;> omega
      have e : ((ne' + 1) % 5 + 4 - j) % 5 = (ne' + 4 - (j - 1)) % 5 := by omega
      have e2 : (ne' + 4 - (j - 1)) % 5 ≠ ne' := by omega
      rw [e]
      refine Cpl_cong (fun i hi => hwv _ i (by omega) (by omega) hi) (fun i hi => ?_) (u6 (j - 1) (by omega))
      show nrow M u' (1263 * (nu u' - 1 - j) + i) = M 105 (1263 * (u' - 1 - (j - 1)) + i)
      unfold nrow nu
      by_cases h5 : u' = 5
      · subst h5
        rw [if_pos rfl, if_pos rfl, seg_o (by omega)]
        rw [if_pos (by omega)]
        congr 1
        omega
      · rw [if_neg h5, if_neg h5, seg_o (by unfold nu at hj; rw [if_neg h5] at hj; omega)]
        congr 2
        omega
  · intro i hi
    rw [remS_96 hne (by omega) (by omega)]
    refine ⟨(h3 i hi).1, fun hb => ?_⟩
    exact Cpl_cong (fun j hj => hwv _ j (by omega) (by omega) hj) (fun j _ => rfl) ((h3 i hi).2 hb)
  · exact T_se_cong h4 (remS_96 hne (by omega) (by omega)) (remS_o hne (by omega) (by omega)) (remS_o hne (by omega) (by omega)) rfl rfl rfl
