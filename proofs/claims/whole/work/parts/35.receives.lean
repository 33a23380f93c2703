theorem takeW_1 {S : St} {n e x y r t v : Nat} : takeW S n e x y r t v 1 = upd (S 1) y (nI (r + 1)) ∧ takeW S n e x y r t v 4 = upd (S 4) (y * 8 + r) (nI v) := by
  unfold takeW ansW
  split <;> exact ⟨rfl, rfl⟩
theorem takeW_o {S : St} {n e x y r t v k : Nat} (hk : 12 ≤ k) : takeW S n e x y r t v k = S k := by
  have h1 : ∀ p, rclW S n x y r t v p k = S k := fun p => by
    unfold rclW recW
    rw [sr_n (by omega), st_n, sr_n (by omega), st_n, sr_n (by omega), st_n, sr_n (by omega), st_n, sr_n (by omega), st_n, sr_n (by omega)]
  unfold takeW ansW
  split
  · exact h1 _
  · rw [wrW_o hk]; exact h1 _
theorem knowR_out {m : Nat → Int32} {q c i : Nat} {s : Int32} (hq : q < 4) (hc : c < 32) (hi : i < 103 ∨ 123 ≤ i) : knowR m q c s i = m i := by
  unfold knowR
  rw [upd_n (by omega), upd_n (by omega)]
theorem knL_out {m : Nat → Int32} {q a i : Nat} (hq : q < 4) (hi : i < 103 ∨ 123 ≤ i) : ∀ c, c ≤ 32 → knL m q a c i = m i
  | 0, _ => rfl
  | c + 1, h => by
    have ih := knL_out (m := m) (a := a) hq hi c (by omega)
    show (if bt (knL m q a c (a + 2)) c = true then knowR (knL m q a c) q c _ else knL m q a c) i = m i
    split
    · rw [knowR_out hq (by omega) hi]; exact ih
    · exact ih
theorem op_receives {ks : List Nat} (hC : InC ks) (hM : InM ks) {q x : Int32} : Op ks mX1_receives yX1_receives mX2_receives yX2_receives [.inl q, .inl x] := by
  refine op_fn (fun C hI hX => ?_)
  have hW : InW ks := hC.w
  obtain ⟨⟨hn, h2, h4⟩, he, he1, he4⟩ := wf_n hI
  have hr := wf_r hI
  have hL := wf_L hI
  obtain ⟨M0, hM0⟩ := id hX
  obtain ⟨u, ne, hu5, hne, eu, en, -⟩ := hM0.2.1
  obtain ⟨W, hWd⟩ : ∃ W, W = remS C ne u := ⟨_, rfl⟩
  have hrem : Cn ks mX1_remember yX1_remember [.inr 96] C (Rv W) := by rw [hWd]; exact c_X1_remember hC eu en hu5 hne
  have hTW : ∀ M, Top C M → M 103 2 = nI u ∧ Top W (noteS M u) := fun M hT => by rw [hWd]; exact Top_rem hT hu5 hne eu en
  have w0 : ∀ k, k < 12 → W k = C k := fun k hk => by rw [hWd]; exact remS_o hne (Or.inl hk) (by omega)
  have wM : ∀ k, 103 ≤ k → W k = C k := fun k hk => by rw [hWd]; exact remS_o hne (Or.inr (by omega)) (by omega)
  have hIW : Inv W := (hTW M0 hM0).2.1.1
  have hnn : nn W = nn C := by unfold nn; rw [w0 0 (by omega)]
  have hee : ee W = ee C := by unfold ee; rw [w0 0 (by omega)]
  have hrc : rc W = rc C := by funext q; unfold rc; rw [w0 1 (by omega)]
  have hwr : wr W = wr C := by funext x y; unfold wr; rw [w0 6 (by omega)]
  have htk : tk W = tk C := by funext q x r; unfold tk; rw [w0 2 (by omega)]
  clear hWd
  cases hw : isW (nn C) x q with
  | false =>
    refine fn_read (-1) ?_ (fun M hT => ?_)
    · refine cnV okX1_receives 0 rfl ?_
      show Ev ks mX1_receives 0 [some (.inr 96), some (.inl q), some (.inl x)] [] C _
      refine ev_aload_n0 dX1_receives_0 ?_
      refine gfX1_12 rfl (hC 96 rfl) dX1_receives_1 ?_
      refine ev_iload_n2 dX1_receives_4 ?_
      refine ev_iload_n1 dX1_receives_5 ?_
      refine ev_cV2f okX0_isWay lkX1_65 (Nat.le_of_ble_eq_true rfl) (Nat.le_of_ble_eq_true rfl) (hC 0 rfl) isO_0 (c_X0_isWay hW hn h4) dX1_receives_6 ?_
      first | refine ev_if_neB 14 (by decide) dX1_receives_9 (fun h9 => by rw [hw] at h9; cases h9) (fun h9 => ?_)
      refine ev_cm1 dX1_receives_12 ?_
      refine ev_ireturn rfl dX1_receives_13 ?_
      exact ⟨rfl, rfl⟩
    · have mn := (mf_n hT.1).1
      have me := (mf_n hT.1).2.1
      have m2 := (mf_n hT.1).2.2
      have mr := mf_r hT.1
      have mL := mf_L hT.1
      refine cnV okX2_receives 7 rfl ?_
      show Ev ks mX2_receives 0 [some (.inr 103), some (.inl q), some (.inl x), none, none, none, none, none, none, none] [] M _
      refine ev_aload_n0 dX2_receives_0 ?_
      refine ev_iload_n2 dX2_receives_1 ?_
      refine ev_iload_n1 dX2_receives_2 ?_
      refine ev_cV2f okX2_isWay lkX2_90 (Nat.le_of_ble_eq_true rfl) (Nat.le_of_ble_eq_true rfl) (hM 103 rfl) isO_103 (c_X2_isWay hM mn h2 h4) dX2_receives_3 ?_
      first | refine ev_if_neB 11 (by decide) dX2_receives_6 (fun h6 => by rw [hw] at h6; cases h6) (fun h6 => ?_)
      refine ev_cm1 dX2_receives_9 ?_
      refine ev_ireturn rfl dX2_receives_10 ?_
      exact ⟨rfl, rfl⟩
  | true =>
    obtain ⟨a, b, ha, hb, hab, rfl, rfl⟩ := (isW_iff (by omega)).mp hw
    have hLab := hL a b (by omega) (by omega)
    have hrb := hr b hb
    have htle : tk C b a (rc C b) ≤ wr C a b := hI.2.2.2.2.1 a b ha hb
    have htd : fb_ct (fun j => decide (C 2 (b * 8 + j) = nI a)) (rc C b) = tk C b a (rc C b) := rfl
    have htM : ∀ M, Top C M → fb_ct (fun j => decide (M 104 (7 + 24 * b + 3 * j + 0) = nI a)) (rc C b) = tk C b a (rc C b) := fun M hT => fb_ct_cong (fun j hj => by rw [(hT.1.2.2.2.1 b j hb hj).1])
    generalize ht : tk C b a (rc C b) = t at *
    rcases Decidable.em (bt (C 0 2) b = true ∨ t = wr C a b) with hno | hyes
    · refine fn_read (-2) ?_ (fun M hT => ?_)
      · refine cnV okX1_receives 0 rfl ?_
        show Ev ks mX1_receives 0 [some (.inr 96), some (.inl (nI b)), some (.inl (nI a))] [] C _
        refine ev_aload_n0 dX1_receives_0 ?_
        refine gfX1_12 rfl (hC 96 rfl) dX1_receives_1 ?_
        refine ev_iload_n2 dX1_receives_4 ?_
        refine ev_iload_n1 dX1_receives_5 ?_
        refine ev_cV2f okX0_isWay lkX1_65 (Nat.le_of_ble_eq_true rfl) (Nat.le_of_ble_eq_true rfl) (hC 0 rfl) isO_0 (c_X0_isWay hW hn h4) dX1_receives_6 ?_
        first | refine ev_if_neB 14 (by decide) dX1_receives_9 (fun h9 => ?_) (fun h9 => by rw [hw] at h9; cases h9)
        refine ev_aload_n0 dX1_receives_14 ?_
        refine gfX1_12 rfl (hC 96 rfl) dX1_receives_15 ?_
        refine ev_iload_n1 dX1_receives_18 ?_
        refine ev_cV1f okX0_isDown lkX1_69 (Nat.le_of_ble_eq_true rfl) (Nat.le_of_ble_eq_true rfl) (hC 0 rfl) isO_0 (c_X0_isDown hW (by omega)) dX1_receives_19 ?_
        first | refine ev_if_neB 46 (by decide) dX1_receives_22 (fun h22 => ?_) (fun h22 => ?_)
        · refine ev_bipush (-2 : Int32) kb_m2 dX1_receives_46 ?_
          refine ev_ireturn rfl dX1_receives_48 ?_
          exact ⟨rfl, rfl⟩
        · refine ev_aload_n0 dX1_receives_25 ?_
          refine gfX1_12 rfl (hC 96 rfl) dX1_receives_26 ?_
          refine ev_iload_n2 dX1_receives_29 ?_
          refine ev_iload_n1 dX1_receives_30 ?_
          skip
          refine ev_cV2f okX0_takenFrom lkX1_72 (Nat.le_of_ble_eq_true rfl) (Nat.le_of_ble_eq_true rfl) (hC 0 rfl) isO_0 (c_X0_takenFrom hW (by omega) (hr _ (by omega)).1 (hr _ (by omega)).2) dX1_receives_31 ?_
          rw [htd]
          refine ev_aload_n0 dX1_receives_34 ?_
          refine gfX1_12 rfl (hC 96 rfl) dX1_receives_35 ?_
          refine ev_iload_n2 dX1_receives_38 ?_
          refine ev_iload_n1 dX1_receives_39 ?_
          refine ev_cV2f okX0_lettersOn lkX1_57 (Nat.le_of_ble_eq_true rfl) (Nat.le_of_ble_eq_true rfl) (hC 0 rfl) isO_0 (c_X0_lettersOn hW (by omega) (by omega)) dX1_receives_40 ?_
          rw [hLab.1]
          first | refine ev_icmp_ltN 49 (by omega) (by omega) (by decide) dX1_receives_43 (fun h43 => by rcases hno with h | h; (rw [h22] at h; cases h); omega) (fun h43 => ?_)
          refine ev_bipush (-2 : Int32) kb_m2 dX1_receives_46 ?_
          refine ev_ireturn rfl dX1_receives_48 ?_
          exact ⟨rfl, rfl⟩
      · have mn := (mf_n hT.1).1
        have me := (mf_n hT.1).2.1
        have m2 := (mf_n hT.1).2.2
        have mr := mf_r hT.1
        have mL := mf_L hT.1
        refine cnV okX2_receives 7 rfl ?_
        show Ev ks mX2_receives 0 [some (.inr 103), some (.inl (nI b)), some (.inl (nI a)), none, none, none, none, none, none, none] [] M _
        refine ev_aload_n0 dX2_receives_0 ?_
        refine ev_iload_n2 dX2_receives_1 ?_
        refine ev_iload_n1 dX2_receives_2 ?_
        refine ev_cV2f okX2_isWay lkX2_90 (Nat.le_of_ble_eq_true rfl) (Nat.le_of_ble_eq_true rfl) (hM 103 rfl) isO_103 (c_X2_isWay hM mn h2 h4) dX2_receives_3 ?_
        first | refine ev_if_neB 11 (by decide) dX2_receives_6 (fun h6 => ?_) (fun h6 => by rw [hw] at h6; cases h6)
        refine ev_aload_n0 dX2_receives_11 ?_
        refine ev_iload_n1 dX2_receives_12 ?_
        refine ev_iload_n2 dX2_receives_13 ?_
        refine ev_cV2f okX2_had lkX2_93 (Nat.le_of_ble_eq_true rfl) (Nat.le_of_ble_eq_true rfl) (hM 103 rfl) isO_103 (c_X2_had hM (by omega) (mr _ (by omega)).1 (mr _ (by omega)).2) dX2_receives_14 ?_
        rw [htM M hT]
        refine ev_istore_n3 dX2_receives_17 ?_
        refine ev_aload_n0 dX2_receives_18 ?_
        refine ev_iload_n1 dX2_receives_19 ?_
        refine ev_cV1f okX2_isDown lkX2_96 (Nat.le_of_ble_eq_true rfl) (Nat.le_of_ble_eq_true rfl) (hM 103 rfl) isO_103 (c_X2_isDown hM (by omega)) dX2_receives_20 ?_
        rw [m2]
        first | refine ev_if_neB 36 (by decide) dX2_receives_23 (fun h23 => ?_) (fun h23 => ?_)
        · refine ev_bipush (-2 : Int32) kb_m2 dX2_receives_36 ?_
          refine ev_ireturn rfl dX2_receives_38 ?_
          exact ⟨rfl, rfl⟩
        · refine ev_iload_n3 dX2_receives_26 ?_
          refine ev_aload_n0 dX2_receives_27 ?_
          refine ev_iload_n2 dX2_receives_28 ?_
          refine ev_iload_n1 dX2_receives_29 ?_
          refine ev_cV2f okX2_letters lkX2_62 (Nat.le_of_ble_eq_true rfl) (Nat.le_of_ble_eq_true rfl) (hM 103 rfl) isO_103 (c_X2_letters hM (by omega) (by omega)) dX2_receives_30 ?_
          rw [(mL a b (by omega) (by omega)).1]
          first | refine ev_icmp_neN 39 (by omega) (by omega) (by decide) dX2_receives_33 (fun h33 => by rcases hno with h | h; (rw [h23] at h; cases h); omega) (fun h33 => ?_)
          refine ev_bipush (-2 : Int32) kb_m2 dX2_receives_36 ?_
          refine ev_ireturn rfl dX2_receives_38 ?_
          exact ⟨rfl, rfl⟩
    · have hd : bt (C 0 2) b = false := by
        cases h : bt (C 0 2) b with
        | false => rfl
        | true => exact absurd (Or.inl h) hyes
      have htl : t < wr C a b := by have : ¬ t = wr C a b := fun h => hyes (Or.inr h); omega
      rcases Nat.lt_or_ge (rc C b) 8 with h8 | h8
      · have hlok := hI.2.2.2.2.2.1 a b t ha hb htl
        obtain ⟨co, hc9, hco⟩ := hlok.1
        have hsv : ∃ sv, sv < 997 ∧ (if rc C b = 0 then nI (b + 1) else C 4 (b * 8 + (rc C b - 1))) = nI sv := by
          by_cases h0 : rc C b = 0
          · exact ⟨b + 1, by omega, if_pos h0⟩
          · obtain ⟨z, hz, e⟩ := (hI.2.2.2.1 b (rc C b - 1) hb (by omega)).2.2.2.2
            exact ⟨z, hz, (if_neg h0).trans e⟩
        obtain ⟨sv, hs9, hsv⟩ := hsv
        have hbir : C 8 ((a * 4 + b) * 8 + t) = -9 ∨ ∃ z, z < 32 ∧ C 8 ((a * 4 + b) * 8 + t) = nI z := by
          rcases Nat.lt_or_ge a (nn C) with h | h
          · obtain ⟨r, hr, e⟩ := hlok.2.2.1 h
            have h8a := (wf_r hI a h).2
            exact Or.inr ⟨a * 8 + r, by omega, e⟩
          · exact Or.inl (hlok.2.1 (by omega)).1
        have hv9 : (31 * sv + co + a + 1) % 997 < 997 := Nat.mod_lt _ (by omega)
        have htake : Cn ks mX0_take yX0_take [.inr 0, .inl (nI a), .inl (nI b)] W (Rv (takeW W (nn C) (ee C) a b (rc C b) t ((31 * sv + co + a + 1) % 997))) := by
          refine c_X0_take hW (by rw [w0 0 (by omega)]; exact hn) h2 h4 (by rw [w0 0 (by omega)]; exact he) he4 ha hb (by rw [w0 1 (by omega)]; exact hrb.1) h8 (by rw [w0 2 (by omega)]; exact htd) (by omega) (by rw [w0 4 (by omega)]; exact hsv) hs9 (by rw [w0 7 (by omega)]; exact hco) hc9 (by rw [w0 8 (by omega)]; exact hbir) (fun z hz => ⟨wr C b z, (hL b z (by omega) (by omega)).2, by rw [w0 6 (by omega)]; exact (hL b z (by omega) (by omega)).1⟩)
        generalize hv : (31 * sv + co + a + 1) % 997 = v at *
        have k1 : takeW W (nn C) (ee C) a b (rc C b) t v 1 b = nI (rc C b + 1) := by rw [takeW_1.1, upd_s]
        have k4 : takeW W (nn C) (ee C) a b (rc C b) t v 4 (b * 8 + rc C b) = nI v := by rw [takeW_1.2, upd_s]
        refine ⟨nI v, takeW W (nn C) (ee C) a b (rc C b) t v, ?_, fun k hk => by rw [takeW_o (by omega), wM k hk], fun M hT => ⟨sr (noteS M u) 104 (takeM (noteS M u 104) (nn C) (ee C) a b (rc C b) t v), ?_, fun k hk => by rw [sr_n (by omega), noteS_o hk], ?_⟩⟩
        · refine cnV okX1_receives 0 rfl ?_
          show Ev ks mX1_receives 0 [some (.inr 96), some (.inl (nI b)), some (.inl (nI a))] [] C _
          refine ev_aload_n0 dX1_receives_0 ?_
          refine gfX1_12 rfl (hC 96 rfl) dX1_receives_1 ?_
          refine ev_iload_n2 dX1_receives_4 ?_
          refine ev_iload_n1 dX1_receives_5 ?_
          refine ev_cV2f okX0_isWay lkX1_65 (Nat.le_of_ble_eq_true rfl) (Nat.le_of_ble_eq_true rfl) (hC 0 rfl) isO_0 (c_X0_isWay hW hn h4) dX1_receives_6 ?_
          first | refine ev_if_neB 14 (by decide) dX1_receives_9 (fun h9 => ?_) (fun h9 => by rw [hw] at h9; cases h9)
          refine ev_aload_n0 dX1_receives_14 ?_
          refine gfX1_12 rfl (hC 96 rfl) dX1_receives_15 ?_
          refine ev_iload_n1 dX1_receives_18 ?_
          refine ev_cV1f okX0_isDown lkX1_69 (Nat.le_of_ble_eq_true rfl) (Nat.le_of_ble_eq_true rfl) (hC 0 rfl) isO_0 (c_X0_isDown hW (by omega)) dX1_receives_19 ?_
          first | refine ev_if_neB 46 (by decide) dX1_receives_22 (fun h22 => by rw [hd] at h22; cases h22) (fun h22 => ?_)
          refine ev_aload_n0 dX1_receives_25 ?_
          refine gfX1_12 rfl (hC 96 rfl) dX1_receives_26 ?_
          refine ev_iload_n2 dX1_receives_29 ?_
          refine ev_iload_n1 dX1_receives_30 ?_
          refine ev_cV2f okX0_takenFrom lkX1_72 (Nat.le_of_ble_eq_true rfl) (Nat.le_of_ble_eq_true rfl) (hC 0 rfl) isO_0 (c_X0_takenFrom hW (by omega) (hr _ (by omega)).1 (hr _ (by omega)).2) dX1_receives_31 ?_
          rw [htd]
          refine ev_aload_n0 dX1_receives_34 ?_
          refine gfX1_12 rfl (hC 96 rfl) dX1_receives_35 ?_
          refine ev_iload_n2 dX1_receives_38 ?_
          refine ev_iload_n1 dX1_receives_39 ?_
          refine ev_cV2f okX0_lettersOn lkX1_57 (Nat.le_of_ble_eq_true rfl) (Nat.le_of_ble_eq_true rfl) (hC 0 rfl) isO_0 (c_X0_lettersOn hW (by omega) (by omega)) dX1_receives_40 ?_
          rw [hLab.1]
          first | refine ev_icmp_ltN 49 (by omega) (by omega) (by decide) dX1_receives_43 (fun h43 => ?_) (fun h43 => by omega)
          refine ev_aload_n0 dX1_receives_49 ?_
          refine gfX1_12 rfl (hC 96 rfl) dX1_receives_50 ?_
          refine gfX1_75 rfl (hC 0 rfl) dX1_receives_53 ?_
          refine ev_iload_n1 dX1_receives_56 ?_
          refine ev_iald 4 rfl rfl (hC 1 rfl) (by omega) dX1_receives_57 ?_
          rw [hrb.1]
          refine ev_bipush (nI 8) kb_8 dX1_receives_58 ?_
          first | refine ev_icmp_ltN 66 (by omega) (by omega) (by decide) dX1_receives_60 (fun h60 => ?_) (fun h60 => by omega)
          refine ev_aload_n0 dX1_receives_66 ?_
          refine ev_cV0v okX1_remember lkX1_36 (Nat.le_of_ble_eq_true rfl) (Nat.le_of_ble_eq_true rfl) (hC 96 rfl) isO_96 hrem dX1_receives_67 ?_
          refine ev_aload_n0 dX1_receives_70 ?_
          refine gfX1_12 rfl (hC 96 rfl) dX1_receives_71 ?_
          refine ev_iload_n2 dX1_receives_74 ?_
          refine ev_iload_n1 dX1_receives_75 ?_
          refine ev_cV2v okX0_take lkX1_78 (Nat.le_of_ble_eq_true rfl) (Nat.le_of_ble_eq_true rfl) (hC 0 rfl) isO_0 htake dX1_receives_76 ?_
          refine ev_aload_n0 dX1_receives_79 ?_
          refine gfX1_12 rfl (hC 96 rfl) dX1_receives_80 ?_
          refine ev_iload_n1 dX1_receives_83 ?_
          refine ev_cV1f okX0_stateOf lkX1_81 (Nat.le_of_ble_eq_true rfl) (Nat.le_of_ble_eq_true rfl) (hC 0 rfl) isO_0 (c_X0_stateOf hW (by omega) k1 (by omega)) dX1_receives_84 ?_
          refine ev_ireturn rfl dX1_receives_87 ?_
          exact ⟨by rw [if_neg (by omega), Nat.add_sub_cancel, k4], rfl⟩
        · have mn := (mf_n hT.1).1
          have me := (mf_n hT.1).2.1
          have m2 := (mf_n hT.1).2.2
          have mr := mf_r hT.1
          have mL := mf_L hT.1
          obtain ⟨Z, hZ⟩ : ∃ Z, Z = noteS M u := ⟨_, rfl⟩
          have hnote : Cn ks mX2_note yX2_note [.inr 103] M (Rv Z) := by rw [hZ]; exact c_X2_note hM (hTW M hT).1 hu5
          have z104 : Z 104 = M 104 := by rw [hZ]; rfl
          rw [← hZ]
          have zr : Z 104 (3 + b) = nI (rc C b) := by rw [z104]; exact (mr b hb).1
          have zsv : (if rc C b = 0 then nI (b + 1) else Z 104 (7 + 24 * b + 3 * (rc C b - 1) + 2)) = nI sv := by
            rw [← hsv, z104]
            by_cases h0 : rc C b = 0
            · rw [if_pos h0, if_pos h0]
            · rw [if_neg h0, if_neg h0, (hT.1.2.2.2.1 b (rc C b - 1) hb (by omega)).2.2]
          have zco : Z 104 (143 + 7 * (8 * (4 * a + b) + t)) = nI co := by rw [z104, (hT.1.2.2.2.2.2.2.2 a b t ha hb htl).1]; exact hco
          obtain ⟨la, hla⟩ : ∃ la, la = 143 + 7 * (8 * (4 * a + b) + t) := ⟨_, rfl⟩
          have hla2 : 143 ≤ la ∧ la + 6 < 1263 := by omega
          unfold takeM rclM
          rw [← hla]
          rw [← hla] at zco
          have htM2 := htM M hT
          generalize hr0 : rc C b = r at *
          obtain ⟨R, hR⟩ : ∃ R, R = rcM (Z 104) a b r t v := ⟨_, rfl⟩
          have hRd := hR
          unfold rcM at hRd
          rw [← hR]
          obtain ⟨K0, hK0⟩ : ∃ K, K = knowR R b (8 * b + r) (nI 1 <<< (nI b &&& 31)) := ⟨_, rfl⟩
          rw [← hK0]
          have z3 : sr Z 104 (upd (upd (upd (Z 104) (7 + 24 * b + 3 * r) (nI a)) (7 + 24 * b + 3 * r + 1) (nI t)) (7 + 24 * b + 3 * r + 2) (nI v)) 104 (3 + b) = nI r := by rw [sr_s, upd_n (by omega), upd_n (by omega), upd_n (by omega)]; exact zr
          have kout : ∀ i, (i < 3 ∨ 123 ≤ i) → knL K0 b la 32 i = M 104 i := fun i hi => by
            rw [knL_out (by omega) (by omega) 32 (by omega), hK0, knowR_out (by omega) (by omega) (by omega), hRd, upd_n (by omega), upd_n (by omega), upd_n (by omega), upd_n (by omega), z104]
          have hmod : v % nn C < nn C := Nat.mod_lt _ (by omega)
          have loop : ∀ f c, c + f = 32 → Ev ks mX2_receives 174 [some (.inr 103), some (.inl (nI b)), some (.inl (nI a)), some (.inl (nI t)), some (.inl (nI la)), some (.inl (nI r)), some (.inl (nI (8 * b + r))), some (.inl (nI v)), some (.inl (nI (7 + 24 * b + 3 * r))), some (.inl (nI c))] [] (sr Z 104 (knL K0 b la c)) (Ri (nI v) (sr Z 104 (ansM (knL K0 b la 32) (nn C) (ee C) b (8 * b + r) v))) := by
            intro f
            induction f with
            | zero =>
              intro c hc
              obtain rfl : c = 32 := by omega
              have q0 : sr Z 104 (knL K0 b la 32) 104 0 = nI (nn C) := by rw [sr_s, kout 0 (by omega)]; exact mn
              have q1 : sr Z 104 (knL K0 b la 32) 104 1 = nI (ee C) := by rw [sr_s, kout 1 (by omega)]; exact me
              have qL : sr Z 104 (knL K0 b la 32) 104 (123 + (4 * b + v % nn C)) = nI (wr C b (v % nn C)) := by rw [sr_s, kout _ (by omega)]; exact (mL b (v % nn C) (by omega) (by omega)).1
              refine ev_iload9 dX2_receives_174 ?_
              refine ev_bipush (nI 32) kb_32 dX2_receives_176 ?_
              first | refine ev_icmp_geN 243 (by omega) (by omega) (by decide) dX2_receives_178 (fun h178 => ?_) (fun h178 => by omega)
              refine ev_aload_n0 dX2_receives_243 ?_
              refine ev_iload_n1 dX2_receives_244 ?_
              refine ev_iload7 dX2_receives_245 ?_
              refine ev_iload6 dX2_receives_247 ?_
              refine ev_cV3v okX2_answer lkX2_109 (Nat.le_of_ble_eq_true rfl) (Nat.le_of_ble_eq_true rfl) (hM 103 rfl) isO_103 (c_X2_answer hM q0 h2 h4 q1 he4 hb (by omega) hv9 qL (mL b (v % nn C) (by omega) (by omega)).2) dX2_receives_249 ?_
              rw [sr_sr, sr_s]
              refine ev_iload7 dX2_receives_252 ?_
              refine ev_ireturn rfl dX2_receives_254 ?_
              exact ⟨rfl, rfl⟩
            | succ f ih =>
              intro c hc
              have hs : knL K0 b la (c + 1) = if bt (knL K0 b la c (la + 2)) c = true then knowR (knL K0 b la c) b c ((kni (knL K0 b la c (107 + 4 * b + c / 8)) c ||| kni (knL K0 b la c (la + 3 + c / 8)) c) ||| nI 1 <<< (nI b &&& 31)) else knL K0 b la c := rfl
              have hi := ih (c + 1) (by omega)
              refine ev_iload9 dX2_receives_174 ?_
              refine ev_bipush (nI 32) kb_32 dX2_receives_176 ?_
              first | refine ev_icmp_geN 243 (by omega) (by omega) (by decide) dX2_receives_178 (fun h178 => by omega) (fun h178 => ?_)
              refine ev_aload_n0 dX2_receives_181 ?_
              refine gfX2_7 rfl (hM 103 rfl) dX2_receives_182 ?_
              refine ev_iload4 dX2_receives_185 ?_
              refine ev_c2 dX2_receives_187 ?_
              first | refine ev_iaddN dX2_receives_188 ?_ | refine ev_iadd dX2_receives_188 ?_
              refine ev_iald 1263 rfl rfl (hM 104 rfl) (by omega) dX2_receives_189 ?_
              refine ev_iload9 dX2_receives_190 ?_
              rw [sr_s]
              refine ev_cS2f okX2_has lkX2_39 (Nat.le_of_ble_eq_true rfl) (Nat.le_of_ble_eq_true rfl) (c_X2_has (by omega)) dX2_receives_192 ?_
              first | refine ev_if_eqB 237 (by decide) dX2_receives_195 (fun h195 => ?_) (fun h195 => ?_)
              · first | rw [sr_sr, sr_s] | skip
                refine ev_iinc9 dX2_receives_237 ?_
                refine ev_goto 174 (by decide) dX2_receives_240 ?_
                rw [h195] at hs
                simp only [if_true, Bool.false_eq_true, if_false] at hs
                rw [hs] at hi
                exact hi
              · refine ev_aload_n0 dX2_receives_198 ?_
                refine ev_iload_n1 dX2_receives_199 ?_
                refine ev_iload9 dX2_receives_200 ?_
                refine ev_aload_n0 dX2_receives_202 ?_
                refine ev_iload_n1 dX2_receives_203 ?_
                refine ev_iload9 dX2_receives_204 ?_
                refine ev_cV2f okX2_knownBy lkX2_106 (Nat.le_of_ble_eq_true rfl) (Nat.le_of_ble_eq_true rfl) (hM 103 rfl) isO_103 (c_X2_knownBy hM (by omega) (by omega)) dX2_receives_206 ?_
                refine ev_aload_n0 dX2_receives_209 ?_
                refine gfX2_7 rfl (hM 103 rfl) dX2_receives_210 ?_
                refine ev_iload4 dX2_receives_213 ?_
                refine ev_c3 dX2_receives_215 ?_
                first | refine ev_iaddN dX2_receives_216 ?_ | refine ev_iadd dX2_receives_216 ?_
                refine ev_iload9 dX2_receives_217 ?_
                refine ev_bipush (nI 8) kb_8 dX2_receives_219 ?_
                refine ev_idivN (by omega) (by omega) (by omega) dX2_receives_221 ?_
                first | refine ev_iaddN dX2_receives_222 ?_ | refine ev_iadd dX2_receives_222 ?_
                refine ev_iald 1263 rfl rfl (hM 104 rfl) (by omega) dX2_receives_223 ?_
                refine ev_iload9 dX2_receives_224 ?_
                refine ev_cS2f okX2_knownIn lkX2_59 (Nat.le_of_ble_eq_true rfl) (Nat.le_of_ble_eq_true rfl) (c_X2_knownIn (by omega)) dX2_receives_226 ?_
                refine ev_ior dX2_receives_229 ?_
                refine ev_c1 dX2_receives_230 ?_
                refine ev_iload_n1 dX2_receives_231 ?_
                refine ev_ishl dX2_receives_232 ?_
                refine ev_ior dX2_receives_233 ?_
                refine ev_cV3v okX2_know lkX2_102 (Nat.le_of_ble_eq_true rfl) (Nat.le_of_ble_eq_true rfl) (hM 103 rfl) isO_103 (c_X2_know hM (by omega) (by omega)) dX2_receives_234 ?_
                first | rw [sr_sr, sr_s] | skip
                refine ev_iinc9 dX2_receives_237 ?_
                refine ev_goto 174 (by decide) dX2_receives_240 ?_
                rw [h195] at hs
                simp only [if_true, Bool.false_eq_true, if_false] at hs
                rw [hs] at hi
                exact hi
          refine cnV okX2_receives 7 rfl ?_
          show Ev ks mX2_receives 0 [some (.inr 103), some (.inl (nI b)), some (.inl (nI a)), none, none, none, none, none, none, none] [] M _
          refine ev_aload_n0 dX2_receives_0 ?_
          refine ev_iload_n2 dX2_receives_1 ?_
          refine ev_iload_n1 dX2_receives_2 ?_
          refine ev_cV2f okX2_isWay lkX2_90 (Nat.le_of_ble_eq_true rfl) (Nat.le_of_ble_eq_true rfl) (hM 103 rfl) isO_103 (c_X2_isWay hM mn h2 h4) dX2_receives_3 ?_
          first | refine ev_if_neB 11 (by decide) dX2_receives_6 (fun h6 => ?_) (fun h6 => by rw [hw] at h6; cases h6)
          refine ev_aload_n0 dX2_receives_11 ?_
          refine ev_iload_n1 dX2_receives_12 ?_
          refine ev_iload_n2 dX2_receives_13 ?_
          refine ev_cV2f okX2_had lkX2_93 (Nat.le_of_ble_eq_true rfl) (Nat.le_of_ble_eq_true rfl) (hM 103 rfl) isO_103 (c_X2_had hM (by omega) (mr _ (by omega)).1 (mr _ (by omega)).2) dX2_receives_14 ?_
          rw [hr0, htM2]
          refine ev_istore_n3 dX2_receives_17 ?_
          refine ev_aload_n0 dX2_receives_18 ?_
          refine ev_iload_n1 dX2_receives_19 ?_
          refine ev_cV1f okX2_isDown lkX2_96 (Nat.le_of_ble_eq_true rfl) (Nat.le_of_ble_eq_true rfl) (hM 103 rfl) isO_103 (c_X2_isDown hM (by omega)) dX2_receives_20 ?_
          rw [m2]
          first | refine ev_if_neB 36 (by decide) dX2_receives_23 (fun h23 => by rw [hd] at h23; cases h23) (fun h23 => ?_)
          refine ev_iload_n3 dX2_receives_26 ?_
          refine ev_aload_n0 dX2_receives_27 ?_
          refine ev_iload_n2 dX2_receives_28 ?_
          refine ev_iload_n1 dX2_receives_29 ?_
          refine ev_cV2f okX2_letters lkX2_62 (Nat.le_of_ble_eq_true rfl) (Nat.le_of_ble_eq_true rfl) (hM 103 rfl) isO_103 (c_X2_letters hM (by omega) (by omega)) dX2_receives_30 ?_
          rw [(mL a b (by omega) (by omega)).1]
          first | refine ev_icmp_neN 39 (by omega) (by omega) (by decide) dX2_receives_33 (fun h33 => ?_) (fun h33 => by omega)
          refine ev_aload_n0 dX2_receives_39 ?_
          refine ev_iload_n1 dX2_receives_40 ?_
          refine ev_cV1f okX2_receipts lkX2_47 (Nat.le_of_ble_eq_true rfl) (Nat.le_of_ble_eq_true rfl) (hM 103 rfl) isO_103 (c_X2_receipts hM (by omega)) dX2_receives_41 ?_
          rw [(mr b hb).1, hr0]
          refine ev_bipush (nI 8) kb_8 dX2_receives_44 ?_
          first | refine ev_icmp_neN 52 (by omega) (by omega) (by decide) dX2_receives_46 (fun h46 => ?_) (fun h46 => by omega)
          refine ev_aload_n0 dX2_receives_52 ?_
          refine ev_cV0v okX2_note lkX2_72 (Nat.le_of_ble_eq_true rfl) (Nat.le_of_ble_eq_true rfl) (hM 103 rfl) isO_103 hnote dX2_receives_53 ?_
          refine ev_iload_n2 dX2_receives_56 ?_
          refine ev_iload_n1 dX2_receives_57 ?_
          refine ev_iload_n3 dX2_receives_58 ?_
          refine ev_cS3f okX2_letterAt lkX2_65 (Nat.le_of_ble_eq_true rfl) (Nat.le_of_ble_eq_true rfl) c_X2_letterAt dX2_receives_59 ?_
          rw [← hla]
          refine ev_istore4 dX2_receives_62 ?_
          refine ev_aload_n0 dX2_receives_64 ?_
          refine ev_iload_n1 dX2_receives_65 ?_
          refine ev_cV1f okX2_receipts lkX2_47 (Nat.le_of_ble_eq_true rfl) (Nat.le_of_ble_eq_true rfl) (hM 103 rfl) isO_103 (c_X2_receipts hM (by omega)) dX2_receives_66 ?_
          rw [zr]
          refine ev_istore5 dX2_receives_69 ?_
          refine ev_bipush (nI 8) kb_8 dX2_receives_71 ?_
          refine ev_iload_n1 dX2_receives_73 ?_
          first | refine ev_imulN dX2_receives_74 ?_ | refine ev_imul dX2_receives_74 ?_
          refine ev_iload5 dX2_receives_75 ?_
          first | refine ev_iaddN dX2_receives_77 ?_ | refine ev_iadd dX2_receives_77 ?_
          refine ev_istore6 dX2_receives_78 ?_
          refine ev_bipush (nI 31) kb_31 dX2_receives_80 ?_
          refine ev_aload_n0 dX2_receives_82 ?_
          refine ev_iload_n1 dX2_receives_83 ?_
          refine ev_cV1f okX2_stateOf lkX2_99 (Nat.le_of_ble_eq_true rfl) (Nat.le_of_ble_eq_true rfl) (hM 103 rfl) isO_103 (c_X2_stateOf hM (by omega) zr (by omega)) dX2_receives_84 ?_
          rw [zsv]
          first | refine ev_imulN dX2_receives_87 ?_ | refine ev_imul dX2_receives_87 ?_
          refine ev_aload_n0 dX2_receives_88 ?_
          refine gfX2_7 rfl (hM 103 rfl) dX2_receives_89 ?_
          refine ev_iload4 dX2_receives_92 ?_
          refine ev_iald 1263 rfl rfl (hM 104 rfl) (by omega) dX2_receives_94 ?_
          rw [zco]
          first | refine ev_iaddN dX2_receives_95 ?_ | refine ev_iadd dX2_receives_95 ?_
          refine ev_iload_n2 dX2_receives_96 ?_
          first | refine ev_iaddN dX2_receives_97 ?_ | refine ev_iadd dX2_receives_97 ?_
          refine ev_c1 dX2_receives_98 ?_
          first | refine ev_iaddN dX2_receives_99 ?_ | refine ev_iadd dX2_receives_99 ?_
          refine ev_sipush (nI 997) kh_997 dX2_receives_100 ?_
          refine ev_iremN (by omega) (by omega) (by omega) dX2_receives_103 ?_
          rw [hv]
          refine ev_istore7 dX2_receives_104 ?_
          refine ev_bipush (nI 7) kb_7 dX2_receives_106 ?_
          refine ev_bipush (nI 24) kb_24 dX2_receives_108 ?_
          refine ev_iload_n1 dX2_receives_110 ?_
          first | refine ev_imulN dX2_receives_111 ?_ | refine ev_imul dX2_receives_111 ?_
          first | refine ev_iaddN dX2_receives_112 ?_ | refine ev_iadd dX2_receives_112 ?_
          refine ev_c3 dX2_receives_113 ?_
          refine ev_iload5 dX2_receives_114 ?_
          first | refine ev_imulN dX2_receives_116 ?_ | refine ev_imul dX2_receives_116 ?_
          first | refine ev_iaddN dX2_receives_117 ?_ | refine ev_iadd dX2_receives_117 ?_
          refine ev_istore8 dX2_receives_118 ?_
          refine ev_aload_n0 dX2_receives_120 ?_
          refine gfX2_7 rfl (hM 103 rfl) dX2_receives_121 ?_
          refine ev_iload8 dX2_receives_124 ?_
          refine ev_iload_n2 dX2_receives_126 ?_
          refine ev_iast 1263 rfl rfl (hM 104 rfl) (by omega) dX2_receives_127 ?_
          rw [st_n]
          refine ev_aload_n0 dX2_receives_128 ?_
          refine gfX2_7 rfl (hM 103 rfl) dX2_receives_129 ?_
          refine ev_iload8 dX2_receives_132 ?_
          refine ev_c1 dX2_receives_134 ?_
          first | refine ev_iaddN dX2_receives_135 ?_ | refine ev_iadd dX2_receives_135 ?_
          refine ev_iload_n3 dX2_receives_136 ?_
          refine ev_iast 1263 rfl rfl (hM 104 rfl) (by omega) dX2_receives_137 ?_
          rw [st_sr]
          refine ev_aload_n0 dX2_receives_138 ?_
          refine gfX2_7 rfl (hM 103 rfl) dX2_receives_139 ?_
          refine ev_iload8 dX2_receives_142 ?_
          refine ev_c2 dX2_receives_144 ?_
          first | refine ev_iaddN dX2_receives_145 ?_ | refine ev_iadd dX2_receives_145 ?_
          refine ev_iload7 dX2_receives_146 ?_
          refine ev_iast 1263 rfl rfl (hM 104 rfl) (by omega) dX2_receives_148 ?_
          rw [st_sr]
          refine ev_aload_n0 dX2_receives_149 ?_
          refine gfX2_7 rfl (hM 103 rfl) dX2_receives_150 ?_
          refine ev_c3 dX2_receives_153 ?_
          refine ev_iload_n1 dX2_receives_154 ?_
          first | refine ev_iaddN dX2_receives_155 ?_ | refine ev_iadd dX2_receives_155 ?_
          refine ev_dup2 dX2_receives_156 ?_
          refine ev_iald 1263 rfl rfl (hM 104 rfl) (by omega) dX2_receives_157 ?_
          rw [z3]
          refine ev_c1 dX2_receives_158 ?_
          first | refine ev_iaddN dX2_receives_159 ?_ | refine ev_iadd dX2_receives_159 ?_
          refine ev_iast 1263 rfl rfl (hM 104 rfl) (by omega) dX2_receives_160 ?_
          rw [st_sr, ← hRd]
          refine ev_aload_n0 dX2_receives_161 ?_
          refine ev_iload_n1 dX2_receives_162 ?_
          refine ev_iload6 dX2_receives_163 ?_
          refine ev_c1 dX2_receives_165 ?_
          refine ev_iload_n1 dX2_receives_166 ?_
          refine ev_ishl dX2_receives_167 ?_
          refine ev_cV3v okX2_know lkX2_102 (Nat.le_of_ble_eq_true rfl) (Nat.le_of_ble_eq_true rfl) (hM 103 rfl) isO_103 (c_X2_know hM (by omega) (by omega)) dX2_receives_168 ?_
          rw [sr_sr, sr_s, ← hK0]
          refine ev_c0 dX2_receives_171 ?_
          refine ev_istore9 dX2_receives_172 ?_
          exact loop 32 0 rfl
        · have hTT := (hTW M hT).2
          have hc := Cpl_take hTT.1 (x := a) (y := b) (v := v) (by rw [hnn]; exact ha) (by rw [hnn]; exact hb) hab (by rw [hrc]; exact h8) (by rw [hwr, htk, hrc, ht]; exact htl) hv9 (by rw [w0 0 (by omega)]; exact hd)
          rw [hnn, hee, hrc, htk, ht] at hc
          exact Top_set hTT hc (fun k x y => takeW_o x) (fun k x y z => sr_n z)
      · refine fn_read (-3) ?_ (fun M hT => ?_)
        · refine cnV okX1_receives 0 rfl ?_
          show Ev ks mX1_receives 0 [some (.inr 96), some (.inl (nI b)), some (.inl (nI a))] [] C _
          refine ev_aload_n0 dX1_receives_0 ?_
          refine gfX1_12 rfl (hC 96 rfl) dX1_receives_1 ?_
          refine ev_iload_n2 dX1_receives_4 ?_
          refine ev_iload_n1 dX1_receives_5 ?_
          refine ev_cV2f okX0_isWay lkX1_65 (Nat.le_of_ble_eq_true rfl) (Nat.le_of_ble_eq_true rfl) (hC 0 rfl) isO_0 (c_X0_isWay hW hn h4) dX1_receives_6 ?_
          first | refine ev_if_neB 14 (by decide) dX1_receives_9 (fun h9 => ?_) (fun h9 => by rw [hw] at h9; cases h9)
          refine ev_aload_n0 dX1_receives_14 ?_
          refine gfX1_12 rfl (hC 96 rfl) dX1_receives_15 ?_
          refine ev_iload_n1 dX1_receives_18 ?_
          refine ev_cV1f okX0_isDown lkX1_69 (Nat.le_of_ble_eq_true rfl) (Nat.le_of_ble_eq_true rfl) (hC 0 rfl) isO_0 (c_X0_isDown hW (by omega)) dX1_receives_19 ?_
          first | refine ev_if_neB 46 (by decide) dX1_receives_22 (fun h22 => by rw [hd] at h22; cases h22) (fun h22 => ?_)
          refine ev_aload_n0 dX1_receives_25 ?_
          refine gfX1_12 rfl (hC 96 rfl) dX1_receives_26 ?_
          refine ev_iload_n2 dX1_receives_29 ?_
          refine ev_iload_n1 dX1_receives_30 ?_
          refine ev_cV2f okX0_takenFrom lkX1_72 (Nat.le_of_ble_eq_true rfl) (Nat.le_of_ble_eq_true rfl) (hC 0 rfl) isO_0 (c_X0_takenFrom hW (by omega) (hr _ (by omega)).1 (hr _ (by omega)).2) dX1_receives_31 ?_
          rw [htd]
          refine ev_aload_n0 dX1_receives_34 ?_
          refine gfX1_12 rfl (hC 96 rfl) dX1_receives_35 ?_
          refine ev_iload_n2 dX1_receives_38 ?_
          refine ev_iload_n1 dX1_receives_39 ?_
          refine ev_cV2f okX0_lettersOn lkX1_57 (Nat.le_of_ble_eq_true rfl) (Nat.le_of_ble_eq_true rfl) (hC 0 rfl) isO_0 (c_X0_lettersOn hW (by omega) (by omega)) dX1_receives_40 ?_
          rw [hLab.1]
          first | refine ev_icmp_ltN 49 (by omega) (by omega) (by decide) dX1_receives_43 (fun h43 => ?_) (fun h43 => by omega)
          refine ev_aload_n0 dX1_receives_49 ?_
          refine gfX1_12 rfl (hC 96 rfl) dX1_receives_50 ?_
          refine gfX1_75 rfl (hC 0 rfl) dX1_receives_53 ?_
          refine ev_iload_n1 dX1_receives_56 ?_
          refine ev_iald 4 rfl rfl (hC 1 rfl) (by omega) dX1_receives_57 ?_
          rw [hrb.1]
          refine ev_bipush (nI 8) kb_8 dX1_receives_58 ?_
          first | refine ev_icmp_ltN 66 (by omega) (by omega) (by decide) dX1_receives_60 (fun h60 => by omega) (fun h60 => ?_)
          refine ev_bipush (-3 : Int32) kb_m3 dX1_receives_63 ?_
          refine ev_ireturn rfl dX1_receives_65 ?_
          exact ⟨rfl, rfl⟩
        · have mn := (mf_n hT.1).1
          have me := (mf_n hT.1).2.1
          have m2 := (mf_n hT.1).2.2
          have mr := mf_r hT.1
          have mL := mf_L hT.1
          refine cnV okX2_receives 7 rfl ?_
          show Ev ks mX2_receives 0 [some (.inr 103), some (.inl (nI b)), some (.inl (nI a)), none, none, none, none, none, none, none] [] M _
          refine ev_aload_n0 dX2_receives_0 ?_
          refine ev_iload_n2 dX2_receives_1 ?_
          refine ev_iload_n1 dX2_receives_2 ?_
          refine ev_cV2f okX2_isWay lkX2_90 (Nat.le_of_ble_eq_true rfl) (Nat.le_of_ble_eq_true rfl) (hM 103 rfl) isO_103 (c_X2_isWay hM mn h2 h4) dX2_receives_3 ?_
          first | refine ev_if_neB 11 (by decide) dX2_receives_6 (fun h6 => ?_) (fun h6 => by rw [hw] at h6; cases h6)
          refine ev_aload_n0 dX2_receives_11 ?_
          refine ev_iload_n1 dX2_receives_12 ?_
          refine ev_iload_n2 dX2_receives_13 ?_
          refine ev_cV2f okX2_had lkX2_93 (Nat.le_of_ble_eq_true rfl) (Nat.le_of_ble_eq_true rfl) (hM 103 rfl) isO_103 (c_X2_had hM (by omega) (mr _ (by omega)).1 (mr _ (by omega)).2) dX2_receives_14 ?_
          rw [htM M hT]
          refine ev_istore_n3 dX2_receives_17 ?_
          refine ev_aload_n0 dX2_receives_18 ?_
          refine ev_iload_n1 dX2_receives_19 ?_
          refine ev_cV1f okX2_isDown lkX2_96 (Nat.le_of_ble_eq_true rfl) (Nat.le_of_ble_eq_true rfl) (hM 103 rfl) isO_103 (c_X2_isDown hM (by omega)) dX2_receives_20 ?_
          rw [m2]
          first | refine ev_if_neB 36 (by decide) dX2_receives_23 (fun h23 => by rw [hd] at h23; cases h23) (fun h23 => ?_)
          refine ev_iload_n3 dX2_receives_26 ?_
          refine ev_aload_n0 dX2_receives_27 ?_
          refine ev_iload_n2 dX2_receives_28 ?_
          refine ev_iload_n1 dX2_receives_29 ?_
          refine ev_cV2f okX2_letters lkX2_62 (Nat.le_of_ble_eq_true rfl) (Nat.le_of_ble_eq_true rfl) (hM 103 rfl) isO_103 (c_X2_letters hM (by omega) (by omega)) dX2_receives_30 ?_
          rw [(mL a b (by omega) (by omega)).1]
          first | refine ev_icmp_neN 39 (by omega) (by omega) (by decide) dX2_receives_33 (fun h33 => ?_) (fun h33 => by omega)
          refine ev_aload_n0 dX2_receives_39 ?_
          refine ev_iload_n1 dX2_receives_40 ?_
          refine ev_cV1f okX2_receipts lkX2_47 (Nat.le_of_ble_eq_true rfl) (Nat.le_of_ble_eq_true rfl) (hM 103 rfl) isO_103 (c_X2_receipts hM (by omega)) dX2_receives_41 ?_
          rw [(mr b hb).1]
          refine ev_bipush (nI 8) kb_8 dX2_receives_44 ?_
          first | refine ev_icmp_neN 52 (by omega) (by omega) (by decide) dX2_receives_46 (fun h46 => by omega) (fun h46 => ?_)
          refine ev_bipush (-3 : Int32) kb_m3 dX2_receives_49 ?_
          refine ev_ireturn rfl dX2_receives_51 ?_
          exact ⟨rfl, rfl⟩
