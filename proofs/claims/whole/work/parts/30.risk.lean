/-- receipts lost, and sites that lose some without being down -/
def ls (w : St) (D : Int32) : Nat := fb_sm (fun q => rc w q - kcn w D q) (nn w)
def orp (w : St) (D : Int32) : Nat := fb_ct (fun q => !bt D q && decide (kcn w D q < rc w q)) (nn w)
theorem k_kid {ks : List Nat} (hW : InW ks) {S : St} (hI : Inv S) {D : Int32} : Cn ks mX0_keptIfDown yX0_keptIfDown [.inr 0, .inl D] S (Ri (kst S D) S) := c_X0_keptIfDown hW (wf_n hI).1.1 (wf_n hI).1.2.2 (wf_r hI)
theorem k_lost {ks : List Nat} (hW : InW ks) {S : St} (hI : Inv S) {D : Int32} : Cn ks mX0_lostBut yX0_lostBut [.inr 0, .inl (kst S D)] S (Ri (nI (ls S D)) S) := by
  have e : ls S D = fb_sm (rc S) (nn S) - pcn (kst S D) := by unfold ls; rw [kst_pcn hI, sm_sub (fun k _ => (kcn_le hI D k).1)]
  rw [e]
  exact c_X0_lostBut hW (wf_n hI).1.1 (wf_n hI).1.2.2 (fun q hq => (wf_r hI q hq).1) (by rw [kst_pcn hI]; exact fb_sm_le (fun k _ => (kcn_le hI D k).1))
theorem k_orph {ks : List Nat} (hW : InW ks) {S : St} (hI : Inv S) {D : Int32} : Cn ks mX0_orphansBut yX0_orphansBut [.inr 0, .inl (kst S D), .inl D] S (Ri (nI (orp S D)) S) := by
  have h4 := (wf_n hI).1.2.2
  have e : orp S D = fb_ct (fun q => !bt D q && decide (pcn (kst S D &&& (nI 255 <<< (nI (q * 8) &&& 31))) < rc S q)) (nn S) := by
    unfold orp
    refine fb_ct_cong (fun q hq => ?_)
    rw [kst_in hI D (by omega)]
  rw [e]
  exact c_X0_orphansBut hW (wf_n hI).1.1 h4 (wf_r hI)
theorem k_all {ks : List Nat} (hW : InW ks) {S : St} {n N : Nat} (hn : S 0 0 = nI n) (h2 : 2 ≤ n) (h4 : n ≤ 4) (hN : 2 ^ n = N) : Cn ks mX0_allSites yX0_allSites [.inr 0] S (Ri (nI (N - 1)) S) := by rw [← hN]; exact c_X0_allSites hW hn h2 h4
theorem m_find {ks : List Nat} (hM : InM ks) {w S : St} {m : Nat → Int32} (hX : Cpl w m) (hS : S 104 = m) {D : Int32} : Cn ks mX2_findKept yX2_findKept [.inr 103, .inl D] S (Rv (sr S 110 (kR (kcn w D)))) := c_X2_findKept hM (by rw [hS]; exact (mf_n hX).1) (wf_n hX.1).1.2.2 (by rw [hS]; exact mf_r hX) (by rw [hS]; exact mf_B hX) (by rw [hS]; exact mf_G hX D)
theorem m_lost {ks : List Nat} (hM : InM ks) {w S : St} {m : Nat → Int32} (hX : Cpl w m) (hS : S 104 = m) {D : Int32} (hK : S 110 = kR (kcn w D)) : Cn ks mX2_lost yX2_lost [.inr 103] S (Ri (nI (ls w D)) S) := c_X2_lost hM (by rw [hS]; exact (mf_n hX).1) (wf_n hX.1).1.2.2 (fun q hq => by rw [hS]; exact (mf_r hX q hq).1) (by rw [hK]; exact (mf_k hX.1 D).1)
theorem m_orph {ks : List Nat} (hM : InM ks) {w S : St} {m : Nat → Int32} (hX : Cpl w m) (hS : S 104 = m) {D : Int32} (hK : S 110 = kR (kcn w D)) : Cn ks mX2_orphans yX2_orphans [.inr 103, .inl D] S (Ri (nI (orp w D)) S) := c_X2_orphans hM (by rw [hS]; exact (mf_n hX).1) (wf_n hX.1).1.2.2 (by rw [hS]; exact mf_r hX) (by rw [hK]; exact fun q _ => (mf_k hX.1 D).2 q)
theorem m_lost2 {ks : List Nat} (hM : InM ks) {w S : St} {m : Nat → Int32} (hX : Cpl w m) (hS : S 104 = m) {D : Int32} : Cn ks mX2_lost yX2_lost [.inr 103] (sr S 110 (kR (kcn w D))) (Ri (nI (ls w D)) (sr S 110 (kR (kcn w D)))) := m_lost hM hX (S := sr S 110 (kR (kcn w D))) hS rfl
theorem m_orph2 {ks : List Nat} (hM : InM ks) {w S : St} {m : Nat → Int32} (hX : Cpl w m) (hS : S 104 = m) {D : Int32} : Cn ks mX2_orphans yX2_orphans [.inr 103, .inl D] (sr S 110 (kR (kcn w D))) (Ri (nI (orp w D)) (sr S 110 (kR (kcn w D)))) := m_orph hM hX (S := sr S 110 (kR (kcn w D))) hS rfl
theorem shl_pw {n N : Nat} (h2 : 2 ≤ n) (h4 : n ≤ 4) (hN : 2 ^ n = N) : (nI 1 <<< (nI n &&& 31) = nI N) ∧ 4 ≤ N ∧ N ≤ 16 := by
  subst hN
  rcases (show n = 2 ∨ n = 3 ∨ n = 4 by omega) with rfl | rfl | rfl <;> decide +kernel
theorem isS_outl {n : Nat} (h0 : 0 < n) (hn : n < 2147483648) {q : Int32} (h : isS n q = false) (h1 : ¬ q < 0) (h2 : ¬ nI (n - 1) < q) : False := by
  rw [← isS_le h0 hn, nI_0] at h
  have a := Int32.not_lt.mp h1
  have b := Int32.not_lt.mp h2
  simp [a, b] at h
theorem op_risk {ks : List Nat} (hC : InC ks) (hM : InM ks) {s a : Int32} : Op ks mX1_risk yX1_risk mX2_risk yX2_risk [.inl s, .inl a] := by
  refine op_scr (fun C hI _ => ?_)
  have hW : InW ks := hC.w
  obtain ⟨⟨hn, h2, h4⟩, he, he1, he4⟩ := wf_n hI
  have hr := wf_r hI
  have hL := wf_L hI
  obtain ⟨N, hN⟩ : ∃ N, 2 ^ nn C = N := ⟨_, rfl⟩
  obtain ⟨hsh, hN4, hN16⟩ := shl_pw h2 h4 hN
  cases hs : isS N s with
  | false =>
    refine ⟨-1, ?_, fun M hT => ?_⟩
    · refine cnV okX1_risk 2 rfl ?_
      show Ev ks mX1_risk 0 [some (.inr 96), some (.inl s), some (.inl a), none, none] [] C _
      refine ev_iload_n1 dX1_risk_0 ?_
      first | refine ev_if_lt 24 (by decide) dX1_risk_1 (fun h1 => ?_) (fun h1 => ?_)
      · refine ev_cm1 dX1_risk_24 ?_
        refine ev_ireturn rfl dX1_risk_25 ?_
        exact ⟨rfl, fun _ _ _ => rfl⟩
      · refine ev_iload_n1 dX1_risk_4 ?_
        refine ev_aload_n0 dX1_risk_5 ?_
        refine gfX1_12 rfl (hC 96 rfl) dX1_risk_6 ?_
        refine ev_cV0f okX0_allSites lkX1_160 (Nat.le_of_ble_eq_true rfl) (Nat.le_of_ble_eq_true rfl) (hC 0 rfl) isO_0 (k_all hW hn h2 h4 hN) dX1_risk_9 ?_
        first | refine ev_icmp_gt 24 (by decide) dX1_risk_12 (fun h12 => ?_) (fun h12 => ?_)
        · refine ev_cm1 dX1_risk_24 ?_
          refine ev_ireturn rfl dX1_risk_25 ?_
          exact ⟨rfl, fun _ _ _ => rfl⟩
        · exact (isS_outl (by omega) (by omega) hs h1 h12).elim
    · have mn := (mf_n hT.1).1
      have me := (mf_n hT.1).2.1
      have m2 := (mf_n hT.1).2.2
      have mr := mf_r hT.1
      have mL := mf_L hT.1
      refine cnV okX2_risk 1 rfl ?_
      show Ev ks mX2_risk 0 [some (.inr 103), some (.inl s), some (.inl a), none] [] M _
      refine ev_iload_n1 dX2_risk_0 ?_
      refine ev_c0 dX2_risk_1 ?_
      refine ev_c1 dX2_risk_2 ?_
      refine ev_aload_n0 dX2_risk_3 ?_
      refine ev_cV0f okX2_many lkX2_82 (Nat.le_of_ble_eq_true rfl) (Nat.le_of_ble_eq_true rfl) (hM 103 rfl) isO_103 (c_X2_many hM mn) dX2_risk_4 ?_
      refine ev_ishl dX2_risk_7 ?_
      rw [hsh]
      refine ev_c1 dX2_risk_8 ?_
      first | refine ev_isubN (by omega) dX2_risk_9 ?_ | refine ev_isub dX2_risk_9 ?_
      refine ev_cS3f okX2_in lkX2_43 (Nat.le_of_ble_eq_true rfl) (Nat.le_of_ble_eq_true rfl) c_X2_in dX2_risk_10 ?_
      first | refine ev_if_eqB 25 (by decide) dX2_risk_13 (fun h13 => ?_) (fun h13 => by rw [isS_le (by omega) (by omega)] at h13; rw [hs] at h13; cases h13)
      refine ev_cm1 dX2_risk_25 ?_
      refine ev_ireturn rfl dX2_risk_26 ?_
      exact ⟨rfl, fun _ _ _ => rfl⟩
  | true =>
    obtain ⟨t, ht, rfl⟩ := (isS_iff (by omega)).mp hs
    cases ha : isS 2 a with
    | false =>
      refine ⟨-1, ?_, fun M hT => ?_⟩
      · refine cnV okX1_risk 2 rfl ?_
        show Ev ks mX1_risk 0 [some (.inr 96), some (.inl (nI t)), some (.inl a), none, none] [] C _
        refine ev_iload_n1 dX1_risk_0 ?_
        refine ev_if_ltN 24 (by omega) (by decide) dX1_risk_1 ?_
        refine ev_iload_n1 dX1_risk_4 ?_
        refine ev_aload_n0 dX1_risk_5 ?_
        refine gfX1_12 rfl (hC 96 rfl) dX1_risk_6 ?_
        refine ev_cV0f okX0_allSites lkX1_160 (Nat.le_of_ble_eq_true rfl) (Nat.le_of_ble_eq_true rfl) (hC 0 rfl) isO_0 (k_all hW hn h2 h4 hN) dX1_risk_9 ?_
        first | refine ev_icmp_gtN 24 (by omega) (by omega) (by decide) dX1_risk_12 (fun h12 => by omega) (fun h12 => ?_)
        refine ev_iload_n2 dX1_risk_15 ?_
        first | refine ev_if_lt 24 (by decide) dX1_risk_16 (fun h16 => ?_) (fun h16 => ?_)
        · refine ev_cm1 dX1_risk_24 ?_
          refine ev_ireturn rfl dX1_risk_25 ?_
          exact ⟨rfl, fun _ _ _ => rfl⟩
        · refine ev_iload_n2 dX1_risk_19 ?_
          refine ev_c1 dX1_risk_20 ?_
          first | refine ev_icmp_le 26 (by decide) dX1_risk_21 (fun h21 => by exact (isS_out (by omega) ha h16 h21).elim) (fun h21 => ?_)
          refine ev_cm1 dX1_risk_24 ?_
          refine ev_ireturn rfl dX1_risk_25 ?_
          exact ⟨rfl, fun _ _ _ => rfl⟩
      · have mn := (mf_n hT.1).1
        have me := (mf_n hT.1).2.1
        have m2 := (mf_n hT.1).2.2
        have mr := mf_r hT.1
        have mL := mf_L hT.1
        refine cnV okX2_risk 1 rfl ?_
        show Ev ks mX2_risk 0 [some (.inr 103), some (.inl (nI t)), some (.inl a), none] [] M _
        refine ev_iload_n1 dX2_risk_0 ?_
        refine ev_c0 dX2_risk_1 ?_
        refine ev_c1 dX2_risk_2 ?_
        refine ev_aload_n0 dX2_risk_3 ?_
        refine ev_cV0f okX2_many lkX2_82 (Nat.le_of_ble_eq_true rfl) (Nat.le_of_ble_eq_true rfl) (hM 103 rfl) isO_103 (c_X2_many hM mn) dX2_risk_4 ?_
        refine ev_ishl dX2_risk_7 ?_
        rw [hsh]
        refine ev_c1 dX2_risk_8 ?_
        first | refine ev_isubN (by omega) dX2_risk_9 ?_ | refine ev_isub dX2_risk_9 ?_
        refine ev_cS3f okX2_in lkX2_43 (Nat.le_of_ble_eq_true rfl) (Nat.le_of_ble_eq_true rfl) c_X2_in dX2_risk_10 ?_
        first | refine ev_if_eqB 25 (by decide) dX2_risk_13 (fun h13 => by rw [isS_le (by omega) (by omega)] at h13; rw [hs] at h13; cases h13) (fun h13 => ?_)
        refine ev_iload_n2 dX2_risk_16 ?_
        refine ev_c0 dX2_risk_17 ?_
        refine ev_c1 dX2_risk_18 ?_
        refine ev_cS3f okX2_in lkX2_43 (Nat.le_of_ble_eq_true rfl) (Nat.le_of_ble_eq_true rfl) c_X2_in dX2_risk_19 ?_
        first | refine ev_if_neB 27 (by decide) dX2_risk_22 (fun h22 => by rw [isS_in (by omega), ha] at h22; cases h22) (fun h22 => ?_)
        refine ev_cm1 dX2_risk_25 ?_
        refine ev_ireturn rfl dX2_risk_26 ?_
        exact ⟨rfl, fun _ _ _ => rfl⟩
    | true =>
      obtain ⟨c, hc, rfl⟩ := (isS_iff (by omega)).mp ha
      rcases (show c = 0 ∨ c = 1 by omega) with rfl | rfl
      · refine ⟨nI (ls C (C 0 2 ||| nI t)), ?_, fun M hT => ?_⟩
        · refine cnV okX1_risk 2 rfl ?_
          show Ev ks mX1_risk 0 [some (.inr 96), some (.inl (nI t)), some (.inl (nI 0)), none, none] [] C _
          refine ev_iload_n1 dX1_risk_0 ?_
          refine ev_if_ltN 24 (by omega) (by decide) dX1_risk_1 ?_
          refine ev_iload_n1 dX1_risk_4 ?_
          refine ev_aload_n0 dX1_risk_5 ?_
          refine gfX1_12 rfl (hC 96 rfl) dX1_risk_6 ?_
          refine ev_cV0f okX0_allSites lkX1_160 (Nat.le_of_ble_eq_true rfl) (Nat.le_of_ble_eq_true rfl) (hC 0 rfl) isO_0 (k_all hW hn h2 h4 hN) dX1_risk_9 ?_
          first | refine ev_icmp_gtN 24 (by omega) (by omega) (by decide) dX1_risk_12 (fun h12 => by omega) (fun h12 => ?_)
          refine ev_iload_n2 dX1_risk_15 ?_
          refine ev_if_ltN 24 (by omega) (by decide) dX1_risk_16 ?_
          refine ev_iload_n2 dX1_risk_19 ?_
          refine ev_c1 dX1_risk_20 ?_
          first | refine ev_icmp_leN 26 (by omega) (by omega) (by decide) dX1_risk_21 (fun h21 => ?_) (fun h21 => by omega)
          refine ev_aload_n0 dX1_risk_26 ?_
          refine gfX1_12 rfl (hC 96 rfl) dX1_risk_27 ?_
          refine gfX1_89 rfl (hC 0 rfl) dX1_risk_30 ?_
          refine ev_iload_n1 dX1_risk_33 ?_
          refine ev_ior dX1_risk_34 ?_
          refine ev_istore_n3 dX1_risk_35 ?_
          refine ev_aload_n0 dX1_risk_36 ?_
          refine gfX1_12 rfl (hC 96 rfl) dX1_risk_37 ?_
          refine ev_iload_n3 dX1_risk_40 ?_
          refine ev_cV1f okX0_keptIfDown lkX1_163 (Nat.le_of_ble_eq_true rfl) (Nat.le_of_ble_eq_true rfl) (hC 0 rfl) isO_0 (k_kid hW hI) dX1_risk_41 ?_
          refine ev_istore4 dX1_risk_44 ?_
          refine ev_iload_n2 dX1_risk_46 ?_
          first | refine ev_if_neN 62 (by omega) (by decide) dX1_risk_47 (fun h47 => by omega) (fun h47 => ?_)
          refine ev_aload_n0 dX1_risk_50 ?_
          refine gfX1_12 rfl (hC 96 rfl) dX1_risk_51 ?_
          refine ev_iload4 dX1_risk_54 ?_
          refine ev_cV1f okX0_lostBut lkX1_166 (Nat.le_of_ble_eq_true rfl) (Nat.le_of_ble_eq_true rfl) (hC 0 rfl) isO_0 (k_lost hW hI) dX1_risk_56 ?_
          refine ev_goto 72 (by decide) dX1_risk_59 ?_
          refine ev_ireturn rfl dX1_risk_72 ?_
          exact ⟨rfl, fun _ _ _ => rfl⟩
        · have mn := (mf_n hT.1).1
          have me := (mf_n hT.1).2.1
          have m2 := (mf_n hT.1).2.2
          have mr := mf_r hT.1
          have mL := mf_L hT.1
          refine cnV okX2_risk 1 rfl ?_
          show Ev ks mX2_risk 0 [some (.inr 103), some (.inl (nI t)), some (.inl (nI 0)), none] [] M _
          refine ev_iload_n1 dX2_risk_0 ?_
          refine ev_c0 dX2_risk_1 ?_
          refine ev_c1 dX2_risk_2 ?_
          refine ev_aload_n0 dX2_risk_3 ?_
          refine ev_cV0f okX2_many lkX2_82 (Nat.le_of_ble_eq_true rfl) (Nat.le_of_ble_eq_true rfl) (hM 103 rfl) isO_103 (c_X2_many hM mn) dX2_risk_4 ?_
          refine ev_ishl dX2_risk_7 ?_
          rw [hsh]
          refine ev_c1 dX2_risk_8 ?_
          first | refine ev_isubN (by omega) dX2_risk_9 ?_ | refine ev_isub dX2_risk_9 ?_
          refine ev_cS3f okX2_in lkX2_43 (Nat.le_of_ble_eq_true rfl) (Nat.le_of_ble_eq_true rfl) c_X2_in dX2_risk_10 ?_
          first | refine ev_if_eqB 25 (by decide) dX2_risk_13 (fun h13 => by rw [isS_le (by omega) (by omega)] at h13; rw [hs] at h13; cases h13) (fun h13 => ?_)
          refine ev_iload_n2 dX2_risk_16 ?_
          refine ev_c0 dX2_risk_17 ?_
          refine ev_c1 dX2_risk_18 ?_
          refine ev_cS3f okX2_in lkX2_43 (Nat.le_of_ble_eq_true rfl) (Nat.le_of_ble_eq_true rfl) c_X2_in dX2_risk_19 ?_
          first | refine ev_if_neB 27 (by decide) dX2_risk_22 (fun h22 => ?_) (fun h22 => by rw [isS_in (by omega), ha] at h22; cases h22)
          refine ev_aload_n0 dX2_risk_27 ?_
          refine gfX2_7 rfl (hM 103 rfl) dX2_risk_28 ?_
          refine ev_c2 dX2_risk_31 ?_
          refine ev_iald 1263 rfl rfl (hM 104 rfl) (by omega) dX2_risk_32 ?_
          refine ev_iload_n1 dX2_risk_33 ?_
          refine ev_ior dX2_risk_34 ?_
          rw [m2]
          refine ev_istore_n3 dX2_risk_35 ?_
          refine ev_aload_n0 dX2_risk_36 ?_
          refine ev_iload_n3 dX2_risk_37 ?_
          refine ev_cV1v okX2_findKept lkX2_124 (Nat.le_of_ble_eq_true rfl) (Nat.le_of_ble_eq_true rfl) (hM 103 rfl) isO_103 (m_find hM hT.1 rfl) dX2_risk_38 ?_
          refine ev_iload_n2 dX2_risk_41 ?_
          first | refine ev_if_neN 52 (by omega) (by decide) dX2_risk_42 (fun h42 => by omega) (fun h42 => ?_)
          refine ev_aload_n0 dX2_risk_45 ?_
          refine ev_cV0f okX2_lost lkX2_128 (Nat.le_of_ble_eq_true rfl) (Nat.le_of_ble_eq_true rfl) (hM 103 rfl) isO_103 (m_lost2 hM hT.1 rfl) dX2_risk_46 ?_
          refine ev_goto 57 (by decide) dX2_risk_49 ?_
          refine ev_ireturn rfl dX2_risk_57 ?_
          exact ⟨rfl, fun k hk _ => sr_n hk⟩
      · refine ⟨nI (orp C (C 0 2 ||| nI t)), ?_, fun M hT => ?_⟩
        · refine cnV okX1_risk 2 rfl ?_
          show Ev ks mX1_risk 0 [some (.inr 96), some (.inl (nI t)), some (.inl (nI 1)), none, none] [] C _
          refine ev_iload_n1 dX1_risk_0 ?_
          refine ev_if_ltN 24 (by omega) (by decide) dX1_risk_1 ?_
          refine ev_iload_n1 dX1_risk_4 ?_
          refine ev_aload_n0 dX1_risk_5 ?_
          refine gfX1_12 rfl (hC 96 rfl) dX1_risk_6 ?_
          refine ev_cV0f okX0_allSites lkX1_160 (Nat.le_of_ble_eq_true rfl) (Nat.le_of_ble_eq_true rfl) (hC 0 rfl) isO_0 (k_all hW hn h2 h4 hN) dX1_risk_9 ?_
          first | refine ev_icmp_gtN 24 (by omega) (by omega) (by decide) dX1_risk_12 (fun h12 => by omega) (fun h12 => ?_)
          refine ev_iload_n2 dX1_risk_15 ?_
          refine ev_if_ltN 24 (by omega) (by decide) dX1_risk_16 ?_
          refine ev_iload_n2 dX1_risk_19 ?_
          refine ev_c1 dX1_risk_20 ?_
          first | refine ev_icmp_leN 26 (by omega) (by omega) (by decide) dX1_risk_21 (fun h21 => ?_) (fun h21 => by omega)
          refine ev_aload_n0 dX1_risk_26 ?_
          refine gfX1_12 rfl (hC 96 rfl) dX1_risk_27 ?_
          refine gfX1_89 rfl (hC 0 rfl) dX1_risk_30 ?_
          refine ev_iload_n1 dX1_risk_33 ?_
          refine ev_ior dX1_risk_34 ?_
          refine ev_istore_n3 dX1_risk_35 ?_
          refine ev_aload_n0 dX1_risk_36 ?_
          refine gfX1_12 rfl (hC 96 rfl) dX1_risk_37 ?_
          refine ev_iload_n3 dX1_risk_40 ?_
          refine ev_cV1f okX0_keptIfDown lkX1_163 (Nat.le_of_ble_eq_true rfl) (Nat.le_of_ble_eq_true rfl) (hC 0 rfl) isO_0 (k_kid hW hI) dX1_risk_41 ?_
          refine ev_istore4 dX1_risk_44 ?_
          refine ev_iload_n2 dX1_risk_46 ?_
          first | refine ev_if_neN 62 (by omega) (by decide) dX1_risk_47 (fun h47 => ?_) (fun h47 => by omega)
          refine ev_aload_n0 dX1_risk_62 ?_
          refine gfX1_12 rfl (hC 96 rfl) dX1_risk_63 ?_
          refine ev_iload4 dX1_risk_66 ?_
          refine ev_iload_n3 dX1_risk_68 ?_
          refine ev_cV2f okX0_orphansBut lkX1_169 (Nat.le_of_ble_eq_true rfl) (Nat.le_of_ble_eq_true rfl) (hC 0 rfl) isO_0 (k_orph hW hI) dX1_risk_69 ?_
          refine ev_ireturn rfl dX1_risk_72 ?_
          exact ⟨rfl, fun _ _ _ => rfl⟩
        · have mn := (mf_n hT.1).1
          have me := (mf_n hT.1).2.1
          have m2 := (mf_n hT.1).2.2
          have mr := mf_r hT.1
          have mL := mf_L hT.1
          refine cnV okX2_risk 1 rfl ?_
          show Ev ks mX2_risk 0 [some (.inr 103), some (.inl (nI t)), some (.inl (nI 1)), none] [] M _
          refine ev_iload_n1 dX2_risk_0 ?_
          refine ev_c0 dX2_risk_1 ?_
          refine ev_c1 dX2_risk_2 ?_
          refine ev_aload_n0 dX2_risk_3 ?_
          refine ev_cV0f okX2_many lkX2_82 (Nat.le_of_ble_eq_true rfl) (Nat.le_of_ble_eq_true rfl) (hM 103 rfl) isO_103 (c_X2_many hM mn) dX2_risk_4 ?_
          refine ev_ishl dX2_risk_7 ?_
          rw [hsh]
          refine ev_c1 dX2_risk_8 ?_
          first | refine ev_isubN (by omega) dX2_risk_9 ?_ | refine ev_isub dX2_risk_9 ?_
          refine ev_cS3f okX2_in lkX2_43 (Nat.le_of_ble_eq_true rfl) (Nat.le_of_ble_eq_true rfl) c_X2_in dX2_risk_10 ?_
          first | refine ev_if_eqB 25 (by decide) dX2_risk_13 (fun h13 => by rw [isS_le (by omega) (by omega)] at h13; rw [hs] at h13; cases h13) (fun h13 => ?_)
          refine ev_iload_n2 dX2_risk_16 ?_
          refine ev_c0 dX2_risk_17 ?_
          refine ev_c1 dX2_risk_18 ?_
          refine ev_cS3f okX2_in lkX2_43 (Nat.le_of_ble_eq_true rfl) (Nat.le_of_ble_eq_true rfl) c_X2_in dX2_risk_19 ?_
          first | refine ev_if_neB 27 (by decide) dX2_risk_22 (fun h22 => ?_) (fun h22 => by rw [isS_in (by omega), ha] at h22; cases h22)
          refine ev_aload_n0 dX2_risk_27 ?_
          refine gfX2_7 rfl (hM 103 rfl) dX2_risk_28 ?_
          refine ev_c2 dX2_risk_31 ?_
          refine ev_iald 1263 rfl rfl (hM 104 rfl) (by omega) dX2_risk_32 ?_
          refine ev_iload_n1 dX2_risk_33 ?_
          refine ev_ior dX2_risk_34 ?_
          rw [m2]
          refine ev_istore_n3 dX2_risk_35 ?_
          refine ev_aload_n0 dX2_risk_36 ?_
          refine ev_iload_n3 dX2_risk_37 ?_
          refine ev_cV1v okX2_findKept lkX2_124 (Nat.le_of_ble_eq_true rfl) (Nat.le_of_ble_eq_true rfl) (hM 103 rfl) isO_103 (m_find hM hT.1 rfl) dX2_risk_38 ?_
          refine ev_iload_n2 dX2_risk_41 ?_
          first | refine ev_if_neN 52 (by omega) (by decide) dX2_risk_42 (fun h42 => ?_) (fun h42 => by omega)
          refine ev_aload_n0 dX2_risk_52 ?_
          refine ev_iload_n3 dX2_risk_53 ?_
          refine ev_cV1f okX2_orphans lkX2_158 (Nat.le_of_ble_eq_true rfl) (Nat.le_of_ble_eq_true rfl) (hM 103 rfl) isO_103 (m_orph2 hM hT.1 rfl) dX2_risk_54 ?_
          refine ev_ireturn rfl dX2_risk_57 ?_
          exact ⟨rfl, fun k hk _ => sr_n hk⟩
/-- the worst of the sets below t -/
def wst (w : St) (k : Int32) : Nat → Int32
  | 0 => -9
  | t + 1 => if nI t &&& w 0 2 = 0 ∧ nI (pcn (nI t)) = k then (if wst w k t < nI (ls w (w 0 2 ||| nI t)) then nI (ls w (w 0 2 ||| nI t)) else wst w k t) else wst w k t
theorem op_worst {ks : List Nat} (hC : InC ks) (hM : InM ks) {k : Int32} : Op ks mX1_worst yX1_worst mX2_worst yX2_worst [.inl k] := by
  refine op_scr (fun C hI _ => ?_)
  have hW : InW ks := hC.w
  obtain ⟨⟨hn, h2, h4⟩, he, he1, he4⟩ := wf_n hI
  have hr := wf_r hI
  have hL := wf_L hI
  obtain ⟨N, hN⟩ : ∃ N, 2 ^ nn C = N := ⟨_, rfl⟩
  obtain ⟨hsh, hN4, hN16⟩ := shl_pw h2 h4 hN
  cases hk : isS 5 k with
  | false =>
    refine ⟨-1, ?_, fun M hT => ?_⟩
    · refine cnV okX1_worst 3 rfl ?_
      show Ev ks mX1_worst 0 [some (.inr 96), some (.inl k), none, none, none] [] C _
      refine ev_iload_n1 dX1_worst_0 ?_
      first | refine ev_if_lt 9 (by decide) dX1_worst_1 (fun h1 => ?_) (fun h1 => ?_)
      · refine ev_cm1 dX1_worst_9 ?_
        refine ev_ireturn rfl dX1_worst_10 ?_
        exact ⟨rfl, fun _ _ _ => rfl⟩
      · refine ev_iload_n1 dX1_worst_4 ?_
        refine ev_c4 dX1_worst_5 ?_
        first | refine ev_icmp_le 11 (by decide) dX1_worst_6 (fun h6 => by exact (isS_out (by omega) hk h1 h6).elim) (fun h6 => ?_)
        refine ev_cm1 dX1_worst_9 ?_
        refine ev_ireturn rfl dX1_worst_10 ?_
        exact ⟨rfl, fun _ _ _ => rfl⟩
    · have mn := (mf_n hT.1).1
      have me := (mf_n hT.1).2.1
      have m2 := (mf_n hT.1).2.2
      have mr := mf_r hT.1
      have mL := mf_L hT.1
      refine cnV okX2_worst 2 rfl ?_
      show Ev ks mX2_worst 0 [some (.inr 103), some (.inl k), none, none] [] M _
      refine ev_iload_n1 dX2_worst_0 ?_
      refine ev_c0 dX2_worst_1 ?_
      refine ev_c4 dX2_worst_2 ?_
      refine ev_cS3f okX2_in lkX2_43 (Nat.le_of_ble_eq_true rfl) (Nat.le_of_ble_eq_true rfl) c_X2_in dX2_worst_3 ?_
      first | refine ev_if_neB 11 (by decide) dX2_worst_6 (fun h6 => by rw [isS_in (by omega), hk] at h6; cases h6) (fun h6 => ?_)
      refine ev_cm1 dX2_worst_9 ?_
      refine ev_ireturn rfl dX2_worst_10 ?_
      exact ⟨rfl, fun _ _ _ => rfl⟩
  | true =>
    have hk0 : ¬ k < 0 ∧ k ≤ nI 4 := by
      obtain ⟨c, hc, rfl⟩ := (isS_iff (by omega)).mp hk
      exact ⟨nI_pos (by omega), by rw [Int32.le_iff_toInt_le, nI_toInt (by omega), nI_toInt (by omega)]; omega⟩
    refine ⟨wst C k N, ?_, fun M hT => ?_⟩
    · have loop : ∀ f t, t + f = N → Ev ks mX1_worst 25 [some (.inr 96), some (.inl k), some (.inl (wst C k t)), some (.inl (nI (N - 1))), some (.inl (nI t))] [] C (Gi (wst C k N) (fun C' => ∀ k, k ≠ 101 → k ≠ 102 → C' k = C k)) := by
        intro f
        induction f with
        | zero =>
          intro t ht
          refine ev_iload4 dX1_worst_25 ?_
          refine ev_iload_n3 dX1_worst_27 ?_
          first | refine ev_icmp_gtN 88 (by omega) (by omega) (by decide) dX1_worst_28 (fun h28 => ?_) (fun h28 => by omega)
          refine ev_iload_n2 dX1_worst_88 ?_
          refine ev_ireturn rfl dX1_worst_89 ?_
          exact ⟨by rw [show t = N by omega], fun _ _ _ => rfl⟩
        | succ f ih =>
          intro t ht
          have hs : wst C k (t + 1) = if nI t &&& C 0 2 = 0 ∧ nI (pcn (nI t)) = k then (if wst C k t < nI (ls C (C 0 2 ||| nI t)) then nI (ls C (C 0 2 ||| nI t)) else wst C k t) else wst C k t := rfl
          have hI2 := ih (t + 1) (by omega)
          refine ev_iload4 dX1_worst_25 ?_
          refine ev_iload_n3 dX1_worst_27 ?_
          first | refine ev_icmp_gtN 88 (by omega) (by omega) (by decide) dX1_worst_28 (fun h28 => by omega) (fun h28 => ?_)
          refine ev_iload4 dX1_worst_31 ?_
          refine ev_aload_n0 dX1_worst_33 ?_
          refine gfX1_12 rfl (hC 96 rfl) dX1_worst_34 ?_
          refine gfX1_89 rfl (hC 0 rfl) dX1_worst_37 ?_
          refine ev_iand dX1_worst_40 ?_
          first | refine ev_if_ne 82 (by decide) dX1_worst_41 (fun h41 => ?_) (fun h41 => ?_)
          · refine ev_iinc4 dX1_worst_82 ?_
            refine ev_goto 25 (by decide) dX1_worst_85 ?_
            first | rw [if_pos ⟨by assumption, by assumption⟩] at hs | rw [if_neg (fun hh => h41 hh.1)] at hs | rw [if_neg (fun hh => h50 hh.2)] at hs
            rw [hs] at hI2
            exact hI2
          · refine ev_iload4 dX1_worst_44 ?_
            refine ev_cS1f okJ6_bitCount_0f7a4 lkX1_92 (Nat.le_of_ble_eq_true rfl) (Nat.le_of_ble_eq_true rfl) c_J6_bitCount_0f7a4 dX1_worst_46 ?_
            refine ev_iload_n1 dX1_worst_49 ?_
            first | refine ev_icmp_ne 82 (by decide) dX1_worst_50 (fun h50 => ?_) (fun h50 => ?_)
            · refine ev_iinc4 dX1_worst_82 ?_
              refine ev_goto 25 (by decide) dX1_worst_85 ?_
              first | rw [if_pos ⟨by assumption, by assumption⟩] at hs | rw [if_neg (fun hh => h41 hh.1)] at hs | rw [if_neg (fun hh => h50 hh.2)] at hs
              rw [hs] at hI2
              exact hI2
            · refine ev_iload_n2 dX1_worst_53 ?_
              refine ev_aload_n0 dX1_worst_54 ?_
              refine gfX1_12 rfl (hC 96 rfl) dX1_worst_55 ?_
              refine ev_aload_n0 dX1_worst_58 ?_
              refine gfX1_12 rfl (hC 96 rfl) dX1_worst_59 ?_
              refine ev_aload_n0 dX1_worst_62 ?_
              refine gfX1_12 rfl (hC 96 rfl) dX1_worst_63 ?_
              refine gfX1_89 rfl (hC 0 rfl) dX1_worst_66 ?_
              refine ev_iload4 dX1_worst_69 ?_
              refine ev_ior dX1_worst_71 ?_
              refine ev_cV1f okX0_keptIfDown lkX1_163 (Nat.le_of_ble_eq_true rfl) (Nat.le_of_ble_eq_true rfl) (hC 0 rfl) isO_0 (k_kid hW hI) dX1_worst_72 ?_
              refine ev_cV1f okX0_lostBut lkX1_166 (Nat.le_of_ble_eq_true rfl) (Nat.le_of_ble_eq_true rfl) (hC 0 rfl) isO_0 (k_lost hW hI) dX1_worst_75 ?_
              refine ev_max lkX1_172 (by decide) (by decide) kx_s kx_i kx_c dX1_worst_78 ?_
              refine ev_istore_n2 dX1_worst_81 ?_
              refine ev_iinc4 dX1_worst_82 ?_
              refine ev_goto 25 (by decide) dX1_worst_85 ?_
              first | rw [if_pos ⟨by assumption, by assumption⟩] at hs | rw [if_neg (fun hh => h41 hh.1)] at hs | rw [if_neg (fun hh => h50 hh.2)] at hs
              rw [hs] at hI2
              exact hI2
      refine cnV okX1_worst 3 rfl ?_
      show Ev ks mX1_worst 0 [some (.inr 96), some (.inl k), none, none, none] [] C _
      refine ev_iload_n1 dX1_worst_0 ?_
      first | refine ev_if_lt 9 (by decide) dX1_worst_1 (fun h1 => by exact absurd h1 hk0.1) (fun h1 => ?_)
      refine ev_iload_n1 dX1_worst_4 ?_
      refine ev_c4 dX1_worst_5 ?_
      first | refine ev_icmp_le 11 (by decide) dX1_worst_6 (fun h6 => ?_) (fun h6 => by exact absurd hk0.2 h6)
      refine ev_bipush (-9 : Int32) kb_m9 dX1_worst_11 ?_
      refine ev_istore_n2 dX1_worst_13 ?_
      refine ev_aload_n0 dX1_worst_14 ?_
      refine gfX1_12 rfl (hC 96 rfl) dX1_worst_15 ?_
      refine ev_cV0f okX0_allSites lkX1_160 (Nat.le_of_ble_eq_true rfl) (Nat.le_of_ble_eq_true rfl) (hC 0 rfl) isO_0 (k_all hW hn h2 h4 hN) dX1_worst_18 ?_
      refine ev_istore_n3 dX1_worst_21 ?_
      refine ev_c0 dX1_worst_22 ?_
      refine ev_istore4 dX1_worst_23 ?_
      exact loop N 0 (by omega)
    · have mn := (mf_n hT.1).1
      have me := (mf_n hT.1).2.1
      have m2 := (mf_n hT.1).2.2
      have mr := mf_r hT.1
      have mL := mf_L hT.1
      have loop : ∀ f t S, t + f = N → (∀ k, k ≠ 110 → k ≠ 111 → S k = M k) → Ev ks mX2_worst 16 [some (.inr 103), some (.inl k), some (.inl (wst C k t)), some (.inl (nI t))] [] S (Gi (wst C k N) (fun M' => ∀ k, k ≠ 110 → k ≠ 111 → M' k = M k)) := by
        intro f
        induction f with
        | zero =>
          intro t S ht hS
          have e104 := hS 104 (by omega) (by omega)
          have sn : S 104 0 = nI (nn C) := by rw [e104]; exact mn
          refine ev_iload_n3 dX2_worst_16 ?_
          refine ev_c1 dX2_worst_17 ?_
          refine ev_aload_n0 dX2_worst_18 ?_
          refine ev_cV0f okX2_many lkX2_82 (Nat.le_of_ble_eq_true rfl) (Nat.le_of_ble_eq_true rfl) (hM 103 rfl) isO_103 (c_X2_many hM sn) dX2_worst_19 ?_
          refine ev_ishl dX2_worst_22 ?_
          rw [hsh]
          first | refine ev_icmp_geN 80 (by omega) (by omega) (by decide) dX2_worst_23 (fun h23 => ?_) (fun h23 => by omega)
          refine ev_iload_n2 dX2_worst_80 ?_
          refine ev_ireturn rfl dX2_worst_81 ?_
          exact ⟨by rw [show t = N by omega], hS⟩
        | succ f ih =>
          intro t S ht hS
          have e104 := hS 104 (by omega) (by omega)
          have sn : S 104 0 = nI (nn C) := by rw [e104]; exact mn
          have s2 : S 104 2 = C 0 2 := by rw [e104]; exact m2
          have hs : wst C k (t + 1) = if nI t &&& C 0 2 = 0 ∧ nI (pcn (nI t)) = k then (if wst C k t < nI (ls C (C 0 2 ||| nI t)) then nI (ls C (C 0 2 ||| nI t)) else wst C k t) else wst C k t := rfl
          have hI2 := fun S' h => ih (t + 1) S' (by omega) h
          have hS3 : ∀ D k, k ≠ 110 → k ≠ 111 → sr S 110 (kR (kcn C D)) k = M k := fun D k a b => by rw [sr_n a]; exact hS k a b
          refine ev_iload_n3 dX2_worst_16 ?_
          refine ev_c1 dX2_worst_17 ?_
          refine ev_aload_n0 dX2_worst_18 ?_
          refine ev_cV0f okX2_many lkX2_82 (Nat.le_of_ble_eq_true rfl) (Nat.le_of_ble_eq_true rfl) (hM 103 rfl) isO_103 (c_X2_many hM sn) dX2_worst_19 ?_
          refine ev_ishl dX2_worst_22 ?_
          rw [hsh]
          first | refine ev_icmp_geN 80 (by omega) (by omega) (by decide) dX2_worst_23 (fun h23 => by omega) (fun h23 => ?_)
          refine ev_iload_n3 dX2_worst_26 ?_
          refine ev_aload_n0 dX2_worst_27 ?_
          refine gfX2_7 rfl (hM 103 rfl) dX2_worst_28 ?_
          refine ev_c2 dX2_worst_31 ?_
          refine ev_iald 1263 rfl rfl (hM 104 rfl) (by omega) dX2_worst_32 ?_
          refine ev_iand dX2_worst_33 ?_
          rw [s2]
          first | refine ev_if_ne 74 (by decide) dX2_worst_34 (fun h34 => ?_) (fun h34 => ?_)
          · refine ev_iinc3 dX2_worst_74 ?_
            refine ev_goto 16 (by decide) dX2_worst_77 ?_
            first | rw [if_pos ⟨h34, h42⟩, if_pos (Int32.not_le.mp h62)] at hs | rw [if_pos ⟨h34, h42⟩, if_neg (Int32.not_lt.mpr h62)] at hs | rw [if_neg (fun hh => h34 hh.1)] at hs | rw [if_neg (fun hh => h42 hh.2)] at hs
            rw [hs] at hI2
            first | exact hI2 _ hS | exact hI2 _ (hS3 _)
          · refine ev_iload_n3 dX2_worst_37 ?_
            refine ev_cS1f okX2_bits lkX2_112 (Nat.le_of_ble_eq_true rfl) (Nat.le_of_ble_eq_true rfl) c_X2_bits dX2_worst_38 ?_
            refine ev_iload_n1 dX2_worst_41 ?_
            first | refine ev_icmp_ne 74 (by decide) dX2_worst_42 (fun h42 => ?_) (fun h42 => ?_)
            · refine ev_iinc3 dX2_worst_74 ?_
              refine ev_goto 16 (by decide) dX2_worst_77 ?_
              first | rw [if_pos ⟨h34, h42⟩, if_pos (Int32.not_le.mp h62)] at hs | rw [if_pos ⟨h34, h42⟩, if_neg (Int32.not_lt.mpr h62)] at hs | rw [if_neg (fun hh => h34 hh.1)] at hs | rw [if_neg (fun hh => h42 hh.2)] at hs
              rw [hs] at hI2
              first | exact hI2 _ hS | exact hI2 _ (hS3 _)
            · refine ev_aload_n0 dX2_worst_45 ?_
              refine ev_aload_n0 dX2_worst_46 ?_
              refine gfX2_7 rfl (hM 103 rfl) dX2_worst_47 ?_
              refine ev_c2 dX2_worst_50 ?_
              refine ev_iald 1263 rfl rfl (hM 104 rfl) (by omega) dX2_worst_51 ?_
              refine ev_iload_n3 dX2_worst_52 ?_
              refine ev_ior dX2_worst_53 ?_
              rw [s2]
              refine ev_cV1v okX2_findKept lkX2_124 (Nat.le_of_ble_eq_true rfl) (Nat.le_of_ble_eq_true rfl) (hM 103 rfl) isO_103 (m_find hM hT.1 e104) dX2_worst_54 ?_
              refine ev_aload_n0 dX2_worst_57 ?_
              refine ev_cV0f okX2_lost lkX2_128 (Nat.le_of_ble_eq_true rfl) (Nat.le_of_ble_eq_true rfl) (hM 103 rfl) isO_103 (m_lost2 hM hT.1 e104) dX2_worst_58 ?_
              refine ev_iload_n2 dX2_worst_61 ?_
              first | refine ev_icmp_le 72 (by decide) dX2_worst_62 (fun h62 => ?_) (fun h62 => ?_)
              · refine ev_iload_n2 dX2_worst_72 ?_
                refine ev_istore_n2 dX2_worst_73 ?_
                refine ev_iinc3 dX2_worst_74 ?_
                refine ev_goto 16 (by decide) dX2_worst_77 ?_
                first | rw [if_pos ⟨h34, h42⟩, if_pos (Int32.not_le.mp h62)] at hs | rw [if_pos ⟨h34, h42⟩, if_neg (Int32.not_lt.mpr h62)] at hs | rw [if_neg (fun hh => h34 hh.1)] at hs | rw [if_neg (fun hh => h42 hh.2)] at hs
                rw [hs] at hI2
                first | exact hI2 _ hS | exact hI2 _ (hS3 _)
              · refine ev_aload_n0 dX2_worst_65 ?_
                refine ev_cV0f okX2_lost lkX2_128 (Nat.le_of_ble_eq_true rfl) (Nat.le_of_ble_eq_true rfl) (hM 103 rfl) isO_103 (m_lost2 hM hT.1 e104) dX2_worst_66 ?_
                refine ev_goto 73 (by decide) dX2_worst_69 ?_
                refine ev_istore_n2 dX2_worst_73 ?_
                refine ev_iinc3 dX2_worst_74 ?_
                refine ev_goto 16 (by decide) dX2_worst_77 ?_
                first | rw [if_pos ⟨h34, h42⟩, if_pos (Int32.not_le.mp h62)] at hs | rw [if_pos ⟨h34, h42⟩, if_neg (Int32.not_lt.mpr h62)] at hs | rw [if_neg (fun hh => h34 hh.1)] at hs | rw [if_neg (fun hh => h42 hh.2)] at hs
                rw [hs] at hI2
                first | exact hI2 _ hS | exact hI2 _ (hS3 _)
      refine cnV okX2_worst 2 rfl ?_
      show Ev ks mX2_worst 0 [some (.inr 103), some (.inl k), none, none] [] M _
      refine ev_iload_n1 dX2_worst_0 ?_
      refine ev_c0 dX2_worst_1 ?_
      refine ev_c4 dX2_worst_2 ?_
      refine ev_cS3f okX2_in lkX2_43 (Nat.le_of_ble_eq_true rfl) (Nat.le_of_ble_eq_true rfl) c_X2_in dX2_worst_3 ?_
      first | refine ev_if_neB 11 (by decide) dX2_worst_6 (fun h6 => ?_) (fun h6 => by rw [isS_in (by omega), hk] at h6; cases h6)
      refine ev_bipush (-9 : Int32) kb_m9 dX2_worst_11 ?_
      refine ev_istore_n2 dX2_worst_13 ?_
      refine ev_c0 dX2_worst_14 ?_
      refine ev_istore_n3 dX2_worst_15 ?_
      exact loop N 0 M (by omega) (fun _ _ _ => rfl)
