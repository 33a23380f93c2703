theorem op_site {ks : List Nat} (hC : InC ks) (hM : InM ks) {q a : Int32} : Op ks mX1_site yX1_site mX2_site yX2_site [.inl q, .inl a] := by
  refine op_read (fun C hI _ => ?_)
  have hW : InW ks := hC.w
  obtain ⟨⟨hn, h2, h4⟩, -⟩ := wf_n hI
  have hr := wf_r hI
  have hL := wf_L hI
  cases hq : isS (nn C) q with
  | false =>
    refine ⟨-1, ?_, fun M hT => ?_⟩
    · refine cnV okX1_site 0 rfl ?_
      show Ev ks mX1_site 0 [some (.inr 96), some (.inl q), some (.inl a)] [] C _
      refine ev_aload_n0 dX1_site_0 ?_
      refine gfX1_12 rfl (hC 96 rfl) dX1_site_1 ?_
      refine ev_iload_n1 dX1_site_4 ?_
      refine ev_cV1f okX0_isSite lkX1_50 (Nat.le_of_ble_eq_true rfl) (Nat.le_of_ble_eq_true rfl) (hC 0 rfl) isO_0 (c_X0_isSite hW hn) dX1_site_5 ?_
      first | refine ev_if_neB 13 (by decide) dX1_site_8 (fun h8 => by rw [hq] at h8; cases h8) (fun h8 => ?_)
      refine ev_cm1 dX1_site_11 ?_
      refine ev_ireturn rfl dX1_site_12 ?_
      exact ⟨rfl, rfl⟩
    · have mn := (mf_n hT.1).1
      refine cnV okX2_site 0 rfl ?_
      show Ev ks mX2_site 0 [some (.inr 103), some (.inl q), some (.inl a)] [] M _
      refine ev_aload_n0 dX2_site_0 ?_
      refine ev_iload_n1 dX2_site_1 ?_
      refine ev_cV1f okX2_isSite lkX2_78 (Nat.le_of_ble_eq_true rfl) (Nat.le_of_ble_eq_true rfl) (hM 103 rfl) isO_103 (c_X2_isSite hM mn h2 h4) dX2_site_2 ?_
      first | refine ev_if_neB 10 (by decide) dX2_site_5 (fun h5 => by rw [hq] at h5; cases h5) (fun h5 => ?_)
      refine ev_cm1 dX2_site_8 ?_
      refine ev_ireturn rfl dX2_site_9 ?_
      exact ⟨rfl, rfl⟩
  | true =>
    obtain ⟨j, hj, rfl⟩ := (isS_iff (by omega)).mp hq
    have hrj := hr j hj
    rcases sw_cases a 5 (by omega) with ⟨c, hc, rfl⟩ | ho
    · rcases (show c = 0 ∨ c = 1 ∨ c = 2 ∨ c = 3 ∨ c = 4 by omega) with rfl | rfl | rfl | rfl | rfl
      · refine ⟨if bt (C 0 2) j = true then -9 else (if rc C j = 0 then nI (j + 1) else C 4 (j * 8 + (rc C j - 1))), ?_, fun M hT => ?_⟩
        · refine cnV okX1_site 0 rfl ?_
          show Ev ks mX1_site 0 [some (.inr 96), some (.inl (nI j)), some (.inl (nI 0))] [] C _
          refine ev_aload_n0 dX1_site_0 ?_
          refine gfX1_12 rfl (hC 96 rfl) dX1_site_1 ?_
          refine ev_iload_n1 dX1_site_4 ?_
          refine ev_cV1f okX0_isSite lkX1_50 (Nat.le_of_ble_eq_true rfl) (Nat.le_of_ble_eq_true rfl) (hC 0 rfl) isO_0 (c_X0_isSite hW hn) dX1_site_5 ?_
          first | refine ev_if_neB 13 (by decide) dX1_site_8 (fun h8 => ?_) (fun h8 => by rw [hq] at h8; cases h8)
          refine ev_iload_n2 dX1_site_13 ?_
          refine ev_tsIn 34 48 (by decide +kernel) (by decide +kernel) (by decide +kernel) (by decide) dX1_site_14 ?_
          refine ev_aload_n0 dX1_site_48 ?_
          refine gfX1_12 rfl (hC 96 rfl) dX1_site_49 ?_
          refine ev_iload_n1 dX1_site_52 ?_
          refine ev_cV1f okX0_isDown lkX1_69 (Nat.le_of_ble_eq_true rfl) (Nat.le_of_ble_eq_true rfl) (hC 0 rfl) isO_0 (c_X0_isDown hW (by omega)) dX1_site_53 ?_
          first | refine ev_if_eqB 64 (by decide) dX1_site_56 (fun h56 => ?_) (fun h56 => ?_)
          · refine ev_aload_n0 dX1_site_64 ?_
            refine gfX1_12 rfl (hC 96 rfl) dX1_site_65 ?_
            refine ev_iload_n1 dX1_site_68 ?_
            refine ev_cV1f okX0_stateOf lkX1_81 (Nat.le_of_ble_eq_true rfl) (Nat.le_of_ble_eq_true rfl) (hC 0 rfl) isO_0 (c_X0_stateOf hW (by omega) hrj.1 hrj.2) dX1_site_69 ?_
            refine ev_ireturn rfl dX1_site_72 ?_
            refine ⟨?_, rfl⟩
            first | rw [if_neg (show ¬ bt (C 0 2) j = true by rw [h56]; decide)] | rw [if_pos h56]
          · refine ev_bipush (-9 : Int32) kb_m9 dX1_site_59 ?_
            refine ev_goto 72 (by decide) dX1_site_61 ?_
            refine ev_ireturn rfl dX1_site_72 ?_
            refine ⟨?_, rfl⟩
            first | rw [if_neg (show ¬ bt (C 0 2) j = true by rw [h56]; decide)] | rw [if_pos h56]
        · have mn := (mf_n hT.1).1
          have m2 := (mf_n hT.1).2.2
          have mr := mf_r hT.1 j hj
          refine cnV okX2_site 0 rfl ?_
          show Ev ks mX2_site 0 [some (.inr 103), some (.inl (nI j)), some (.inl (nI 0))] [] M _
          refine ev_aload_n0 dX2_site_0 ?_
          refine ev_iload_n1 dX2_site_1 ?_
          refine ev_cV1f okX2_isSite lkX2_78 (Nat.le_of_ble_eq_true rfl) (Nat.le_of_ble_eq_true rfl) (hM 103 rfl) isO_103 (c_X2_isSite hM mn h2 h4) dX2_site_2 ?_
          first | refine ev_if_neB 10 (by decide) dX2_site_5 (fun h5 => ?_) (fun h5 => by rw [hq] at h5; cases h5)
          refine ev_iload_n2 dX2_site_10 ?_
          refine ev_tsIn 33 44 (by decide +kernel) (by decide +kernel) (by decide +kernel) (by decide) dX2_site_11 ?_
          refine ev_aload_n0 dX2_site_44 ?_
          refine ev_iload_n1 dX2_site_45 ?_
          refine ev_cV1f okX2_isDown lkX2_96 (Nat.le_of_ble_eq_true rfl) (Nat.le_of_ble_eq_true rfl) (hM 103 rfl) isO_103 (c_X2_isDown hM (by omega)) dX2_site_46 ?_
          rw [m2]
          first | refine ev_if_eqB 57 (by decide) dX2_site_49 (fun h49 => ?_) (fun h49 => ?_)
          · refine ev_aload_n0 dX2_site_57 ?_
            refine ev_iload_n1 dX2_site_58 ?_
            refine ev_cV1f okX2_stateOf lkX2_99 (Nat.le_of_ble_eq_true rfl) (Nat.le_of_ble_eq_true rfl) (hM 103 rfl) isO_103 (c_X2_stateOf hM (by omega) mr.1 mr.2) dX2_site_59 ?_
            refine ev_ireturn rfl dX2_site_62 ?_
            refine ⟨?_, rfl⟩
            first | rw [if_pos h49] | (rw [if_neg (show ¬ bt (C 0 2) j = true by rw [h49]; decide)]; by_cases h0 : rc C j = 0; rw [if_pos h0, if_pos h0]; rw [if_neg h0, if_neg h0, (hT.1.2.2.2.1 j (rc C j - 1) hj (by omega)).2.2])
          · refine ev_bipush (-9 : Int32) kb_m9 dX2_site_52 ?_
            refine ev_goto 62 (by decide) dX2_site_54 ?_
            refine ev_ireturn rfl dX2_site_62 ?_
            refine ⟨?_, rfl⟩
            first | rw [if_pos h49] | (rw [if_neg (show ¬ bt (C 0 2) j = true by rw [h49]; decide)]; by_cases h0 : rc C j = 0; rw [if_pos h0, if_pos h0]; rw [if_neg h0, if_neg h0, (hT.1.2.2.2.1 j (rc C j - 1) hj (by omega)).2.2])
      · refine ⟨C 1 j, ?_, fun M hT => ?_⟩
        · refine cnV okX1_site 0 rfl ?_
          show Ev ks mX1_site 0 [some (.inr 96), some (.inl (nI j)), some (.inl (nI 1))] [] C _
          refine ev_aload_n0 dX1_site_0 ?_
          refine gfX1_12 rfl (hC 96 rfl) dX1_site_1 ?_
          refine ev_iload_n1 dX1_site_4 ?_
          refine ev_cV1f okX0_isSite lkX1_50 (Nat.le_of_ble_eq_true rfl) (Nat.le_of_ble_eq_true rfl) (hC 0 rfl) isO_0 (c_X0_isSite hW hn) dX1_site_5 ?_
          first | refine ev_if_neB 13 (by decide) dX1_site_8 (fun h8 => ?_) (fun h8 => by rw [hq] at h8; cases h8)
          refine ev_iload_n2 dX1_site_13 ?_
          refine ev_tsIn 59 73 (by decide +kernel) (by decide +kernel) (by decide +kernel) (by decide) dX1_site_14 ?_
          refine ev_aload_n0 dX1_site_73 ?_
          refine gfX1_12 rfl (hC 96 rfl) dX1_site_74 ?_
          refine gfX1_75 rfl (hC 0 rfl) dX1_site_77 ?_
          refine ev_iload_n1 dX1_site_80 ?_
          refine ev_iald 4 rfl rfl (hC 1 rfl) (by omega) dX1_site_81 ?_
          refine ev_ireturn rfl dX1_site_82 ?_
          exact ⟨rfl, rfl⟩
        · have mn := (mf_n hT.1).1
          refine cnV okX2_site 0 rfl ?_
          show Ev ks mX2_site 0 [some (.inr 103), some (.inl (nI j)), some (.inl (nI 1))] [] M _
          refine ev_aload_n0 dX2_site_0 ?_
          refine ev_iload_n1 dX2_site_1 ?_
          refine ev_cV1f okX2_isSite lkX2_78 (Nat.le_of_ble_eq_true rfl) (Nat.le_of_ble_eq_true rfl) (hM 103 rfl) isO_103 (c_X2_isSite hM mn h2 h4) dX2_site_2 ?_
          first | refine ev_if_neB 10 (by decide) dX2_site_5 (fun h5 => ?_) (fun h5 => by rw [hq] at h5; cases h5)
          refine ev_iload_n2 dX2_site_10 ?_
          refine ev_tsIn 52 63 (by decide +kernel) (by decide +kernel) (by decide +kernel) (by decide) dX2_site_11 ?_
          refine ev_aload_n0 dX2_site_63 ?_
          refine ev_iload_n1 dX2_site_64 ?_
          refine ev_cV1f okX2_receipts lkX2_47 (Nat.le_of_ble_eq_true rfl) (Nat.le_of_ble_eq_true rfl) (hM 103 rfl) isO_103 (c_X2_receipts hM (by omega)) dX2_site_65 ?_
          refine ev_ireturn rfl dX2_site_68 ?_
          exact ⟨by rw [hT.1.2.2.1 j (by omega)], rfl⟩
      · refine ⟨nI (pcn (C 11 (j * 4 + j))), ?_, fun M hT => ?_⟩
        · refine cnV okX1_site 0 rfl ?_
          show Ev ks mX1_site 0 [some (.inr 96), some (.inl (nI j)), some (.inl (nI 2))] [] C _
          refine ev_aload_n0 dX1_site_0 ?_
          refine gfX1_12 rfl (hC 96 rfl) dX1_site_1 ?_
          refine ev_iload_n1 dX1_site_4 ?_
          refine ev_cV1f okX0_isSite lkX1_50 (Nat.le_of_ble_eq_true rfl) (Nat.le_of_ble_eq_true rfl) (hC 0 rfl) isO_0 (c_X0_isSite hW hn) dX1_site_5 ?_
          first | refine ev_if_neB 13 (by decide) dX1_site_8 (fun h8 => ?_) (fun h8 => by rw [hq] at h8; cases h8)
          refine ev_iload_n2 dX1_site_13 ?_
          refine ev_tsIn 69 83 (by decide +kernel) (by decide +kernel) (by decide +kernel) (by decide) dX1_site_14 ?_
          refine ev_aload_n0 dX1_site_83 ?_
          refine gfX1_12 rfl (hC 96 rfl) dX1_site_84 ?_
          refine ev_iload_n1 dX1_site_87 ?_
          refine ev_cV1f okX0_heldBy lkX1_111 (Nat.le_of_ble_eq_true rfl) (Nat.le_of_ble_eq_true rfl) (hC 0 rfl) isO_0 (c_X0_heldBy hW (by omega)) dX1_site_88 ?_
          refine ev_cS1f okJ6_bitCount_0f7a4 lkX1_92 (Nat.le_of_ble_eq_true rfl) (Nat.le_of_ble_eq_true rfl) c_J6_bitCount_0f7a4 dX1_site_91 ?_
          refine ev_ireturn rfl dX1_site_94 ?_
          exact ⟨rfl, rfl⟩
        · have mn := (mf_n hT.1).1
          refine cnV okX2_site 0 rfl ?_
          show Ev ks mX2_site 0 [some (.inr 103), some (.inl (nI j)), some (.inl (nI 2))] [] M _
          refine ev_aload_n0 dX2_site_0 ?_
          refine ev_iload_n1 dX2_site_1 ?_
          refine ev_cV1f okX2_isSite lkX2_78 (Nat.le_of_ble_eq_true rfl) (Nat.le_of_ble_eq_true rfl) (hM 103 rfl) isO_103 (c_X2_isSite hM mn h2 h4) dX2_site_2 ?_
          first | refine ev_if_neB 10 (by decide) dX2_site_5 (fun h5 => ?_) (fun h5 => by rw [hq] at h5; cases h5)
          refine ev_iload_n2 dX2_site_10 ?_
          refine ev_tsIn 58 69 (by decide +kernel) (by decide +kernel) (by decide +kernel) (by decide) dX2_site_11 ?_
          refine ev_aload_n0 dX2_site_69 ?_
          refine gfX2_7 rfl (hM 103 rfl) dX2_site_70 ?_
          refine ev_bipush (nI 103) kb_103 dX2_site_73 ?_
          refine ev_iload_n1 dX2_site_75 ?_
          first | refine ev_iaddN dX2_site_76 ?_ | refine ev_iadd dX2_site_76 ?_
          refine ev_iald 1263 rfl rfl (hM 104 rfl) (by omega) dX2_site_77 ?_
          refine ev_cS1f okX2_bits lkX2_112 (Nat.le_of_ble_eq_true rfl) (Nat.le_of_ble_eq_true rfl) c_X2_bits dX2_site_78 ?_
          refine ev_ireturn rfl dX2_site_81 ?_
          exact ⟨by rw [hT.1.2.2.2.2.1 j (by omega)], rfl⟩
      · refine ⟨bI (bt (C 0 2) j), ?_, fun M hT => ?_⟩
        · refine cnV okX1_site 0 rfl ?_
          show Ev ks mX1_site 0 [some (.inr 96), some (.inl (nI j)), some (.inl (nI 3))] [] C _
          refine ev_aload_n0 dX1_site_0 ?_
          refine gfX1_12 rfl (hC 96 rfl) dX1_site_1 ?_
          refine ev_iload_n1 dX1_site_4 ?_
          refine ev_cV1f okX0_isSite lkX1_50 (Nat.le_of_ble_eq_true rfl) (Nat.le_of_ble_eq_true rfl) (hC 0 rfl) isO_0 (c_X0_isSite hW hn) dX1_site_5 ?_
          first | refine ev_if_neB 13 (by decide) dX1_site_8 (fun h8 => ?_) (fun h8 => by rw [hq] at h8; cases h8)
          refine ev_iload_n2 dX1_site_13 ?_
          refine ev_tsIn 81 95 (by decide +kernel) (by decide +kernel) (by decide +kernel) (by decide) dX1_site_14 ?_
          refine ev_aload_n0 dX1_site_95 ?_
          refine gfX1_12 rfl (hC 96 rfl) dX1_site_96 ?_
          refine ev_iload_n1 dX1_site_99 ?_
          refine ev_cV1f okX0_isDown lkX1_69 (Nat.le_of_ble_eq_true rfl) (Nat.le_of_ble_eq_true rfl) (hC 0 rfl) isO_0 (c_X0_isDown hW (by omega)) dX1_site_100 ?_
          first | refine ev_if_eqB 110 (by decide) dX1_site_103 (fun h103 => ?_) (fun h103 => ?_)
          · refine ev_c0 dX1_site_110 ?_
            refine ev_ireturn rfl dX1_site_111 ?_
            exact ⟨by rw [h103]; rfl, rfl⟩
          · refine ev_c1 dX1_site_106 ?_
            refine ev_goto 111 (by decide) dX1_site_107 ?_
            refine ev_ireturn rfl dX1_site_111 ?_
            exact ⟨by rw [h103]; rfl, rfl⟩
        · have mn := (mf_n hT.1).1
          have m2 := (mf_n hT.1).2.2
          refine cnV okX2_site 0 rfl ?_
          show Ev ks mX2_site 0 [some (.inr 103), some (.inl (nI j)), some (.inl (nI 3))] [] M _
          refine ev_aload_n0 dX2_site_0 ?_
          refine ev_iload_n1 dX2_site_1 ?_
          refine ev_cV1f okX2_isSite lkX2_78 (Nat.le_of_ble_eq_true rfl) (Nat.le_of_ble_eq_true rfl) (hM 103 rfl) isO_103 (c_X2_isSite hM mn h2 h4) dX2_site_2 ?_
          first | refine ev_if_neB 10 (by decide) dX2_site_5 (fun h5 => ?_) (fun h5 => by rw [hq] at h5; cases h5)
          refine ev_iload_n2 dX2_site_10 ?_
          refine ev_tsIn 71 82 (by decide +kernel) (by decide +kernel) (by decide +kernel) (by decide) dX2_site_11 ?_
          refine ev_aload_n0 dX2_site_82 ?_
          refine ev_iload_n1 dX2_site_83 ?_
          refine ev_cV1f okX2_isDown lkX2_96 (Nat.le_of_ble_eq_true rfl) (Nat.le_of_ble_eq_true rfl) (hM 103 rfl) isO_103 (c_X2_isDown hM (by omega)) dX2_site_84 ?_
          rw [m2]
          first | refine ev_if_eqB 94 (by decide) dX2_site_87 (fun h87 => ?_) (fun h87 => ?_)
          · refine ev_c0 dX2_site_94 ?_
            refine ev_ireturn rfl dX2_site_95 ?_
            exact ⟨by rw [h87]; rfl, rfl⟩
          · refine ev_c1 dX2_site_90 ?_
            refine ev_goto 95 (by decide) dX2_site_91 ?_
            refine ev_ireturn rfl dX2_site_95 ?_
            exact ⟨by rw [h87]; rfl, rfl⟩
      · refine ⟨nI (fb_sm (wr C j) (nn C)), ?_, fun M hT => ?_⟩
        · refine cnV okX1_site 0 rfl ?_
          show Ev ks mX1_site 0 [some (.inr 96), some (.inl (nI j)), some (.inl (nI 4))] [] C _
          refine ev_aload_n0 dX1_site_0 ?_
          refine gfX1_12 rfl (hC 96 rfl) dX1_site_1 ?_
          refine ev_iload_n1 dX1_site_4 ?_
          refine ev_cV1f okX0_isSite lkX1_50 (Nat.le_of_ble_eq_true rfl) (Nat.le_of_ble_eq_true rfl) (hC 0 rfl) isO_0 (c_X0_isSite hW hn) dX1_site_5 ?_
          first | refine ev_if_neB 13 (by decide) dX1_site_8 (fun h8 => ?_) (fun h8 => by rw [hq] at h8; cases h8)
          refine ev_iload_n2 dX1_site_13 ?_
          refine ev_tsIn 98 112 (by decide +kernel) (by decide +kernel) (by decide +kernel) (by decide) dX1_site_14 ?_
          refine ev_aload_n0 dX1_site_112 ?_
          refine gfX1_12 rfl (hC 96 rfl) dX1_site_113 ?_
          refine ev_iload_n1 dX1_site_116 ?_
          refine ev_cV1f okX0_lettersBy lkX1_114 (Nat.le_of_ble_eq_true rfl) (Nat.le_of_ble_eq_true rfl) (hC 0 rfl) isO_0 (c_X0_lettersBy hW hn h4 (by omega) (fun y hy => (hL j y (by omega) (by omega)).1)) dX1_site_117 ?_
          refine ev_ireturn rfl dX1_site_120 ?_
          exact ⟨rfl, rfl⟩
        · have mn := (mf_n hT.1).1
          refine cnV okX2_site 0 rfl ?_
          show Ev ks mX2_site 0 [some (.inr 103), some (.inl (nI j)), some (.inl (nI 4))] [] M _
          refine ev_aload_n0 dX2_site_0 ?_
          refine ev_iload_n1 dX2_site_1 ?_
          refine ev_cV1f okX2_isSite lkX2_78 (Nat.le_of_ble_eq_true rfl) (Nat.le_of_ble_eq_true rfl) (hM 103 rfl) isO_103 (c_X2_isSite hM mn h2 h4) dX2_site_2 ?_
          first | refine ev_if_neB 10 (by decide) dX2_site_5 (fun h5 => ?_) (fun h5 => by rw [hq] at h5; cases h5)
          refine ev_iload_n2 dX2_site_10 ?_
          refine ev_tsIn 85 96 (by decide +kernel) (by decide +kernel) (by decide +kernel) (by decide) dX2_site_11 ?_
          refine ev_aload_n0 dX2_site_96 ?_
          refine ev_iload_n1 dX2_site_97 ?_
          refine ev_cV1f okX2_written lkX2_140 (Nat.le_of_ble_eq_true rfl) (Nat.le_of_ble_eq_true rfl) (hM 103 rfl) isO_103 (c_X2_written hM mn h4 (by omega) (fun y hy => (mf_L hT.1 j y (by omega) (by omega)).1)) dX2_site_98 ?_
          refine ev_ireturn rfl dX2_site_101 ?_
          exact ⟨rfl, rfl⟩
    · refine ⟨-1, ?_, fun M hT => ?_⟩
      · refine cnV okX1_site 0 rfl ?_
        show Ev ks mX1_site 0 [some (.inr 96), some (.inl (nI j)), some (.inl a)] [] C _
        refine ev_aload_n0 dX1_site_0 ?_
        refine gfX1_12 rfl (hC 96 rfl) dX1_site_1 ?_
        refine ev_iload_n1 dX1_site_4 ?_
        refine ev_cV1f okX0_isSite lkX1_50 (Nat.le_of_ble_eq_true rfl) (Nat.le_of_ble_eq_true rfl) (hC 0 rfl) isO_0 (c_X0_isSite hW hn) dX1_site_5 ?_
        first | refine ev_if_neB 13 (by decide) dX1_site_8 (fun h8 => ?_) (fun h8 => by rw [hq] at h8; cases h8)
        refine ev_iload_n2 dX1_site_13 ?_
        refine ev_tsOut 121 ho (by decide) dX1_site_14 ?_
        refine ev_cm1 dX1_site_121 ?_
        refine ev_ireturn rfl dX1_site_122 ?_
        exact ⟨rfl, rfl⟩
      · have mn := (mf_n hT.1).1
        refine cnV okX2_site 0 rfl ?_
        show Ev ks mX2_site 0 [some (.inr 103), some (.inl (nI j)), some (.inl a)] [] M _
        refine ev_aload_n0 dX2_site_0 ?_
        refine ev_iload_n1 dX2_site_1 ?_
        refine ev_cV1f okX2_isSite lkX2_78 (Nat.le_of_ble_eq_true rfl) (Nat.le_of_ble_eq_true rfl) (hM 103 rfl) isO_103 (c_X2_isSite hM mn h2 h4) dX2_site_2 ?_
        first | refine ev_if_neB 10 (by decide) dX2_site_5 (fun h5 => ?_) (fun h5 => by rw [hq] at h5; cases h5)
        refine ev_iload_n2 dX2_site_10 ?_
        refine ev_tsOut 102 ho (by decide) dX2_site_11 ?_
        refine ev_cm1 dX2_site_102 ?_
        refine ev_ireturn rfl dX2_site_103 ?_
        exact ⟨rfl, rfl⟩
