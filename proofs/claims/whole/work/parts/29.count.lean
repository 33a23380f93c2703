theorem car_eq {w : St} {m : Nat → Int32} (h : Cpl w m) : fb_sm (fun x => fb_sm (fun y => fb_sm (fun k => pcn (m (143 + 7 * (8 * (4 * x + y) + k) + 2))) (wr w x y)) (nn w)) (nn w + 1) = fb_sm (fun x => fb_sm (fun y => fb_sm (fun k => pcn (w 9 ((x * 4 + y) * 8 + k))) (wr w x y)) (nn w)) (nn w) := by
  have h4 := h.1.1.1.2.2
  rw [fb_sm_succ]
  have e0 : fb_sm (fun y => fb_sm (fun k => pcn (m (143 + 7 * (8 * (4 * nn w + y) + k) + 2))) (wr w (nn w) y)) (nn w) = 0 := by
    have : fb_sm (fun y => fb_sm (fun k => pcn (m (143 + 7 * (8 * (4 * nn w + y) + k) + 2))) (wr w (nn w) y)) (nn w) = fb_sm (fun _ => 0) (nn w) := by
      refine fb_sm_cong (fun y hy => ?_)
      have : fb_sm (fun k => pcn (m (143 + 7 * (8 * (4 * nn w + y) + k) + 2))) (wr w (nn w) y) = fb_sm (fun _ => 0) (wr w (nn w) y) := by
        refine fb_sm_cong (fun k hk => ?_)
        rw [(h.2.2.2.2.2.2.2 (nn w) y k (Nat.le_refl _) hy hk).2.2.1, ((h.1.2.2.2.2.2.1 (nn w) y k (Nat.le_refl _) hy hk).2.1 rfl).2]
        decide +kernel
      rw [this, fb_sm_const, Nat.mul_zero]
    rw [this, fb_sm_const, Nat.mul_zero]
  rw [e0, Nat.add_zero]
  refine fb_sm_cong (fun x hx => fb_sm_cong (fun y hy => fb_sm_cong (fun k hk => ?_)))
  rw [(h.2.2.2.2.2.2.2 x y k (by omega) hy hk).2.2.1]
theorem safe_eq {w : St} {m : Nat → Int32} (h : Cpl w m) {e : Nat} : fb_sm (fun q => fb_ct (fun r => decide (e ≤ pcn (mk (fun p => bt (m (103 + p)) (8 * q + r)) (nn w)))) (rc w q)) (nn w) = fb_sm (fun q => fb_ct (fun r => decide (e ≤ pcn (mk (fun p => bt (w 11 (p * 4 + p)) (q * 8 + r)) (nn w)))) (rc w q)) (nn w) := by
  have h4 := h.1.1.1.2.2
  refine fb_sm_cong (fun q hq => fb_ct_cong (fun r hr => ?_))
  have e : mk (fun p => bt (m (103 + p)) (8 * q + r)) (nn w) = mk (fun p => bt (w 11 (p * 4 + p)) (q * 8 + r)) (nn w) := mk_cong (fun p hp => by rw [h.2.2.2.2.1 p (by omega), Nat.mul_comm 8 q])
  rw [e]
theorem op_count {ks : List Nat} (hC : InC ks) (hM : InM ks) {a : Int32} : Op ks mX1_count yX1_count mX2_count yX2_count [.inl a] := by
  refine op_read (fun C hI hX => ?_)
  have hW : InW ks := hC.w
  obtain ⟨⟨hn, h2, h4⟩, he, he1, he4⟩ := wf_n hI
  have hr := wf_r hI
  have hL := wf_L hI
  rcases sw_cases a 10 (by omega) with ⟨c, hc, rfl⟩ | ho
  · rcases (show c = 0 ∨ c = 1 ∨ c = 2 ∨ c = 3 ∨ c = 4 ∨ c = 5 ∨ c = 6 ∨ c = 7 ∨ c = 8 ∨ c = 9 by omega) with rfl | rfl | rfl | rfl | rfl | rfl | rfl | rfl | rfl | rfl
    · refine ⟨nI (nn C), ?_, fun M hT => ?_⟩
      · refine cnV okX1_count 0 rfl ?_
        show Ev ks mX1_count 0 [some (.inr 96), some (.inl (nI 0))] [] C _
        refine ev_iload_n1 dX1_count_0 ?_
        refine ev_tsIn 55 56 (by decide +kernel) (by decide +kernel) (by decide +kernel) (by decide) dX1_count_1 ?_
        refine ev_aload_n0 dX1_count_56 ?_
        refine gfX1_12 rfl (hC 96 rfl) dX1_count_57 ?_
        refine gfX1_54 rfl (hC 0 rfl) dX1_count_60 ?_
        refine ev_ireturn rfl dX1_count_63 ?_
        exact ⟨by rw [hn], rfl⟩
      · have mn := (mf_n hT.1).1
        have me := (mf_n hT.1).2.1
        have m2 := (mf_n hT.1).2.2
        have mr := mf_r hT.1
        have mL := mf_L hT.1
        refine cnV okX2_count 0 rfl ?_
        show Ev ks mX2_count 0 [some (.inr 103), some (.inl (nI 0))] [] M _
        refine ev_iload_n1 dX2_count_0 ?_
        refine ev_tsIn 55 56 (by decide +kernel) (by decide +kernel) (by decide +kernel) (by decide) dX2_count_1 ?_
        refine ev_aload_n0 dX2_count_56 ?_
        refine ev_cV0f okX2_many lkX2_82 (Nat.le_of_ble_eq_true rfl) (Nat.le_of_ble_eq_true rfl) (hM 103 rfl) isO_103 (c_X2_many hM mn) dX2_count_57 ?_
        refine ev_ireturn rfl dX2_count_60 ?_
        exact ⟨rfl, rfl⟩
    · refine ⟨nI (ee C), ?_, fun M hT => ?_⟩
      · refine cnV okX1_count 0 rfl ?_
        show Ev ks mX1_count 0 [some (.inr 96), some (.inl (nI 1))] [] C _
        refine ev_iload_n1 dX1_count_0 ?_
        refine ev_tsIn 63 64 (by decide +kernel) (by decide +kernel) (by decide +kernel) (by decide) dX1_count_1 ?_
        refine ev_aload_n0 dX1_count_64 ?_
        refine gfX1_12 rfl (hC 96 rfl) dX1_count_65 ?_
        refine gfX1_186 rfl (hC 0 rfl) dX1_count_68 ?_
        refine ev_ireturn rfl dX1_count_71 ?_
        exact ⟨by rw [he], rfl⟩
      · have mn := (mf_n hT.1).1
        have me := (mf_n hT.1).2.1
        have m2 := (mf_n hT.1).2.2
        have mr := mf_r hT.1
        have mL := mf_L hT.1
        refine cnV okX2_count 0 rfl ?_
        show Ev ks mX2_count 0 [some (.inr 103), some (.inl (nI 1))] [] M _
        refine ev_iload_n1 dX2_count_0 ?_
        refine ev_tsIn 60 61 (by decide +kernel) (by decide +kernel) (by decide +kernel) (by decide) dX2_count_1 ?_
        refine ev_aload_n0 dX2_count_61 ?_
        refine gfX2_7 rfl (hM 103 rfl) dX2_count_62 ?_
        refine ev_c1 dX2_count_65 ?_
        refine ev_iald 1263 rfl rfl (hM 104 rfl) (by omega) dX2_count_66 ?_
        refine ev_ireturn rfl dX2_count_67 ?_
        exact ⟨by rw [me], rfl⟩
    · refine ⟨nI (fb_sm (rc C) (nn C)), ?_, fun M hT => ?_⟩
      · refine cnV okX1_count 0 rfl ?_
        show Ev ks mX1_count 0 [some (.inr 96), some (.inl (nI 2))] [] C _
        refine ev_iload_n1 dX1_count_0 ?_
        refine ev_tsIn 71 72 (by decide +kernel) (by decide +kernel) (by decide +kernel) (by decide) dX1_count_1 ?_
        refine ev_aload_n0 dX1_count_72 ?_
        refine gfX1_12 rfl (hC 96 rfl) dX1_count_73 ?_
        refine ev_cV0f okX0_allReceipts lkX1_183 (Nat.le_of_ble_eq_true rfl) (Nat.le_of_ble_eq_true rfl) (hC 0 rfl) isO_0 (c_X0_allReceipts hW hn h4 (fun q hq => (hr q hq).1)) dX1_count_76 ?_
        refine ev_ireturn rfl dX1_count_79 ?_
        exact ⟨rfl, rfl⟩
      · have mn := (mf_n hT.1).1
        have me := (mf_n hT.1).2.1
        have m2 := (mf_n hT.1).2.2
        have mr := mf_r hT.1
        have mL := mf_L hT.1
        refine cnV okX2_count 0 rfl ?_
        show Ev ks mX2_count 0 [some (.inr 103), some (.inl (nI 2))] [] M _
        refine ev_iload_n1 dX2_count_0 ?_
        refine ev_tsIn 67 68 (by decide +kernel) (by decide +kernel) (by decide +kernel) (by decide) dX2_count_1 ?_
        refine ev_aload_n0 dX2_count_68 ?_
        refine ev_cV0f okX2_allReceipts lkX2_170 (Nat.le_of_ble_eq_true rfl) (Nat.le_of_ble_eq_true rfl) (hM 103 rfl) isO_103 (c_X2_allReceipts hM mn h4 (fun q hq => (mr q hq).1)) dX2_count_69 ?_
        refine ev_ireturn rfl dX2_count_72 ?_
        exact ⟨rfl, rfl⟩
    · refine ⟨nI (fb_sm (fun x => fb_sm (wr C x) (nn C)) (nn C + 1)), ?_, fun M hT => ?_⟩
      · refine cnV okX1_count 0 rfl ?_
        show Ev ks mX1_count 0 [some (.inr 96), some (.inl (nI 3))] [] C _
        refine ev_iload_n1 dX1_count_0 ?_
        refine ev_tsIn 79 80 (by decide +kernel) (by decide +kernel) (by decide +kernel) (by decide) dX1_count_1 ?_
        refine ev_aload_n0 dX1_count_80 ?_
        refine gfX1_12 rfl (hC 96 rfl) dX1_count_81 ?_
        refine ev_cV0f okX0_allLetters lkX1_189 (Nat.le_of_ble_eq_true rfl) (Nat.le_of_ble_eq_true rfl) (hC 0 rfl) isO_0 (c_X0_allLetters hW hn h4 (fun x q hx hq => (hL x q (by omega) (by omega)).1)) dX1_count_84 ?_
        refine ev_ireturn rfl dX1_count_87 ?_
        exact ⟨rfl, rfl⟩
      · have mn := (mf_n hT.1).1
        have me := (mf_n hT.1).2.1
        have m2 := (mf_n hT.1).2.2
        have mr := mf_r hT.1
        have mL := mf_L hT.1
        refine cnV okX2_count 0 rfl ?_
        show Ev ks mX2_count 0 [some (.inr 103), some (.inl (nI 3))] [] M _
        refine ev_iload_n1 dX2_count_0 ?_
        refine ev_tsIn 72 73 (by decide +kernel) (by decide +kernel) (by decide +kernel) (by decide) dX2_count_1 ?_
        refine ev_aload_n0 dX2_count_73 ?_
        refine ev_cV0f okX2_allLetters lkX2_173 (Nat.le_of_ble_eq_true rfl) (Nat.le_of_ble_eq_true rfl) (hM 103 rfl) isO_103 (c_X2_allLetters hM mn h4 (fun x q hx hq => (mL x q (by omega) (by omega)).1)) dX2_count_74 ?_
        refine ev_ireturn rfl dX2_count_77 ?_
        exact ⟨rfl, rfl⟩
    · refine ⟨nI (fb_sm (fun x => fb_sm (wr C x) (nn C)) (nn C + 1)) - nI (fb_sm (rc C) (nn C)), ?_, fun M hT => ?_⟩
      · refine cnV okX1_count 0 rfl ?_
        show Ev ks mX1_count 0 [some (.inr 96), some (.inl (nI 4))] [] C _
        refine ev_iload_n1 dX1_count_0 ?_
        refine ev_tsIn 87 88 (by decide +kernel) (by decide +kernel) (by decide +kernel) (by decide) dX1_count_1 ?_
        refine ev_aload_n0 dX1_count_88 ?_
        refine gfX1_12 rfl (hC 96 rfl) dX1_count_89 ?_
        refine ev_cV0f okX0_allLetters lkX1_189 (Nat.le_of_ble_eq_true rfl) (Nat.le_of_ble_eq_true rfl) (hC 0 rfl) isO_0 (c_X0_allLetters hW hn h4 (fun x q hx hq => (hL x q (by omega) (by omega)).1)) dX1_count_92 ?_
        refine ev_aload_n0 dX1_count_95 ?_
        refine gfX1_12 rfl (hC 96 rfl) dX1_count_96 ?_
        refine ev_cV0f okX0_allReceipts lkX1_183 (Nat.le_of_ble_eq_true rfl) (Nat.le_of_ble_eq_true rfl) (hC 0 rfl) isO_0 (c_X0_allReceipts hW hn h4 (fun q hq => (hr q hq).1)) dX1_count_99 ?_
        refine ev_isub dX1_count_102 ?_
        refine ev_ireturn rfl dX1_count_103 ?_
        exact ⟨rfl, rfl⟩
      · have mn := (mf_n hT.1).1
        have me := (mf_n hT.1).2.1
        have m2 := (mf_n hT.1).2.2
        have mr := mf_r hT.1
        have mL := mf_L hT.1
        refine cnV okX2_count 0 rfl ?_
        show Ev ks mX2_count 0 [some (.inr 103), some (.inl (nI 4))] [] M _
        refine ev_iload_n1 dX2_count_0 ?_
        refine ev_tsIn 77 78 (by decide +kernel) (by decide +kernel) (by decide +kernel) (by decide) dX2_count_1 ?_
        refine ev_aload_n0 dX2_count_78 ?_
        refine ev_cV0f okX2_allLetters lkX2_173 (Nat.le_of_ble_eq_true rfl) (Nat.le_of_ble_eq_true rfl) (hM 103 rfl) isO_103 (c_X2_allLetters hM mn h4 (fun x q hx hq => (mL x q (by omega) (by omega)).1)) dX2_count_79 ?_
        refine ev_aload_n0 dX2_count_82 ?_
        refine ev_cV0f okX2_allReceipts lkX2_170 (Nat.le_of_ble_eq_true rfl) (Nat.le_of_ble_eq_true rfl) (hM 103 rfl) isO_103 (c_X2_allReceipts hM mn h4 (fun q hq => (mr q hq).1)) dX2_count_83 ?_
        refine ev_isub dX2_count_86 ?_
        refine ev_ireturn rfl dX2_count_87 ?_
        exact ⟨rfl, rfl⟩
    · refine ⟨C 0 2, ?_, fun M hT => ?_⟩
      · refine cnV okX1_count 0 rfl ?_
        show Ev ks mX1_count 0 [some (.inr 96), some (.inl (nI 5))] [] C _
        refine ev_iload_n1 dX1_count_0 ?_
        refine ev_tsIn 103 104 (by decide +kernel) (by decide +kernel) (by decide +kernel) (by decide) dX1_count_1 ?_
        refine ev_aload_n0 dX1_count_104 ?_
        refine gfX1_12 rfl (hC 96 rfl) dX1_count_105 ?_
        refine gfX1_89 rfl (hC 0 rfl) dX1_count_108 ?_
        refine ev_ireturn rfl dX1_count_111 ?_
        exact ⟨rfl, rfl⟩
      · have mn := (mf_n hT.1).1
        have me := (mf_n hT.1).2.1
        have m2 := (mf_n hT.1).2.2
        have mr := mf_r hT.1
        have mL := mf_L hT.1
        refine cnV okX2_count 0 rfl ?_
        show Ev ks mX2_count 0 [some (.inr 103), some (.inl (nI 5))] [] M _
        refine ev_iload_n1 dX2_count_0 ?_
        refine ev_tsIn 87 88 (by decide +kernel) (by decide +kernel) (by decide +kernel) (by decide) dX2_count_1 ?_
        refine ev_aload_n0 dX2_count_88 ?_
        refine gfX2_7 rfl (hM 103 rfl) dX2_count_89 ?_
        refine ev_c2 dX2_count_92 ?_
        refine ev_iald 1263 rfl rfl (hM 104 rfl) (by omega) dX2_count_93 ?_
        refine ev_ireturn rfl dX2_count_94 ?_
        exact ⟨by rw [m2], rfl⟩
    · refine ⟨nI (fb_sm (fun q => fb_ct (fun r => decide (ee C ≤ pcn (mk (fun p => bt (C 11 (p * 4 + p)) (q * 8 + r)) (nn C)))) (rc C q)) (nn C)), ?_, fun M hT => ?_⟩
      · refine cnV okX1_count 0 rfl ?_
        show Ev ks mX1_count 0 [some (.inr 96), some (.inl (nI 6))] [] C _
        refine ev_iload_n1 dX1_count_0 ?_
        refine ev_tsIn 111 112 (by decide +kernel) (by decide +kernel) (by decide +kernel) (by decide) dX1_count_1 ?_
        refine ev_aload_n0 dX1_count_112 ?_
        refine gfX1_12 rfl (hC 96 rfl) dX1_count_113 ?_
        refine ev_cV0f okX0_safeReceipts lkX1_192 (Nat.le_of_ble_eq_true rfl) (Nat.le_of_ble_eq_true rfl) (hC 0 rfl) isO_0 (c_X0_safeReceipts hW hn h4 he he4 hr) dX1_count_116 ?_
        refine ev_ireturn rfl dX1_count_119 ?_
        exact ⟨rfl, rfl⟩
      · have mn := (mf_n hT.1).1
        have me := (mf_n hT.1).2.1
        have m2 := (mf_n hT.1).2.2
        have mr := mf_r hT.1
        have mL := mf_L hT.1
        refine cnV okX2_count 0 rfl ?_
        show Ev ks mX2_count 0 [some (.inr 103), some (.inl (nI 6))] [] M _
        refine ev_iload_n1 dX2_count_0 ?_
        refine ev_tsIn 94 95 (by decide +kernel) (by decide +kernel) (by decide +kernel) (by decide) dX2_count_1 ?_
        refine ev_aload_n0 dX2_count_95 ?_
        refine ev_cV0f okX2_allSafe lkX2_176 (Nat.le_of_ble_eq_true rfl) (Nat.le_of_ble_eq_true rfl) (hM 103 rfl) isO_103 (c_X2_allSafe hM mn h4 me he4 mr) dX2_count_96 ?_
        refine ev_ireturn rfl dX2_count_99 ?_
        exact ⟨by rw [safe_eq hT.1], rfl⟩
    · refine ⟨nI (fb_sm (fun x => fb_sm (fun y => fb_sm (fun k => pcn (C 9 ((x * 4 + y) * 8 + k))) (wr C x y)) (nn C)) (nn C)), ?_, fun M hT => ?_⟩
      · refine cnV okX1_count 0 rfl ?_
        show Ev ks mX1_count 0 [some (.inr 96), some (.inl (nI 7))] [] C _
        refine ev_iload_n1 dX1_count_0 ?_
        refine ev_tsIn 119 120 (by decide +kernel) (by decide +kernel) (by decide +kernel) (by decide) dX1_count_1 ?_
        refine ev_aload_n0 dX1_count_120 ?_
        refine gfX1_12 rfl (hC 96 rfl) dX1_count_121 ?_
        refine ev_cV0f okX0_allCarried lkX1_195 (Nat.le_of_ble_eq_true rfl) (Nat.le_of_ble_eq_true rfl) (hC 0 rfl) isO_0 (c_X0_allCarried hW hn h4 (fun x q hx hq => hL x q (by omega) (by omega))) dX1_count_124 ?_
        refine ev_ireturn rfl dX1_count_127 ?_
        exact ⟨rfl, rfl⟩
      · have mn := (mf_n hT.1).1
        have me := (mf_n hT.1).2.1
        have m2 := (mf_n hT.1).2.2
        have mr := mf_r hT.1
        have mL := mf_L hT.1
        refine cnV okX2_count 0 rfl ?_
        show Ev ks mX2_count 0 [some (.inr 103), some (.inl (nI 7))] [] M _
        refine ev_iload_n1 dX2_count_0 ?_
        refine ev_tsIn 99 100 (by decide +kernel) (by decide +kernel) (by decide +kernel) (by decide) dX2_count_1 ?_
        refine ev_aload_n0 dX2_count_100 ?_
        refine ev_cV0f okX2_allCarried lkX2_179 (Nat.le_of_ble_eq_true rfl) (Nat.le_of_ble_eq_true rfl) (hM 103 rfl) isO_103 (c_X2_allCarried hM mn h4 (fun x q hx hq => mL x q (by omega) (by omega))) dX2_count_101 ?_
        refine ev_ireturn rfl dX2_count_104 ?_
        exact ⟨by rw [car_eq hT.1], rfl⟩
    · refine ⟨C 96 8, ?_, fun M hT => ?_⟩
      · refine cnV okX1_count 0 rfl ?_
        show Ev ks mX1_count 0 [some (.inr 96), some (.inl (nI 8))] [] C _
        refine ev_iload_n1 dX1_count_0 ?_
        refine ev_tsIn 127 128 (by decide +kernel) (by decide +kernel) (by decide +kernel) (by decide) dX1_count_1 ?_
        refine ev_aload_n0 dX1_count_128 ?_
        refine gfX1_43 rfl (hC 96 rfl) dX1_count_129 ?_
        refine ev_ireturn rfl dX1_count_132 ?_
        exact ⟨rfl, rfl⟩
      · have mn := (mf_n hT.1).1
        have me := (mf_n hT.1).2.1
        have m2 := (mf_n hT.1).2.2
        have mr := mf_r hT.1
        have mL := mf_L hT.1
        refine cnV okX2_count 0 rfl ?_
        show Ev ks mX2_count 0 [some (.inr 103), some (.inl (nI 8))] [] M _
        refine ev_iload_n1 dX2_count_0 ?_
        refine ev_tsIn 104 105 (by decide +kernel) (by decide +kernel) (by decide +kernel) (by decide) dX2_count_1 ?_
        refine ev_aload_n0 dX2_count_105 ?_
        refine gfX2_75 rfl (hM 103 rfl) dX2_count_106 ?_
        refine ev_ireturn rfl dX2_count_109 ?_
        obtain ⟨se, s1, s2, s3, -⟩ := hT.2.2.2
        exact ⟨by rw [s2, s3], rfl⟩
    · refine ⟨C 96 3, ?_, fun M hT => ?_⟩
      · refine cnV okX1_count 0 rfl ?_
        show Ev ks mX1_count 0 [some (.inr 96), some (.inl (nI 9))] [] C _
        refine ev_iload_n1 dX1_count_0 ?_
        refine ev_tsIn 132 133 (by decide +kernel) (by decide +kernel) (by decide +kernel) (by decide) dX1_count_1 ?_
        refine ev_aload_n0 dX1_count_133 ?_
        refine gfX1_101 rfl (hC 96 rfl) dX1_count_134 ?_
        refine ev_ireturn rfl dX1_count_137 ?_
        exact ⟨rfl, rfl⟩
      · have mn := (mf_n hT.1).1
        have me := (mf_n hT.1).2.1
        have m2 := (mf_n hT.1).2.2
        have mr := mf_r hT.1
        have mL := mf_L hT.1
        refine cnV okX2_count 0 rfl ?_
        show Ev ks mX2_count 0 [some (.inr 103), some (.inl (nI 9))] [] M _
        refine ev_iload_n1 dX2_count_0 ?_
        refine ev_tsIn 109 110 (by decide +kernel) (by decide +kernel) (by decide +kernel) (by decide) dX2_count_1 ?_
        refine ev_aload_n0 dX2_count_110 ?_
        refine gfX2_68 rfl (hM 103 rfl) dX2_count_111 ?_
        refine ev_ireturn rfl dX2_count_114 ?_
        obtain ⟨u, ne, u1, u2, u3, u4, u5, -⟩ := hT.2.1
        exact ⟨by rw [u3, u5], rfl⟩
  · refine ⟨-1, ?_, fun M hT => ?_⟩
    · refine cnV okX1_count 0 rfl ?_
      show Ev ks mX1_count 0 [some (.inr 96), some (.inl a)] [] C _
      refine ev_iload_n1 dX1_count_0 ?_
      refine ev_tsOut 138 ho (by decide) dX1_count_1 ?_
      refine ev_cm1 dX1_count_138 ?_
      refine ev_ireturn rfl dX1_count_139 ?_
      exact ⟨rfl, rfl⟩
    · have mn := (mf_n hT.1).1
      have me := (mf_n hT.1).2.1
      have m2 := (mf_n hT.1).2.2
      have mr := mf_r hT.1
      have mL := mf_L hT.1
      refine cnV okX2_count 0 rfl ?_
      show Ev ks mX2_count 0 [some (.inr 103), some (.inl a)] [] M _
      refine ev_iload_n1 dX2_count_0 ?_
      refine ev_tsOut 115 ho (by decide) dX2_count_1 ?_
      refine ev_cm1 dX2_count_115 ?_
      refine ev_ireturn rfl dX2_count_116 ?_
      exact ⟨rfl, rfl⟩
