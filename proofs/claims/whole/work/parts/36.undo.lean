def cpR (g base : Nat → Int32) (k : Nat) : Nat → Int32 := fun i => if i < k then g i else base i
theorem cpR_s (g base : Nat → Int32) (k : Nat) : upd (cpR g base k) k (g k) = cpR g base (k + 1) := by
  funext i
  unfold upd cpR
  by_cases h : i = k
  · rw [if_pos h, if_pos (by omega), h]
  · rw [if_neg h]
    by_cases h2 : i < k
    · rw [if_pos h2, if_pos (by omega)]
    · rw [if_neg h2, if_neg (by omega)]
theorem cpR_0 (g base : Nat → Int32) : cpR g base 0 = base := by
  funext i
  unfold cpR
  rw [if_neg (by omega)]
theorem cpR_in {g base : Nat → Int32} {k i : Nat} (h : i < k) : cpR g base k i = g i := if_pos h
theorem cpy0 {S : St} {b k : Nat} (hk : k < 12) : cpyW S 0 b k = S (12 * b + k) := by
  unfold cpyW
  rw [if_pos (by omega)]
  congr 1
theorem cpy0_o {S : St} {b k : Nat} (hk : 12 ≤ k) : cpyW S 0 b k = S k := by
  unfold cpyW
  rw [if_neg (by omega)]
theorem op_undo {ks : List Nat} (hC : InC ks) (hM : InM ks) : Op ks mX1_undo yX1_undo mX2_undo yX2_undo [] := by
  refine op_fn (fun C hI hX => ?_)
  have hW : InW ks := hC.w
  obtain ⟨⟨hn, h2, h4⟩, he, he1, he4⟩ := wf_n hI
  have hr := wf_r hI
  have hL := wf_L hI
  obtain ⟨M0, hM0⟩ := id hX
  obtain ⟨u, ne, hu5, hne, eu, en, -⟩ := hM0.2.1
  have hTu : ∀ M, Top C M → M 103 2 = nI u ∧ ∀ j, j < u → Cpl (wv C (1 + (ne + 4 - j) % 5)) (fun i => M 105 (1263 * (u - 1 - j) + i)) := fun M hT => by
    obtain ⟨u', ne', u1, u2, u3, u4, u5, u6⟩ := hT.2.1
    obtain rfl : u' = u := by
      have := congrArg tn (u3.symm.trans eu)
      rw [tn_nI (by omega), tn_nI (by omega)] at this
      exact this
    obtain rfl : ne' = ne := by
      have := congrArg tn (u4.symm.trans en)
      rw [tn_nI (by omega), tn_nI (by omega)] at this
      exact this
    exact ⟨u5, u6⟩
  rcases Nat.eq_zero_or_pos u with hu0 | hu0
  · refine fn_read (-2) ?_ (fun M hT => ?_)
    · refine cnV okX1_undo 0 rfl ?_
      show Ev ks mX1_undo 0 [some (.inr 96)] [] C _
      refine ev_aload_n0 dX1_undo_0 ?_
      refine gfX1_101 rfl (hC 96 rfl) dX1_undo_1 ?_
      rw [eu, hu0]
      first | refine ev_if_gt 10 (by decide) dX1_undo_4 (fun h4 => by exact absurd h4 (by decide +kernel)) (fun h4 => ?_)
      refine ev_bipush (-2 : Int32) kb_m2 dX1_undo_7 ?_
      refine ev_ireturn rfl dX1_undo_9 ?_
      exact ⟨rfl, rfl⟩
    · refine cnV okX2_undo 1 rfl ?_
      show Ev ks mX2_undo 0 [some (.inr 103), none] [] M _
      refine ev_aload_n0 dX2_undo_0 ?_
      refine gfX2_68 rfl (hM 103 rfl) dX2_undo_1 ?_
      rw [(hTu M hT).1]
      first | refine ev_if_neN 10 (by omega) (by decide) dX2_undo_4 (fun h4 => by omega) (fun h4 => ?_)
      refine ev_bipush (-2 : Int32) kb_m2 dX2_undo_7 ?_
      refine ev_ireturn rfl dX2_undo_9 ?_
      exact ⟨rfl, rfl⟩
  · obtain ⟨p, hp⟩ : ∃ p, p = (ne + 5 - 1) % 5 := ⟨_, rfl⟩
    have hp5 : p < 5 := by omega
    have e2 : st C 96 2 (nI p) 96 2 = nI p := rfl
    have e3 : cpyW (st C 96 2 (nI p)) 0 (1 + p) 96 3 = nI u := by rw [cpy0_o (by omega)]; exact eu
    refine ⟨nI (u - 1), st (cpyW (st C 96 2 (nI p)) 0 (1 + p)) 96 3 (nI (u - 1)), ?_, fun k hk => by rw [st_n, sr_n (by omega), cpy0_o (by omega), st_n, sr_n (by omega)], fun M hT => ⟨sr (st M 103 2 (nI (u - 1))) 104 (cpR (fun i => M 105 (1263 * (u - 1) + i)) (M 104) 1263), ?_, fun k hk => by rw [sr_n (by omega), st_n, sr_n (by omega)], ?_⟩⟩
    · refine cnV okX1_undo 0 rfl ?_
      show Ev ks mX1_undo 0 [some (.inr 96)] [] C _
      refine ev_aload_n0 dX1_undo_0 ?_
      refine gfX1_101 rfl (hC 96 rfl) dX1_undo_1 ?_
      rw [eu]
      first | refine ev_if_gt 10 (by decide) dX1_undo_4 (fun h4 => ?_) (fun h4 => by exact absurd (nI_lt (a := 0) (b := u) (by omega) (by omega)) (by rw [nI_0]; exact h4))
      refine ev_aload_n0 dX1_undo_10 ?_
      refine ev_aload_n0 dX1_undo_11 ?_
      refine gfX1_104 rfl (hC 96 rfl) dX1_undo_12 ?_
      rw [en]
      refine ev_c5 dX1_undo_15 ?_
      first | refine ev_iaddN dX1_undo_16 ?_ | refine ev_iadd dX1_undo_16 ?_
      refine ev_c1 dX1_undo_17 ?_
      first | refine ev_isubN (by omega) dX1_undo_18 ?_ | refine ev_isub dX1_undo_18 ?_
      refine ev_c5 dX1_undo_19 ?_
      refine ev_iremN (by omega) (by omega) (by omega) dX1_undo_20 ?_
      rw [← hp]
      refine pfX1_104 rfl (hC 96 rfl) dX1_undo_21 ?_
      refine ev_aload_n0 dX1_undo_24 ?_
      refine gfX1_12 rfl (hC 96 rfl) dX1_undo_25 ?_
      refine ev_aload_n0 dX1_undo_28 ?_
      refine gfX1_16 rfl (hC 96 rfl) dX1_undo_29 ?_
      refine ev_aload_n0 dX1_undo_32 ?_
      refine gfX1_104 rfl (hC 96 rfl) dX1_undo_33 ?_
      rw [e2]
      refine ev_aald97 (hC 97 rfl) (by omega) dX1_undo_36 ?_
      refine ev_become okX0_become lkX1_107 (Nat.le_of_ble_eq_true rfl) (Nat.le_of_ble_eq_true rfl) (hC _ (by rw [Nat.blt, Nat.ble_eq]; omega)) (isO_W (by omega) (by omega)) (c_X0_become hC (a := 0) (b := 1 + p) (by omega) (by omega) (by omega)) dX1_undo_37 ?_
      refine ev_aload_n0 dX1_undo_40 ?_
      refine ev_dup dX1_undo_41 ?_
      refine gfX1_101 rfl (hC 96 rfl) dX1_undo_42 ?_
      rw [e3]
      refine ev_c1 dX1_undo_45 ?_
      first | refine ev_isubN (by omega) dX1_undo_46 ?_ | refine ev_isub dX1_undo_46 ?_
      refine pfX1_101 rfl (hC 96 rfl) dX1_undo_47 ?_
      refine ev_aload_n0 dX1_undo_50 ?_
      refine gfX1_101 rfl (hC 96 rfl) dX1_undo_51 ?_
      refine ev_ireturn rfl dX1_undo_54 ?_
      exact ⟨rfl, rfl⟩
    · have t1 := (hTu M hT).1
      have q2 : ∀ R, sr (st M 103 2 (nI (u - 1))) 104 R 103 2 = nI (u - 1) := fun R => rfl
      have q5 : ∀ R i, sr (st M 103 2 (nI (u - 1))) 104 R 105 i = M 105 i := fun R i => rfl
      have loop : ∀ f k, k + f = 1263 → Ev ks mX2_undo 22 [some (.inr 103), some (.inl (nI k))] [] (sr (st M 103 2 (nI (u - 1))) 104 (cpR (fun i => M 105 (1263 * (u - 1) + i)) (M 104) k)) (Ri (nI (u - 1)) (sr (st M 103 2 (nI (u - 1))) 104 (cpR (fun i => M 105 (1263 * (u - 1) + i)) (M 104) 1263))) := by
        intro f
        induction f with
        | zero =>
          intro k hk
          obtain rfl : k = 1263 := by omega
          refine ev_iload_n1 dX2_undo_22 ?_
          refine ev_sipush (nI 1263) kh_1263 dX2_undo_23 ?_
          first | refine ev_icmp_geN 56 (by omega) (by omega) (by decide) dX2_undo_26 (fun h26 => ?_) (fun h26 => by omega)
          refine ev_aload_n0 dX2_undo_56 ?_
          refine gfX2_68 rfl (hM 103 rfl) dX2_undo_57 ?_
          refine ev_ireturn rfl dX2_undo_60 ?_
          exact ⟨rfl, rfl⟩
        | succ f ih =>
          intro k hk
          refine ev_iload_n1 dX2_undo_22 ?_
          refine ev_sipush (nI 1263) kh_1263 dX2_undo_23 ?_
          first | refine ev_icmp_geN 56 (by omega) (by omega) (by decide) dX2_undo_26 (fun h26 => by omega) (fun h26 => ?_)
          refine ev_aload_n0 dX2_undo_29 ?_
          refine gfX2_7 rfl (hM 103 rfl) dX2_undo_30 ?_
          refine ev_iload_n1 dX2_undo_33 ?_
          refine ev_aload_n0 dX2_undo_34 ?_
          refine gfX2_13 rfl (hM 103 rfl) dX2_undo_35 ?_
          refine ev_sipush (nI 1263) kh_1263 dX2_undo_38 ?_
          refine ev_aload_n0 dX2_undo_41 ?_
          refine gfX2_68 rfl (hM 103 rfl) dX2_undo_42 ?_
          rw [q2]
          first | refine ev_imulN dX2_undo_45 ?_ | refine ev_imul dX2_undo_45 ?_
          refine ev_iload_n1 dX2_undo_46 ?_
          first | refine ev_iaddN dX2_undo_47 ?_ | refine ev_iadd dX2_undo_47 ?_
          refine ev_iald 6315 rfl rfl (hM 105 rfl) (by omega) dX2_undo_48 ?_
          rw [q5]
          refine ev_iast 1263 rfl rfl (hM 104 rfl) (by omega) dX2_undo_49 ?_
          refine ev_iinc1 dX2_undo_50 ?_
          refine ev_goto 22 (by decide) dX2_undo_53 ?_
          rw [st_sr, cpR_s (fun i => M 105 (1263 * (u - 1) + i))]
          exact ih (k + 1) (by omega)
      refine cnV okX2_undo 1 rfl ?_
      show Ev ks mX2_undo 0 [some (.inr 103), none] [] M _
      refine ev_aload_n0 dX2_undo_0 ?_
      refine gfX2_68 rfl (hM 103 rfl) dX2_undo_1 ?_
      rw [t1]
      first | refine ev_if_neN 10 (by omega) (by decide) dX2_undo_4 (fun h4 => ?_) (fun h4 => by omega)
      refine ev_aload_n0 dX2_undo_10 ?_
      refine ev_dup dX2_undo_11 ?_
      refine gfX2_68 rfl (hM 103 rfl) dX2_undo_12 ?_
      rw [t1]
      refine ev_c1 dX2_undo_15 ?_
      first | refine ev_isubN (by omega) dX2_undo_16 ?_ | refine ev_isub dX2_undo_16 ?_
      refine pfX2_68 rfl (hM 103 rfl) dX2_undo_17 ?_
      refine ev_c0 dX2_undo_20 ?_
      refine ev_istore_n1 dX2_undo_21 ?_
      have h := loop 1263 0 rfl
      rw [cpR_0, show M 104 = st M 103 2 (nI (u - 1)) 104 from rfl, sr_self] at h
      exact h
    · have u6 := (hTu M hT).2
      refine ⟨?_, ⟨u - 1, p, by omega, hp5, rfl, ?_, rfl, fun j hj => ?_⟩, ?_, ?_⟩
      · have h := u6 0 (by omega)
        rw [show (ne + 4 - 0) % 5 = p by omega, show u - 1 - 0 = u - 1 by omega] at h
        refine Cpl_cong (fun j hj => ?_) (fun i hi => ?_) h
        · rw [st_n, sr_n (by omega), cpy0 hj, st_n, sr_n (by omega)]
          rfl
        · rw [sr_s, cpR_in hi]
      · rw [st_n, sr_s, upd_n (by omega), cpy0_o (by omega)]
        rfl
      · have h := u6 (j + 1) (by omega)
        rw [show (ne + 4 - (j + 1)) % 5 = (p + 4 - j) % 5 by omega, show u - 1 - (j + 1) = u - 1 - 1 - j by omega] at h
        refine Cpl_cong (fun i hi => ?_) (fun i hi => rfl) h
        unfold wv
        rw [st_n, sr_n (by omega), cpy0_o (by omega), st_n, sr_n (by omega)]
      · refine T_im_cong hT.2.2.1 (fun k a b => by rw [st_n, sr_n (by omega), cpy0_o (by omega), st_n, sr_n (by omega)]) ?_ rfl rfl
        rw [st_n, sr_s, upd_n (by omega), cpy0_o (by omega)]
        rfl
      · refine T_se_cong hT.2.2.2 ?_ ?_ ?_ rfl rfl rfl
        · rw [st_n, sr_s, upd_n (by omega), cpy0_o (by omega)]
          rfl
        · rw [st_n, sr_n (by omega), cpy0_o (by omega), st_n, sr_n (by omega)]
        · rw [st_n, sr_n (by omega), cpy0_o (by omega), st_n, sr_n (by omega)]
theorem op_keep {ks : List Nat} (hC : InC ks) (hM : InM ks) {a : Int32} : Op ks mX1_keep yX1_keep mX2_keep yX2_keep [.inl a] := by
  refine op_fn (fun C hI hX => ?_)
  have hW : InW ks := hC.w
  obtain ⟨⟨hn, h2, h4⟩, he, he1, he4⟩ := wf_n hI
  have hr := wf_r hI
  have hL := wf_L hI
  cases ha : isS 2 a with
  | false =>
    refine fn_read (-1) ?_ (fun M hT => ?_)
    · refine cnV okX1_keep 0 rfl ?_
      show Ev ks mX1_keep 0 [some (.inr 96), some (.inl a)] [] C _
      refine ev_iload_n1 dX1_keep_0 ?_
      first | refine ev_if_lt 9 (by decide) dX1_keep_1 (fun h1 => ?_) (fun h1 => ?_)
      · refine ev_cm1 dX1_keep_9 ?_
        refine ev_ireturn rfl dX1_keep_10 ?_
        exact ⟨rfl, rfl⟩
      · refine ev_iload_n1 dX1_keep_4 ?_
        refine ev_c2 dX1_keep_5 ?_
        first | refine ev_icmp_lt 11 (by decide) dX1_keep_6 (fun h6 => by exact (isS_out' ha h1 h6).elim) (fun h6 => ?_)
        refine ev_cm1 dX1_keep_9 ?_
        refine ev_ireturn rfl dX1_keep_10 ?_
        exact ⟨rfl, rfl⟩
    · refine cnV okX2_keep 1 rfl ?_
      show Ev ks mX2_keep 0 [some (.inr 103), some (.inl a), none] [] M _
      refine ev_iload_n1 dX2_keep_0 ?_
      refine ev_c0 dX2_keep_1 ?_
      refine ev_c1 dX2_keep_2 ?_
      refine ev_cS3f okX2_in lkX2_43 (Nat.le_of_ble_eq_true rfl) (Nat.le_of_ble_eq_true rfl) c_X2_in dX2_keep_3 ?_
      first | refine ev_if_neB 11 (by decide) dX2_keep_6 (fun h6 => by rw [isS_in (by omega), ha] at h6; cases h6) (fun h6 => ?_)
      refine ev_cm1 dX2_keep_9 ?_
      refine ev_ireturn rfl dX2_keep_10 ?_
      exact ⟨rfl, rfl⟩
  | true =>
    obtain ⟨i, hi, rfl⟩ := (isS_iff (by omega)).mp ha
    have c0 : ∀ k, k < 72 ∨ 96 ≤ k → cpyW C (6 + i) 0 k = C k := fun k hk => by unfold cpyW; rw [if_neg (by omega)]
    have c5 : cpyW C (6 + i) 0 96 5 = C 96 5 := by rw [c0 96 (by omega)]
    refine ⟨nI (fb_sm (rc C) (nn C)), st (cpyW C (6 + i) 0) 96 5 (C 96 5 ||| nI 1 <<< (nI i &&& 31)), ?_, fun k hk => by rw [st_n, sr_n (by omega), c0 k (by omega)], fun M hT => ⟨st (sr M 106 (seg (M 104) (M 106) (1263 * i) 1263)) 107 i (nI 1), ?_, fun k hk => by rw [st_n, sr_n (by omega), sr_n (by omega)], ?_⟩⟩
    · have d0 : ∀ x k, k < 12 → st (cpyW C (6 + i) 0) 96 5 x k = C k := fun x k hk => by rw [st_n, sr_n (by omega), c0 k (by omega)]
      refine cnV okX1_keep 0 rfl ?_
      show Ev ks mX1_keep 0 [some (.inr 96), some (.inl (nI i))] [] C _
      refine ev_iload_n1 dX1_keep_0 ?_
      refine ev_if_ltN 9 (by omega) (by decide) dX1_keep_1 ?_
      refine ev_iload_n1 dX1_keep_4 ?_
      refine ev_c2 dX1_keep_5 ?_
      first | refine ev_icmp_ltN 11 (by omega) (by omega) (by decide) dX1_keep_6 (fun h6 => ?_) (fun h6 => by omega)
      refine ev_aload_n0 dX1_keep_11 ?_
      refine gfX1_20 rfl (hC 96 rfl) dX1_keep_12 ?_
      refine ev_iload_n1 dX1_keep_15 ?_
      refine ev_aald98 (hC 98 rfl) (by omega) dX1_keep_16 ?_
      refine ev_aload_n0 dX1_keep_17 ?_
      refine gfX1_12 rfl (hC 96 rfl) dX1_keep_18 ?_
      refine ev_become okX0_become lkX1_107 (Nat.le_of_ble_eq_true rfl) (Nat.le_of_ble_eq_true rfl) (hC _ (by rw [Nat.blt, Nat.ble_eq]; omega)) (isO_W (by omega) (by omega)) (c_X0_become hC (a := 6 + i) (b := 0) (by omega) (by omega) (by omega)) dX1_keep_21 ?_
      refine ev_aload_n0 dX1_keep_24 ?_
      refine ev_dup dX1_keep_25 ?_
      refine gfX1_47 rfl (hC 96 rfl) dX1_keep_26 ?_
      rw [c5]
      refine ev_c1 dX1_keep_29 ?_
      refine ev_iload_n1 dX1_keep_30 ?_
      refine ev_ishl dX1_keep_31 ?_
      refine ev_ior dX1_keep_32 ?_
      refine pfX1_47 rfl (hC 96 rfl) dX1_keep_33 ?_
      refine ev_aload_n0 dX1_keep_36 ?_
      refine gfX1_12 rfl (hC 96 rfl) dX1_keep_37 ?_
      refine ev_cV0f okX0_allReceipts lkX1_183 (Nat.le_of_ble_eq_true rfl) (Nat.le_of_ble_eq_true rfl) (hC 0 rfl) isO_0 (c_X0_allReceipts hW (n := nn C) (r := rc C) (by rw [d0 _ 0 (by omega)]; exact hn) h4 (fun q hq => by rw [d0 _ 1 (by omega)]; exact (hr q hq).1)) dX1_keep_40 ?_
      refine ev_ireturn rfl dX1_keep_43 ?_
      exact ⟨rfl, rfl⟩
    · have mn := (mf_n hT.1).1
      have me := (mf_n hT.1).2.1
      have m2 := (mf_n hT.1).2.2
      have mr := mf_r hT.1
      have mL := mf_L hT.1
      have q4 : ∀ R k, sr M 106 R 104 k = M 104 k := fun R k => rfl
      have loop : ∀ f k, k + f = 1263 → Ev ks mX2_keep 13 [some (.inr 103), some (.inl (nI i)), some (.inl (nI k))] [] (sr M 106 (seg (M 104) (M 106) (1263 * i) k)) (Ri (nI (fb_sm (rc C) (nn C))) (st (sr M 106 (seg (M 104) (M 106) (1263 * i) 1263)) 107 i (nI 1))) := by
        intro f
        induction f with
        | zero =>
          intro k hk
          obtain rfl : k = 1263 := by omega
          refine ev_iload_n2 dX2_keep_13 ?_
          refine ev_sipush (nI 1263) kh_1263 dX2_keep_14 ?_
          first | refine ev_icmp_geN 44 (by omega) (by omega) (by decide) dX2_keep_17 (fun h17 => ?_) (fun h17 => by omega)
          refine ev_aload_n0 dX2_keep_44 ?_
          refine gfX2_19 rfl (hM 103 rfl) dX2_keep_45 ?_
          refine ev_iload_n1 dX2_keep_48 ?_
          refine ev_c1 dX2_keep_49 ?_
          refine ev_zast (by decide +kernel) (hM 107 rfl) (by omega) dX2_keep_50 ?_
          refine ev_aload_n0 dX2_keep_51 ?_
          refine ev_cV0f okX2_allReceipts lkX2_170 (Nat.le_of_ble_eq_true rfl) (Nat.le_of_ble_eq_true rfl) (hM 103 rfl) isO_103 (c_X2_allReceipts hM (n := nn C) (r := rc C) mn h4 (fun q hq => (mr q hq).1)) dX2_keep_52 ?_
          refine ev_ireturn rfl dX2_keep_55 ?_
          exact ⟨rfl, rfl⟩
        | succ f ih =>
          intro k hk
          refine ev_iload_n2 dX2_keep_13 ?_
          refine ev_sipush (nI 1263) kh_1263 dX2_keep_14 ?_
          first | refine ev_icmp_geN 44 (by omega) (by omega) (by decide) dX2_keep_17 (fun h17 => by omega) (fun h17 => ?_)
          refine ev_aload_n0 dX2_keep_20 ?_
          refine gfX2_16 rfl (hM 103 rfl) dX2_keep_21 ?_
          refine ev_sipush (nI 1263) kh_1263 dX2_keep_24 ?_
          refine ev_iload_n1 dX2_keep_27 ?_
          first | refine ev_imulN dX2_keep_28 ?_ | refine ev_imul dX2_keep_28 ?_
          refine ev_iload_n2 dX2_keep_29 ?_
          first | refine ev_iaddN dX2_keep_30 ?_ | refine ev_iadd dX2_keep_30 ?_
          refine ev_aload_n0 dX2_keep_31 ?_
          refine gfX2_7 rfl (hM 103 rfl) dX2_keep_32 ?_
          refine ev_iload_n2 dX2_keep_35 ?_
          refine ev_iald 1263 rfl rfl (hM 104 rfl) (by omega) dX2_keep_36 ?_
          rw [q4]
          refine ev_iast 2526 rfl rfl (hM 106 rfl) (by omega) dX2_keep_37 ?_
          refine ev_iinc2 dX2_keep_38 ?_
          refine ev_goto 13 (by decide) dX2_keep_41 ?_
          rw [st_sr, seg_s _ _ _ _ rfl]
          exact ih (k + 1) (by omega)
      refine cnV okX2_keep 1 rfl ?_
      show Ev ks mX2_keep 0 [some (.inr 103), some (.inl (nI i)), none] [] M _
      refine ev_iload_n1 dX2_keep_0 ?_
      refine ev_c0 dX2_keep_1 ?_
      refine ev_c1 dX2_keep_2 ?_
      refine ev_cS3f okX2_in lkX2_43 (Nat.le_of_ble_eq_true rfl) (Nat.le_of_ble_eq_true rfl) c_X2_in dX2_keep_3 ?_
      first | refine ev_if_neB 11 (by decide) dX2_keep_6 (fun h6 => ?_) (fun h6 => by rw [isS_in (by omega), ha] at h6; cases h6)
      refine ev_c0 dX2_keep_11 ?_
      refine ev_istore_n2 dX2_keep_12 ?_
      have h := loop 1263 0 rfl
      rw [seg_z, sr_self] at h
      exact h
    · refine ⟨Cpl_cong (fun j hj => by rw [st_n, sr_n (by omega), c0 j (by omega)]) (fun _ _ => rfl) hT.1, ?_, fun i' hi' => ?_, T_se_cong hT.2.2.2 ?_ ?_ ?_ rfl rfl rfl⟩
      · obtain ⟨u, ne, u1, u2, u3, u4, u5, u6⟩ := hT.2.1
        refine ⟨u, ne, u1, u2, ?_, ?_, u5, fun j hj => ?_⟩
        · rw [st_n, sr_s, upd_n (by omega), c0 96 (by omega)]; exact u3
        · rw [st_n, sr_s, upd_n (by omega), c0 96 (by omega)]; exact u4
        · refine Cpl_cong (fun i hi => ?_) (fun i _ => rfl) (u6 j hj)
          unfold wv
          rw [st_n, sr_n (by omega), c0 _ (by omega)]
      · have eb : st (cpyW C (6 + i) 0) 96 5 (C 96 5 ||| nI 1 <<< (nI i &&& 31)) 96 5 = C 96 5 ||| nI 1 <<< (nI i &&& 31) := rfl
        rw [eb, b_or, b_onen i (by omega)]
        show upd (M 107) i (nI 1) i' = _ ∧ _
        by_cases hii : i' = i
        · subst hii
          rw [upd_s]
          refine ⟨by rw [nI_lit1]; simp; rfl, fun _ => ?_⟩
          refine Cpl_cong (fun j hj => ?_) (fun j hj => ?_) hT.1
          · unfold wv
            rw [st_n, sr_n (by omega)]
            unfold cpyW
            rw [if_pos (by omega)]
            congr 1
            omega
          · show seg (M 104) (M 106) (1263 * i') 1263 (1263 * i' + j) = M 104 j
            exact seg_in hj
        · rw [upd_n hii, decide_eq_false hii, Bool.or_false]
          refine ⟨(hT.2.2.1 i' hi').1, fun hb => ?_⟩
          refine Cpl_cong (fun j hj => ?_) (fun j hj => ?_) ((hT.2.2.1 i' hi').2 hb)
          · unfold wv
            rw [st_n, sr_n (by omega)]
            unfold cpyW
            rw [if_neg (by omega)]
          · show seg (M 104) (M 106) (1263 * i) 1263 (1263 * i' + j) = M 106 (1263 * i' + j)
            exact seg_o (by omega)
      · rw [st_n, sr_s, upd_n (by omega), c0 96 (by omega)]
      · rw [st_n, sr_n (by omega), c0 99 (by omega)]
      · rw [st_n, sr_n (by omega), c0 100 (by omega)]
theorem op_back {ks : List Nat} (hC : InC ks) (hM : InM ks) {a : Int32} : Op ks mX1_back yX1_back mX2_back yX2_back [.inl a] := by
  refine op_fn (fun C hI hX => ?_)
  have hW : InW ks := hC.w
  obtain ⟨⟨hn, h2, h4⟩, he, he1, he4⟩ := wf_n hI
  have hr := wf_r hI
  have hL := wf_L hI
  cases ha : isS 2 a with
  | false =>
    refine fn_read (-1) ?_ (fun M hT => ?_)
    · refine cnV okX1_back 0 rfl ?_
      show Ev ks mX1_back 0 [some (.inr 96), some (.inl a)] [] C _
      refine ev_iload_n1 dX1_back_0 ?_
      first | refine ev_if_lt 9 (by decide) dX1_back_1 (fun h1 => ?_) (fun h1 => ?_)
      · refine ev_cm1 dX1_back_9 ?_
        refine ev_ireturn rfl dX1_back_10 ?_
        exact ⟨rfl, rfl⟩
      · refine ev_iload_n1 dX1_back_4 ?_
        refine ev_c2 dX1_back_5 ?_
        first | refine ev_icmp_lt 11 (by decide) dX1_back_6 (fun h6 => by exact (isS_out' ha h1 h6).elim) (fun h6 => ?_)
        refine ev_cm1 dX1_back_9 ?_
        refine ev_ireturn rfl dX1_back_10 ?_
        exact ⟨rfl, rfl⟩
    · refine cnV okX2_back 1 rfl ?_
      show Ev ks mX2_back 0 [some (.inr 103), some (.inl a), none] [] M _
      refine ev_iload_n1 dX2_back_0 ?_
      refine ev_c0 dX2_back_1 ?_
      refine ev_c1 dX2_back_2 ?_
      refine ev_cS3f okX2_in lkX2_43 (Nat.le_of_ble_eq_true rfl) (Nat.le_of_ble_eq_true rfl) c_X2_in dX2_back_3 ?_
      first | refine ev_if_neB 11 (by decide) dX2_back_6 (fun h6 => by rw [isS_in (by omega), ha] at h6; cases h6) (fun h6 => ?_)
      refine ev_cm1 dX2_back_9 ?_
      refine ev_ireturn rfl dX2_back_10 ?_
      exact ⟨rfl, rfl⟩
  | true =>
    obtain ⟨i, hi, rfl⟩ := (isS_iff (by omega)).mp ha
    cases hk : bt (C 96 5) i with
    | false =>
      refine fn_read (-2) ?_ (fun M hT => ?_)
      · refine cnV okX1_back 0 rfl ?_
        show Ev ks mX1_back 0 [some (.inr 96), some (.inl (nI i))] [] C _
        refine ev_iload_n1 dX1_back_0 ?_
        refine ev_if_ltN 9 (by omega) (by decide) dX1_back_1 ?_
        refine ev_iload_n1 dX1_back_4 ?_
        refine ev_c2 dX1_back_5 ?_
        first | refine ev_icmp_ltN 11 (by omega) (by omega) (by decide) dX1_back_6 (fun h6 => ?_) (fun h6 => by omega)
        refine ev_aload_n0 dX1_back_11 ?_
        refine gfX1_47 rfl (hC 96 rfl) dX1_back_12 ?_
        refine ev_iload_n1 dX1_back_15 ?_
        refine ev_ishr dX1_back_16 ?_
        refine ev_c1 dX1_back_17 ?_
        refine ev_iand dX1_back_18 ?_
        rw [bt_x _ i (by omega), hk]
        first | refine ev_if_neB 25 (by decide) dX1_back_19 (fun h19 => by cases h19) (fun h19 => ?_)
        refine ev_bipush (-2 : Int32) kb_m2 dX1_back_22 ?_
        refine ev_ireturn rfl dX1_back_24 ?_
        exact ⟨rfl, rfl⟩
      · refine cnV okX2_back 1 rfl ?_
        show Ev ks mX2_back 0 [some (.inr 103), some (.inl (nI i)), none] [] M _
        refine ev_iload_n1 dX2_back_0 ?_
        refine ev_c0 dX2_back_1 ?_
        refine ev_c1 dX2_back_2 ?_
        refine ev_cS3f okX2_in lkX2_43 (Nat.le_of_ble_eq_true rfl) (Nat.le_of_ble_eq_true rfl) c_X2_in dX2_back_3 ?_
        first | refine ev_if_neB 11 (by decide) dX2_back_6 (fun h6 => ?_) (fun h6 => by rw [isS_in (by omega), ha] at h6; cases h6)
        refine ev_aload_n0 dX2_back_11 ?_
        refine gfX2_19 rfl (hM 103 rfl) dX2_back_12 ?_
        refine ev_iload_n1 dX2_back_15 ?_
        refine ev_zald (hM 107 rfl) (by omega) dX2_back_16 ?_
        rw [(hT.2.2.1 i hi).1, hk]
        first | refine ev_if_neB 23 (by decide) dX2_back_17 (fun h17 => by cases h17) (fun h17 => ?_)
        refine ev_bipush (-2 : Int32) kb_m2 dX2_back_20 ?_
        refine ev_ireturn rfl dX2_back_22 ?_
        exact ⟨rfl, rfl⟩
    | true =>
      obtain ⟨M0, hM0⟩ := id hX
      have hIw : Inv (wv C (6 + i)) := ((hM0.2.2.1 i hi).2 hk).1
      obtain ⟨w, hw⟩ : ∃ w, w = wv C (6 + i) := ⟨_, rfl⟩
      rw [← hw] at hIw
      have hwn := (wf_n hIw).1
      have hwr := wf_r hIw
      refine ⟨nI (fb_sm (rc w) (nn w)), st (cpyW C 0 (6 + i)) 96 3 (nI 0), ?_, fun k hk => by rw [st_n, sr_n (by omega), cpy0_o (by omega)], fun M hT => ⟨st (sr M 104 (cpR (fun j => M 106 (1263 * i + j)) (M 104) 1263)) 103 2 (nI 0), ?_, fun k hk => by rw [st_n, sr_n (by omega), sr_n (by omega)], ?_⟩⟩
      · have d0 : ∀ x k, k < 12 → st (cpyW C 0 (6 + i)) 96 3 x k = w k := fun x k hk => by rw [st_n, sr_n (by omega), cpy0 hk, hw]; rfl
        refine cnV okX1_back 0 rfl ?_
        show Ev ks mX1_back 0 [some (.inr 96), some (.inl (nI i))] [] C _
        refine ev_iload_n1 dX1_back_0 ?_
        refine ev_if_ltN 9 (by omega) (by decide) dX1_back_1 ?_
        refine ev_iload_n1 dX1_back_4 ?_
        refine ev_c2 dX1_back_5 ?_
        first | refine ev_icmp_ltN 11 (by omega) (by omega) (by decide) dX1_back_6 (fun h6 => ?_) (fun h6 => by omega)
        refine ev_aload_n0 dX1_back_11 ?_
        refine gfX1_47 rfl (hC 96 rfl) dX1_back_12 ?_
        refine ev_iload_n1 dX1_back_15 ?_
        refine ev_ishr dX1_back_16 ?_
        refine ev_c1 dX1_back_17 ?_
        refine ev_iand dX1_back_18 ?_
        rw [bt_x _ i (by omega), hk]
        first | refine ev_if_neB 25 (by decide) dX1_back_19 (fun h19 => ?_) (fun h19 => by cases h19)
        refine ev_aload_n0 dX1_back_25 ?_
        refine gfX1_12 rfl (hC 96 rfl) dX1_back_26 ?_
        refine ev_aload_n0 dX1_back_29 ?_
        refine gfX1_20 rfl (hC 96 rfl) dX1_back_30 ?_
        refine ev_iload_n1 dX1_back_33 ?_
        refine ev_aald98 (hC 98 rfl) (by omega) dX1_back_34 ?_
        refine ev_become okX0_become lkX1_107 (Nat.le_of_ble_eq_true rfl) (Nat.le_of_ble_eq_true rfl) (hC _ (by rw [Nat.blt, Nat.ble_eq]; omega)) (isO_W (by omega) (by omega)) (c_X0_become hC (a := 0) (b := 6 + i) (by omega) (by omega) (by omega)) dX1_back_35 ?_
        refine ev_aload_n0 dX1_back_38 ?_
        refine ev_c0 dX1_back_39 ?_
        refine pfX1_101 rfl (hC 96 rfl) dX1_back_40 ?_
        refine ev_aload_n0 dX1_back_43 ?_
        refine gfX1_12 rfl (hC 96 rfl) dX1_back_44 ?_
        refine ev_cV0f okX0_allReceipts lkX1_183 (Nat.le_of_ble_eq_true rfl) (Nat.le_of_ble_eq_true rfl) (hC 0 rfl) isO_0 (c_X0_allReceipts hW (n := nn w) (r := rc w) (by rw [d0 _ 0 (by omega)]; exact hwn.1) hwn.2.2 (fun q hq => by rw [d0 _ 1 (by omega)]; exact (hwr q hq).1)) dX1_back_47 ?_
        refine ev_ireturn rfl dX1_back_50 ?_
        exact ⟨rfl, rfl⟩
      · have hX2 : Cpl w (fun j => M 106 (1263 * i + j)) := by rw [hw]; exact (hT.2.2.1 i hi).2 hk
        have h4w := hwn.2.2
        have q6 : ∀ R k, sr M 104 R 106 k = M 106 k := fun R k => rfl
        have e0 : st (sr M 104 (cpR (fun j => M 106 (1263 * i + j)) (M 104) 1263)) 103 2 (nI 0) 104 0 = nI (nn w) := (mf_n hX2).1
        have e3 : ∀ q, q < nn w → st (sr M 104 (cpR (fun j => M 106 (1263 * i + j)) (M 104) 1263)) 103 2 (nI 0) 104 (3 + q) = nI (rc w q) := fun q hq => by
          show cpR (fun j => M 106 (1263 * i + j)) (M 104) 1263 (3 + q) = _
          rw [cpR_in (by omega)]
          exact (mf_r hX2 q hq).1
        have loop : ∀ f k, k + f = 1263 → Ev ks mX2_back 25 [some (.inr 103), some (.inl (nI i)), some (.inl (nI k))] [] (sr M 104 (cpR (fun j => M 106 (1263 * i + j)) (M 104) k)) (Ri (nI (fb_sm (rc w) (nn w))) (st (sr M 104 (cpR (fun j => M 106 (1263 * i + j)) (M 104) 1263)) 103 2 (nI 0))) := by
          intro f
          induction f with
          | zero =>
            intro k hk
            obtain rfl : k = 1263 := by omega
            refine ev_iload_n2 dX2_back_25 ?_
            refine ev_sipush (nI 1263) kh_1263 dX2_back_26 ?_
            first | refine ev_icmp_geN 56 (by omega) (by omega) (by decide) dX2_back_29 (fun h29 => ?_) (fun h29 => by omega)
            refine ev_aload_n0 dX2_back_56 ?_
            refine ev_c0 dX2_back_57 ?_
            refine pfX2_68 rfl (hM 103 rfl) dX2_back_58 ?_
            refine ev_aload_n0 dX2_back_61 ?_
            refine ev_cV0f okX2_allReceipts lkX2_170 (Nat.le_of_ble_eq_true rfl) (Nat.le_of_ble_eq_true rfl) (hM 103 rfl) isO_103 (c_X2_allReceipts hM e0 h4w e3) dX2_back_62 ?_
            refine ev_ireturn rfl dX2_back_65 ?_
            exact ⟨rfl, rfl⟩
          | succ f ih =>
            intro k hk
            refine ev_iload_n2 dX2_back_25 ?_
            refine ev_sipush (nI 1263) kh_1263 dX2_back_26 ?_
            first | refine ev_icmp_geN 56 (by omega) (by omega) (by decide) dX2_back_29 (fun h29 => by omega) (fun h29 => ?_)
            refine ev_aload_n0 dX2_back_32 ?_
            refine gfX2_7 rfl (hM 103 rfl) dX2_back_33 ?_
            refine ev_iload_n2 dX2_back_36 ?_
            refine ev_aload_n0 dX2_back_37 ?_
            refine gfX2_16 rfl (hM 103 rfl) dX2_back_38 ?_
            refine ev_sipush (nI 1263) kh_1263 dX2_back_41 ?_
            refine ev_iload_n1 dX2_back_44 ?_
            first | refine ev_imulN dX2_back_45 ?_ | refine ev_imul dX2_back_45 ?_
            refine ev_iload_n2 dX2_back_46 ?_
            first | refine ev_iaddN dX2_back_47 ?_ | refine ev_iadd dX2_back_47 ?_
            refine ev_iald 2526 rfl rfl (hM 106 rfl) (by omega) dX2_back_48 ?_
            rw [q6]
            refine ev_iast 1263 rfl rfl (hM 104 rfl) (by omega) dX2_back_49 ?_
            refine ev_iinc2 dX2_back_50 ?_
            refine ev_goto 25 (by decide) dX2_back_53 ?_
            rw [st_sr, cpR_s (fun j => M 106 (1263 * i + j))]
            exact ih (k + 1) (by omega)
        refine cnV okX2_back 1 rfl ?_
        show Ev ks mX2_back 0 [some (.inr 103), some (.inl (nI i)), none] [] M _
        refine ev_iload_n1 dX2_back_0 ?_
        refine ev_c0 dX2_back_1 ?_
        refine ev_c1 dX2_back_2 ?_
        refine ev_cS3f okX2_in lkX2_43 (Nat.le_of_ble_eq_true rfl) (Nat.le_of_ble_eq_true rfl) c_X2_in dX2_back_3 ?_
        first | refine ev_if_neB 11 (by decide) dX2_back_6 (fun h6 => ?_) (fun h6 => by rw [isS_in (by omega), ha] at h6; cases h6)
        refine ev_aload_n0 dX2_back_11 ?_
        refine gfX2_19 rfl (hM 103 rfl) dX2_back_12 ?_
        refine ev_iload_n1 dX2_back_15 ?_
        refine ev_zald (hM 107 rfl) (by omega) dX2_back_16 ?_
        rw [(hT.2.2.1 i hi).1, hk]
        first | refine ev_if_neB 23 (by decide) dX2_back_17 (fun h17 => ?_) (fun h17 => by cases h17)
        refine ev_c0 dX2_back_23 ?_
        refine ev_istore_n2 dX2_back_24 ?_
        have h := loop 1263 0 rfl
        rw [cpR_0, sr_self] at h
        exact h
      · have hX2 : Cpl w (fun j => M 106 (1263 * i + j)) := by rw [hw]; exact (hT.2.2.1 i hi).2 hk
        obtain ⟨u, ne, u1, u2, u3, u4, u5, u6⟩ := hT.2.1
        refine ⟨?_, ⟨0, ne, by omega, u2, rfl, ?_, rfl, fun j hj => by omega⟩, ?_, ?_⟩
        · refine Cpl_cong (fun j hj => ?_) (fun j hj => ?_) hX2
          · rw [st_n, sr_n (by omega), cpy0 hj, hw]; rfl
          · show cpR (fun j => M 106 (1263 * i + j)) (M 104) 1263 j = _
            rw [cpR_in hj]
        · rw [st_n, sr_s, upd_n (by omega), cpy0_o (by omega)]; exact u4
        · refine T_im_cong hT.2.2.1 (fun k a b => by rw [st_n, sr_n (by omega), cpy0_o (by omega)]) ?_ rfl rfl
          rw [st_n, sr_s, upd_n (by omega), cpy0_o (by omega)]
        · refine T_se_cong hT.2.2.2 ?_ ?_ ?_ rfl rfl rfl
          · rw [st_n, sr_s, upd_n (by omega), cpy0_o (by omega)]
          · rw [st_n, sr_n (by omega), cpy0_o (by omega)]
          · rw [st_n, sr_n (by omega), cpy0_o (by omega)]
