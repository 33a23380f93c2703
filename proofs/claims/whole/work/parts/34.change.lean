theorem startW_o {S : St} {a b : Int32} {k : Nat} (hk : 12 ≤ k) : startW S a b k = S k := by
  unfold startW
  rw [sr_n (by omega), sr_n (by omega), sr_n (by omega), st_n, sr_n (by omega), st_n, sr_n (by omega), st_n, sr_n (by omega)]
theorem noteS_o {S : St} {u k : Nat} (hk : k < 103) : noteS S u k = S k := by
  unfold noteS
  rw [st_n, sr_n (by omega), sr_n (by omega)]
theorem wrW_o {S : St} {n x y L : Nat} {c b cs : Int32} {k : Nat} (hk : 12 ≤ k) : wrW S n x y L c b cs k = S k := by
  unfold wrW
  rw [sr_n (by omega), sr_n (by omega), sr_n (by omega), sr_n (by omega), sr_n (by omega)]
theorem le_nI {a b : Nat} (ha : a < 2147483648) (hb : b < 2147483648) (h : nI a ≤ nI b) : a ≤ b := by
  rw [Int32.le_iff_toInt_le, nI_toInt (by omega), nI_toInt (by omega)] at h
  omega
theorem op_begins {ks : List Nat} (hC : InC ks) (hM : InM ks) {a b : Int32} : Op ks mX1_begins yX1_begins mX2_begins yX2_begins [.inl a, .inl b] := by
  refine op_fn (fun C hI hX => ?_)
  have hW : InW ks := hC.w
  obtain ⟨⟨hn, h2, h4⟩, he, he1, he4⟩ := wf_n hI
  have hr := wf_r hI
  have hL := wf_L hI
  obtain ⟨M0, hM0⟩ := id hX
  obtain ⟨u, ne, hu5, hne, eu, en, -⟩ := hM0.2.1
  obtain ⟨W, hWd⟩ : ∃ W, W = remS C ne u := ⟨_, rfl⟩
  have hrem : Cn ks mX1_remember yX1_remember [.inr 96] C (Rv W) := by rw [hWd]; exact c_X1_remember hC eu en hu5 hne
  have hTW : ∀ M, Top C M → M 103 2 = nI u ∧ Top W (noteS M u) := fun M hT => by rw [hWd]; exact Top_rem hT hu5 hne eu en
  have w0 : ∀ k, k < 12 → W k = C k := fun k hk => by rw [hWd]; exact remS_o hne (Or.inl hk) (by omega)
  have wM : ∀ k, 103 ≤ k → W k = C k := fun k hk => by rw [hWd]; exact remS_o hne (Or.inr (by omega)) (by omega)
  have hIW : Inv W := (hTW M0 hM0).2.1.1
  have hnn : nn W = nn C := by unfold nn; rw [w0 0 (by omega)]
  have hee : ee W = ee C := by unfold ee; rw [w0 0 (by omega)]
  have hrc : rc W = rc C := by funext q; unfold rc; rw [w0 1 (by omega)]
  have hwr : wr W = wr C := by funext x y; unfold wr; rw [w0 6 (by omega)]
  have htk : tk W = tk C := by funext q x r; unfold tk; rw [w0 2 (by omega)]
  clear hWd
  rcases Decidable.em (nI 2 ≤ a ∧ a ≤ nI 4 ∧ nI 1 ≤ b ∧ b ≤ a) with hv | hv
  · obtain ⟨v1, v2, v3, v4⟩ := hv
    rcases i_nat a with h | ⟨n, hn9, rfl⟩
    · exact absurd (Int32.lt_of_le_of_lt v1 h) (nI_pos (by omega))
    rcases i_nat b with h | ⟨e, he9, rfl⟩
    · exact absurd (Int32.lt_of_le_of_lt v3 h) (nI_pos (by omega))
    have k1 := le_nI (by omega) (by omega) v1
    have k2 := le_nI (by omega) (by omega) v2
    have k3 := le_nI (by omega) (by omega) v3
    have k4 := le_nI (by omega) (by omega) v4
    refine ⟨nI n, st (st (startW W (nI n) (nI e)) 96 8 (nI 0)) 96 5 (nI 0), ?_, fun k hk => by rw [st_n, sr_n (by omega), st_n, sr_n (by omega), startW_o (by omega), wM k hk], fun M hT => ⟨st (st (st (sr (noteS M u) 104 (fun i => if i = 0 then nI n else if i = 1 then nI e else 0)) 103 5 (nI 0)) 107 0 (nI 0)) 107 1 (nI 0), ?_, fun k hk => by rw [st_n, sr_n (by omega), st_n, sr_n (by omega), st_n, sr_n (by omega), sr_n (by omega), noteS_o hk], ?_⟩⟩
    · refine cnV okX1_begins 0 rfl ?_
      show Ev ks mX1_begins 0 [some (.inr 96), some (.inl (nI n)), some (.inl (nI e))] [] C _
      refine ev_iload_n1 dX1_begins_0 ?_
      refine ev_c2 dX1_begins_1 ?_
      first | refine ev_icmp_ltN 20 (by omega) (by omega) (by decide) dX1_begins_2 (fun h2 => by omega) (fun h2 => ?_)
      refine ev_iload_n1 dX1_begins_5 ?_
      refine ev_c4 dX1_begins_6 ?_
      first | refine ev_icmp_gtN 20 (by omega) (by omega) (by decide) dX1_begins_7 (fun h7 => by omega) (fun h7 => ?_)
      refine ev_iload_n2 dX1_begins_10 ?_
      refine ev_c1 dX1_begins_11 ?_
      first | refine ev_icmp_ltN 20 (by omega) (by omega) (by decide) dX1_begins_12 (fun h12 => by omega) (fun h12 => ?_)
      refine ev_iload_n2 dX1_begins_15 ?_
      refine ev_iload_n1 dX1_begins_16 ?_
      first | refine ev_icmp_leN 22 (by omega) (by omega) (by decide) dX1_begins_17 (fun h17 => ?_) (fun h17 => by omega)
      refine ev_aload_n0 dX1_begins_22 ?_
      refine ev_cV0v okX1_remember lkX1_36 (Nat.le_of_ble_eq_true rfl) (Nat.le_of_ble_eq_true rfl) (hC 96 rfl) isO_96 hrem dX1_begins_23 ?_
      refine ev_aload_n0 dX1_begins_26 ?_
      refine gfX1_12 rfl (hC 96 rfl) dX1_begins_27 ?_
      refine ev_iload_n1 dX1_begins_30 ?_
      refine ev_iload_n2 dX1_begins_31 ?_
      refine ev_cV2v okX0_start lkX1_39 (Nat.le_of_ble_eq_true rfl) (Nat.le_of_ble_eq_true rfl) (hC 0 rfl) isO_0 (c_X0_start hW) dX1_begins_32 ?_
      refine ev_aload_n0 dX1_begins_35 ?_
      refine ev_c0 dX1_begins_36 ?_
      refine pfX1_43 rfl (hC 96 rfl) dX1_begins_37 ?_
      refine ev_aload_n0 dX1_begins_40 ?_
      refine ev_c0 dX1_begins_41 ?_
      refine pfX1_47 rfl (hC 96 rfl) dX1_begins_42 ?_
      refine ev_iload_n1 dX1_begins_45 ?_
      refine ev_ireturn rfl dX1_begins_46 ?_
      exact ⟨rfl, rfl⟩
    · refine cnV okX2_begins 0 rfl ?_
      show Ev ks mX2_begins 0 [some (.inr 103), some (.inl (nI n)), some (.inl (nI e))] [] M _
      refine ev_iload_n1 dX2_begins_0 ?_
      refine ev_c2 dX2_begins_1 ?_
      refine ev_c4 dX2_begins_2 ?_
      refine ev_cS3f okX2_in lkX2_43 (Nat.le_of_ble_eq_true rfl) (Nat.le_of_ble_eq_true rfl) c_X2_in dX2_begins_3 ?_
      first | refine ev_if_eqB 18 (by decide) dX2_begins_6 (fun h6 => by simp [v1, v2] at h6) (fun h6 => ?_)
      refine ev_iload_n2 dX2_begins_9 ?_
      refine ev_c1 dX2_begins_10 ?_
      refine ev_iload_n1 dX2_begins_11 ?_
      refine ev_cS3f okX2_in lkX2_43 (Nat.le_of_ble_eq_true rfl) (Nat.le_of_ble_eq_true rfl) c_X2_in dX2_begins_12 ?_
      first | refine ev_if_neB 20 (by decide) dX2_begins_15 (fun h15 => ?_) (fun h15 => by simp [v3, v4] at h15)
      refine ev_aload_n0 dX2_begins_20 ?_
      refine ev_cV0v okX2_note lkX2_72 (Nat.le_of_ble_eq_true rfl) (Nat.le_of_ble_eq_true rfl) (hM 103 rfl) isO_103 (c_X2_note hM (hTW M hT).1 hu5) dX2_begins_21 ?_
      refine ev_aload_n0 dX2_begins_24 ?_
      refine ev_iload_n1 dX2_begins_25 ?_
      refine ev_iload_n2 dX2_begins_26 ?_
      refine ev_cV2v okX2_start lkX2_35 (Nat.le_of_ble_eq_true rfl) (Nat.le_of_ble_eq_true rfl) (hM 103 rfl) isO_103 (c_X2_start hM) dX2_begins_27 ?_
      refine ev_aload_n0 dX2_begins_30 ?_
      refine ev_c0 dX2_begins_31 ?_
      refine pfX2_75 rfl (hM 103 rfl) dX2_begins_32 ?_
      refine ev_aload_n0 dX2_begins_35 ?_
      refine gfX2_19 rfl (hM 103 rfl) dX2_begins_36 ?_
      refine ev_c0 dX2_begins_39 ?_
      refine ev_c0 dX2_begins_40 ?_
      refine ev_zast (by decide +kernel) (hM 107 rfl) (by omega) dX2_begins_41 ?_
      refine ev_aload_n0 dX2_begins_42 ?_
      refine gfX2_19 rfl (hM 103 rfl) dX2_begins_43 ?_
      refine ev_c1 dX2_begins_46 ?_
      refine ev_c0 dX2_begins_47 ?_
      refine ev_zast (by decide +kernel) (hM 107 rfl) (by omega) dX2_begins_48 ?_
      refine ev_iload_n1 dX2_begins_49 ?_
      refine ev_ireturn rfl dX2_begins_50 ?_
      exact ⟨rfl, rfl⟩
    · have hTT := (hTW M hT).2
      refine ⟨?_, T_u_cong hTT.2.1 (fun k a b => by rw [st_n, sr_n (by omega), st_n, sr_n (by omega), startW_o (by omega)]) rfl rfl rfl rfl, fun i hi => ?_, ⟨0, by omega, rfl, rfl, fun j hj => by omega⟩⟩
      · exact Cpl_cong (fun j hj => by rw [st_n, sr_n (by omega), st_n, sr_n (by omega)]) (fun i _ => rfl) (Cpl_start (S := W) (n := n) (e := e) (by omega) (by omega) (by omega) (by omega))
      · have e0 : bt (st (st (startW W (nI n) (nI e)) 96 8 (nI 0)) 96 5 (nI 0) 96 5) i = false := by
          show bt (nI 0) i = false
          rw [nI_0, b_0]
        rw [e0]
        refine ⟨?_, fun h => by cases h⟩
        rcases (show i = 0 ∨ i = 1 by omega) with rfl | rfl <;> exact nI_0
  · refine fn_read (-1) ?_ (fun M hT => ?_)
    · refine cnV okX1_begins 0 rfl ?_
      show Ev ks mX1_begins 0 [some (.inr 96), some (.inl a), some (.inl b)] [] C _
      refine ev_iload_n1 dX1_begins_0 ?_
      refine ev_c2 dX1_begins_1 ?_
      first | refine ev_icmp_lt 20 (by decide) dX1_begins_2 (fun h2 => ?_) (fun h2 => ?_)
      · refine ev_cm1 dX1_begins_20 ?_
        refine ev_ireturn rfl dX1_begins_21 ?_
        exact ⟨rfl, rfl⟩
      · refine ev_iload_n1 dX1_begins_5 ?_
        refine ev_c4 dX1_begins_6 ?_
        first | refine ev_icmp_gt 20 (by decide) dX1_begins_7 (fun h7 => ?_) (fun h7 => ?_)
        · refine ev_cm1 dX1_begins_20 ?_
          refine ev_ireturn rfl dX1_begins_21 ?_
          exact ⟨rfl, rfl⟩
        · refine ev_iload_n2 dX1_begins_10 ?_
          refine ev_c1 dX1_begins_11 ?_
          first | refine ev_icmp_lt 20 (by decide) dX1_begins_12 (fun h12 => ?_) (fun h12 => ?_)
          · refine ev_cm1 dX1_begins_20 ?_
            refine ev_ireturn rfl dX1_begins_21 ?_
            exact ⟨rfl, rfl⟩
          · refine ev_iload_n2 dX1_begins_15 ?_
            refine ev_iload_n1 dX1_begins_16 ?_
            first | refine ev_icmp_le 22 (by decide) dX1_begins_17 (fun h17 => ?_) (fun h17 => ?_)
            · exact absurd ⟨Int32.not_lt.mp h2, Int32.not_lt.mp h7, Int32.not_lt.mp h12, h17⟩ hv
            · refine ev_cm1 dX1_begins_20 ?_
              refine ev_ireturn rfl dX1_begins_21 ?_
              exact ⟨rfl, rfl⟩
    · refine cnV okX2_begins 0 rfl ?_
      show Ev ks mX2_begins 0 [some (.inr 103), some (.inl a), some (.inl b)] [] M _
      refine ev_iload_n1 dX2_begins_0 ?_
      refine ev_c2 dX2_begins_1 ?_
      refine ev_c4 dX2_begins_2 ?_
      refine ev_cS3f okX2_in lkX2_43 (Nat.le_of_ble_eq_true rfl) (Nat.le_of_ble_eq_true rfl) c_X2_in dX2_begins_3 ?_
      first | refine ev_if_eqB 18 (by decide) dX2_begins_6 (fun h6 => ?_) (fun h6 => ?_)
      · refine ev_cm1 dX2_begins_18 ?_
        refine ev_ireturn rfl dX2_begins_19 ?_
        exact ⟨rfl, rfl⟩
      · refine ev_iload_n2 dX2_begins_9 ?_
        refine ev_c1 dX2_begins_10 ?_
        refine ev_iload_n1 dX2_begins_11 ?_
        refine ev_cS3f okX2_in lkX2_43 (Nat.le_of_ble_eq_true rfl) (Nat.le_of_ble_eq_true rfl) c_X2_in dX2_begins_12 ?_
        first | refine ev_if_neB 20 (by decide) dX2_begins_15 (fun h15 => ?_) (fun h15 => ?_)
        · simp only [Bool.and_eq_true, decide_eq_true_eq] at h6 h15
          exact absurd ⟨h6.1, h6.2, h15.1, h15.2⟩ hv
        · refine ev_cm1 dX2_begins_18 ?_
          refine ev_ireturn rfl dX2_begins_19 ?_
          exact ⟨rfl, rfl⟩
theorem op_puts {ks : List Nat} (hC : InC ks) (hM : InM ks) {q c : Int32} : Op ks mX1_puts yX1_puts mX2_puts yX2_puts [.inl q, .inl c] := by
  refine op_fn (fun C hI hX => ?_)
  have hW : InW ks := hC.w
  obtain ⟨⟨hn, h2, h4⟩, he, he1, he4⟩ := wf_n hI
  have hr := wf_r hI
  have hL := wf_L hI
  obtain ⟨M0, hM0⟩ := id hX
  obtain ⟨u, ne, hu5, hne, eu, en, -⟩ := hM0.2.1
  obtain ⟨W, hWd⟩ : ∃ W, W = remS C ne u := ⟨_, rfl⟩
  have hrem : Cn ks mX1_remember yX1_remember [.inr 96] C (Rv W) := by rw [hWd]; exact c_X1_remember hC eu en hu5 hne
  have hTW : ∀ M, Top C M → M 103 2 = nI u ∧ Top W (noteS M u) := fun M hT => by rw [hWd]; exact Top_rem hT hu5 hne eu en
  have w0 : ∀ k, k < 12 → W k = C k := fun k hk => by rw [hWd]; exact remS_o hne (Or.inl hk) (by omega)
  have wM : ∀ k, 103 ≤ k → W k = C k := fun k hk => by rw [hWd]; exact remS_o hne (Or.inr (by omega)) (by omega)
  have hIW : Inv W := (hTW M0 hM0).2.1.1
  have hnn : nn W = nn C := by unfold nn; rw [w0 0 (by omega)]
  have hee : ee W = ee C := by unfold ee; rw [w0 0 (by omega)]
  have hrc : rc W = rc C := by funext q; unfold rc; rw [w0 1 (by omega)]
  have hwr : wr W = wr C := by funext x y; unfold wr; rw [w0 6 (by omega)]
  have htk : tk W = tk C := by funext q x r; unfold tk; rw [w0 2 (by omega)]
  clear hWd
  cases hq : isS (nn C) q with
  | false =>
    refine fn_read (-1) ?_ (fun M hT => ?_)
    · refine cnV okX1_puts 1 rfl ?_
      show Ev ks mX1_puts 0 [some (.inr 96), some (.inl q), some (.inl c), none] [] C _
      refine ev_aload_n0 dX1_puts_0 ?_
      refine gfX1_12 rfl (hC 96 rfl) dX1_puts_1 ?_
      refine ev_iload_n1 dX1_puts_4 ?_
      refine ev_cV1f okX0_isSite lkX1_50 (Nat.le_of_ble_eq_true rfl) (Nat.le_of_ble_eq_true rfl) (hC 0 rfl) isO_0 (c_X0_isSite hW hn) dX1_puts_5 ?_
      first | refine ev_if_eqB 21 (by decide) dX1_puts_8 (fun h8 => ?_) (fun h8 => by rw [hq] at h8; cases h8)
      refine ev_cm1 dX1_puts_21 ?_
      refine ev_ireturn rfl dX1_puts_22 ?_
      exact ⟨rfl, rfl⟩
    · have mn := (mf_n hT.1).1
      have me := (mf_n hT.1).2.1
      have m2 := (mf_n hT.1).2.2
      have mr := mf_r hT.1
      have mL := mf_L hT.1
      refine cnV okX2_puts 1 rfl ?_
      show Ev ks mX2_puts 0 [some (.inr 103), some (.inl q), some (.inl c), none] [] M _
      refine ev_aload_n0 dX2_puts_0 ?_
      refine ev_iload_n1 dX2_puts_1 ?_
      refine ev_cV1f okX2_isSite lkX2_78 (Nat.le_of_ble_eq_true rfl) (Nat.le_of_ble_eq_true rfl) (hM 103 rfl) isO_103 (c_X2_isSite hM mn h2 h4) dX2_puts_2 ?_
      first | refine ev_if_eqB 18 (by decide) dX2_puts_5 (fun h5 => ?_) (fun h5 => by rw [hq] at h5; cases h5)
      refine ev_cm1 dX2_puts_18 ?_
      refine ev_ireturn rfl dX2_puts_19 ?_
      exact ⟨rfl, rfl⟩
  | true =>
    obtain ⟨j, hj, rfl⟩ := (isS_iff (by omega)).mp hq
    cases hc : isS 100 c with
    | false =>
      refine fn_read (-1) ?_ (fun M hT => ?_)
      · refine cnV okX1_puts 1 rfl ?_
        show Ev ks mX1_puts 0 [some (.inr 96), some (.inl (nI j)), some (.inl c), none] [] C _
        refine ev_aload_n0 dX1_puts_0 ?_
        refine gfX1_12 rfl (hC 96 rfl) dX1_puts_1 ?_
        refine ev_iload_n1 dX1_puts_4 ?_
        refine ev_cV1f okX0_isSite lkX1_50 (Nat.le_of_ble_eq_true rfl) (Nat.le_of_ble_eq_true rfl) (hC 0 rfl) isO_0 (c_X0_isSite hW hn) dX1_puts_5 ?_
        first | refine ev_if_eqB 21 (by decide) dX1_puts_8 (fun h8 => by rw [hq] at h8; cases h8) (fun h8 => ?_)
        refine ev_iload_n2 dX1_puts_11 ?_
        first | refine ev_if_lt 21 (by decide) dX1_puts_12 (fun h12 => ?_) (fun h12 => ?_)
        · refine ev_cm1 dX1_puts_21 ?_
          refine ev_ireturn rfl dX1_puts_22 ?_
          exact ⟨rfl, rfl⟩
        · refine ev_iload_n2 dX1_puts_15 ?_
          refine ev_bipush (nI 99) kb_99 dX1_puts_16 ?_
          first | refine ev_icmp_le 23 (by decide) dX1_puts_18 (fun h18 => by exact (isS_out (by omega) hc h12 h18).elim) (fun h18 => ?_)
          refine ev_cm1 dX1_puts_21 ?_
          refine ev_ireturn rfl dX1_puts_22 ?_
          exact ⟨rfl, rfl⟩
      · have mn := (mf_n hT.1).1
        have me := (mf_n hT.1).2.1
        have m2 := (mf_n hT.1).2.2
        have mr := mf_r hT.1
        have mL := mf_L hT.1
        refine cnV okX2_puts 1 rfl ?_
        show Ev ks mX2_puts 0 [some (.inr 103), some (.inl (nI j)), some (.inl c), none] [] M _
        refine ev_aload_n0 dX2_puts_0 ?_
        refine ev_iload_n1 dX2_puts_1 ?_
        refine ev_cV1f okX2_isSite lkX2_78 (Nat.le_of_ble_eq_true rfl) (Nat.le_of_ble_eq_true rfl) (hM 103 rfl) isO_103 (c_X2_isSite hM mn h2 h4) dX2_puts_2 ?_
        first | refine ev_if_eqB 18 (by decide) dX2_puts_5 (fun h5 => by rw [hq] at h5; cases h5) (fun h5 => ?_)
        refine ev_iload_n2 dX2_puts_8 ?_
        refine ev_c0 dX2_puts_9 ?_
        refine ev_bipush (nI 99) kb_99 dX2_puts_10 ?_
        refine ev_cS3f okX2_in lkX2_43 (Nat.le_of_ble_eq_true rfl) (Nat.le_of_ble_eq_true rfl) c_X2_in dX2_puts_12 ?_
        first | refine ev_if_neB 20 (by decide) dX2_puts_15 (fun h15 => by rw [isS_in (by omega), hc] at h15; cases h15) (fun h15 => ?_)
        refine ev_cm1 dX2_puts_18 ?_
        refine ev_ireturn rfl dX2_puts_19 ?_
        exact ⟨rfl, rfl⟩
    | true =>
      obtain ⟨c, hc9, rfl⟩ := (isS_iff (by omega)).mp hc
      have hLj := hL (nn C) j (by omega) (by omega)
      have hWn : W 0 0 = nI (nn C) := by rw [w0 0 (by omega)]; exact hn
      have hWL : W 6 (nn C * 4 + j) = nI (wr C (nn C) j) := by rw [w0 6 (by omega)]; exact hLj.1
      rcases Nat.lt_or_ge (wr C (nn C) j) 8 with h8 | h8
      · refine ⟨nI (wr C (nn C) j), wrW W (nn C) (nn C) j (wr C (nn C) j) (nI c) (-9) (nI 0), ?_, fun k hk => by rw [wrW_o (by omega), wM k hk], fun M hT => ⟨sr (noteS M u) 104 (wrM (noteS M u 104) (nn C) j (wr C (nn C) j) (nI c) (-9) (nI 0)), ?_, fun k hk => by rw [sr_n (by omega), noteS_o hk], ?_⟩⟩
        · refine cnV okX1_puts 1 rfl ?_
          show Ev ks mX1_puts 0 [some (.inr 96), some (.inl (nI j)), some (.inl (nI c)), none] [] C _
          refine ev_aload_n0 dX1_puts_0 ?_
          refine gfX1_12 rfl (hC 96 rfl) dX1_puts_1 ?_
          refine ev_iload_n1 dX1_puts_4 ?_
          refine ev_cV1f okX0_isSite lkX1_50 (Nat.le_of_ble_eq_true rfl) (Nat.le_of_ble_eq_true rfl) (hC 0 rfl) isO_0 (c_X0_isSite hW hn) dX1_puts_5 ?_
          first | refine ev_if_eqB 21 (by decide) dX1_puts_8 (fun h8 => by rw [hq] at h8; cases h8) (fun h8 => ?_)
          refine ev_iload_n2 dX1_puts_11 ?_
          refine ev_if_ltN 21 (by omega) (by decide) dX1_puts_12 ?_
          refine ev_iload_n2 dX1_puts_15 ?_
          refine ev_bipush (nI 99) kb_99 dX1_puts_16 ?_
          first | refine ev_icmp_leN 23 (by omega) (by omega) (by decide) dX1_puts_18 (fun h18 => ?_) (fun h18 => by omega)
          refine ev_aload_n0 dX1_puts_23 ?_
          refine gfX1_12 rfl (hC 96 rfl) dX1_puts_24 ?_
          refine ev_aload_n0 dX1_puts_27 ?_
          refine gfX1_12 rfl (hC 96 rfl) dX1_puts_28 ?_
          refine gfX1_54 rfl (hC 0 rfl) dX1_puts_31 ?_
          rw [hn]
          refine ev_iload_n1 dX1_puts_34 ?_
          refine ev_cV2f okX0_lettersOn lkX1_57 (Nat.le_of_ble_eq_true rfl) (Nat.le_of_ble_eq_true rfl) (hC 0 rfl) isO_0 (c_X0_lettersOn hW (by omega) (by omega)) dX1_puts_35 ?_
          rw [hLj.1]
          refine ev_istore_n3 dX1_puts_38 ?_
          refine ev_iload_n3 dX1_puts_39 ?_
          refine ev_bipush (nI 8) kb_8 dX1_puts_40 ?_
          first | refine ev_icmp_ltN 48 (by omega) (by omega) (by decide) dX1_puts_42 (fun h42 => ?_) (fun h42 => by omega)
          refine ev_aload_n0 dX1_puts_48 ?_
          refine ev_cV0v okX1_remember lkX1_36 (Nat.le_of_ble_eq_true rfl) (Nat.le_of_ble_eq_true rfl) (hC 96 rfl) isO_96 hrem dX1_puts_49 ?_
          refine ev_aload_n0 dX1_puts_52 ?_
          refine gfX1_12 rfl (hC 96 rfl) dX1_puts_53 ?_
          refine ev_aload_n0 dX1_puts_56 ?_
          refine gfX1_12 rfl (hC 96 rfl) dX1_puts_57 ?_
          refine gfX1_54 rfl (hC 0 rfl) dX1_puts_60 ?_
          rw [hWn]
          refine ev_iload_n1 dX1_puts_63 ?_
          refine ev_iload_n2 dX1_puts_64 ?_
          refine ev_bipush (-9 : Int32) kb_m9 dX1_puts_65 ?_
          refine ev_c0 dX1_puts_67 ?_
          refine ev_cV5v okX0_write lkX1_61 (Nat.le_of_ble_eq_true rfl) (Nat.le_of_ble_eq_true rfl) (hC 0 rfl) isO_0 (c_X0_write hW hWn h4 (by omega) (by omega) hWL (by omega) (Nat.le_refl _)) dX1_puts_68 ?_
          refine ev_iload_n3 dX1_puts_71 ?_
          refine ev_ireturn rfl dX1_puts_72 ?_
          exact ⟨rfl, rfl⟩
        · have mn := (mf_n hT.1).1
          have me := (mf_n hT.1).2.1
          have m2 := (mf_n hT.1).2.2
          have mr := mf_r hT.1
          have mL := mf_L hT.1
          have mLj := (mL (nn C) j (by omega) (by omega)).1
          have hZL : noteS M u 104 (123 + (4 * nn C + j)) = nI (wr C (nn C) j) := mLj
          have hlt : sr (noteS M u) 104 (wrM (noteS M u 104) (nn C) j (wr C (nn C) j) (nI c) (-9) (nI 0)) 104 (123 + (4 * nn C + j)) = nI (wr C (nn C) j + 1) := by rw [sr_s]; exact upd_s _ _ _
          refine cnV okX2_puts 1 rfl ?_
          show Ev ks mX2_puts 0 [some (.inr 103), some (.inl (nI j)), some (.inl (nI c)), none] [] M _
          refine ev_aload_n0 dX2_puts_0 ?_
          refine ev_iload_n1 dX2_puts_1 ?_
          refine ev_cV1f okX2_isSite lkX2_78 (Nat.le_of_ble_eq_true rfl) (Nat.le_of_ble_eq_true rfl) (hM 103 rfl) isO_103 (c_X2_isSite hM mn h2 h4) dX2_puts_2 ?_
          first | refine ev_if_eqB 18 (by decide) dX2_puts_5 (fun h5 => by rw [hq] at h5; cases h5) (fun h5 => ?_)
          refine ev_iload_n2 dX2_puts_8 ?_
          refine ev_c0 dX2_puts_9 ?_
          refine ev_bipush (nI 99) kb_99 dX2_puts_10 ?_
          refine ev_cS3f okX2_in lkX2_43 (Nat.le_of_ble_eq_true rfl) (Nat.le_of_ble_eq_true rfl) c_X2_in dX2_puts_12 ?_
          first | refine ev_if_neB 20 (by decide) dX2_puts_15 (fun h15 => ?_) (fun h15 => by rw [isS_in (by omega), hc] at h15; cases h15)
          refine ev_aload_n0 dX2_puts_20 ?_
          refine ev_cV0f okX2_many lkX2_82 (Nat.le_of_ble_eq_true rfl) (Nat.le_of_ble_eq_true rfl) (hM 103 rfl) isO_103 (c_X2_many hM mn) dX2_puts_21 ?_
          refine ev_istore_n3 dX2_puts_24 ?_
          refine ev_aload_n0 dX2_puts_25 ?_
          refine ev_iload_n3 dX2_puts_26 ?_
          refine ev_iload_n1 dX2_puts_27 ?_
          refine ev_cV2f okX2_letters lkX2_62 (Nat.le_of_ble_eq_true rfl) (Nat.le_of_ble_eq_true rfl) (hM 103 rfl) isO_103 (c_X2_letters hM (by omega) (by omega)) dX2_puts_28 ?_
          rw [mLj]
          refine ev_bipush (nI 8) kb_8 dX2_puts_31 ?_
          first | refine ev_icmp_neN 39 (by omega) (by omega) (by decide) dX2_puts_33 (fun h33 => ?_) (fun h33 => by omega)
          refine ev_aload_n0 dX2_puts_39 ?_
          refine ev_cV0v okX2_note lkX2_72 (Nat.le_of_ble_eq_true rfl) (Nat.le_of_ble_eq_true rfl) (hM 103 rfl) isO_103 (c_X2_note hM (hTW M hT).1 hu5) dX2_puts_40 ?_
          refine ev_aload_n0 dX2_puts_43 ?_
          refine ev_iload_n3 dX2_puts_44 ?_
          refine ev_iload_n1 dX2_puts_45 ?_
          refine ev_iload_n2 dX2_puts_46 ?_
          refine ev_bipush (-9 : Int32) kb_m9 dX2_puts_47 ?_
          refine ev_c0 dX2_puts_49 ?_
          refine ev_cV5v okX2_write lkX2_86 (Nat.le_of_ble_eq_true rfl) (Nat.le_of_ble_eq_true rfl) (hM 103 rfl) isO_103 (c_X2_write hM (by omega) (by omega) (Or.inl rfl) hZL (by omega)) dX2_puts_50 ?_
          refine ev_aload_n0 dX2_puts_53 ?_
          refine ev_iload_n3 dX2_puts_54 ?_
          refine ev_iload_n1 dX2_puts_55 ?_
          refine ev_cV2f okX2_letters lkX2_62 (Nat.le_of_ble_eq_true rfl) (Nat.le_of_ble_eq_true rfl) (hM 103 rfl) isO_103 (c_X2_letters hM (by omega) (by omega)) dX2_puts_56 ?_
          rw [hlt]
          refine ev_c1 dX2_puts_59 ?_
          first | refine ev_isubN (by omega) dX2_puts_60 ?_ | refine ev_isub dX2_puts_60 ?_
          refine ev_ireturn rfl dX2_puts_61 ?_
          exact ⟨by rw [Nat.add_sub_cancel], rfl⟩
        · have hTT := (hTW M hT).2
          have hc := Cpl_write hTT.1 (x := nn C) (y := j) (cc := c) (b := -9) (cs := nI 0) (by rw [hnn]; exact Nat.le_refl _) (by rw [hnn]; exact hj) (by omega) (by rw [hwr]; exact h8) (by omega) (Or.inl ⟨hnn.symm, rfl, nI_0⟩) (fun c hb => by rw [nI_0, b_0] at hb; cases hb)
          rw [hnn, hwr] at hc
          exact Top_set hTT hc (fun k a b => wrW_o a) (fun k a b c => sr_n c)
      · refine fn_read (-3) ?_ (fun M hT => ?_)
        · refine cnV okX1_puts 1 rfl ?_
          show Ev ks mX1_puts 0 [some (.inr 96), some (.inl (nI j)), some (.inl (nI c)), none] [] C _
          refine ev_aload_n0 dX1_puts_0 ?_
          refine gfX1_12 rfl (hC 96 rfl) dX1_puts_1 ?_
          refine ev_iload_n1 dX1_puts_4 ?_
          refine ev_cV1f okX0_isSite lkX1_50 (Nat.le_of_ble_eq_true rfl) (Nat.le_of_ble_eq_true rfl) (hC 0 rfl) isO_0 (c_X0_isSite hW hn) dX1_puts_5 ?_
          first | refine ev_if_eqB 21 (by decide) dX1_puts_8 (fun h8 => by rw [hq] at h8; cases h8) (fun h8 => ?_)
          refine ev_iload_n2 dX1_puts_11 ?_
          refine ev_if_ltN 21 (by omega) (by decide) dX1_puts_12 ?_
          refine ev_iload_n2 dX1_puts_15 ?_
          refine ev_bipush (nI 99) kb_99 dX1_puts_16 ?_
          first | refine ev_icmp_leN 23 (by omega) (by omega) (by decide) dX1_puts_18 (fun h18 => ?_) (fun h18 => by omega)
          refine ev_aload_n0 dX1_puts_23 ?_
          refine gfX1_12 rfl (hC 96 rfl) dX1_puts_24 ?_
          refine ev_aload_n0 dX1_puts_27 ?_
          refine gfX1_12 rfl (hC 96 rfl) dX1_puts_28 ?_
          refine gfX1_54 rfl (hC 0 rfl) dX1_puts_31 ?_
          rw [hn]
          refine ev_iload_n1 dX1_puts_34 ?_
          refine ev_cV2f okX0_lettersOn lkX1_57 (Nat.le_of_ble_eq_true rfl) (Nat.le_of_ble_eq_true rfl) (hC 0 rfl) isO_0 (c_X0_lettersOn hW (by omega) (by omega)) dX1_puts_35 ?_
          rw [hLj.1]
          refine ev_istore_n3 dX1_puts_38 ?_
          refine ev_iload_n3 dX1_puts_39 ?_
          refine ev_bipush (nI 8) kb_8 dX1_puts_40 ?_
          first | refine ev_icmp_ltN 48 (by omega) (by omega) (by decide) dX1_puts_42 (fun h42 => by omega) (fun h42 => ?_)
          refine ev_bipush (-3 : Int32) kb_m3 dX1_puts_45 ?_
          refine ev_ireturn rfl dX1_puts_47 ?_
          exact ⟨rfl, rfl⟩
        · have mn := (mf_n hT.1).1
          have me := (mf_n hT.1).2.1
          have m2 := (mf_n hT.1).2.2
          have mr := mf_r hT.1
          have mL := mf_L hT.1
          have mLj := mL (nn C) j (by omega) (by omega)
          refine cnV okX2_puts 1 rfl ?_
          show Ev ks mX2_puts 0 [some (.inr 103), some (.inl (nI j)), some (.inl (nI c)), none] [] M _
          refine ev_aload_n0 dX2_puts_0 ?_
          refine ev_iload_n1 dX2_puts_1 ?_
          refine ev_cV1f okX2_isSite lkX2_78 (Nat.le_of_ble_eq_true rfl) (Nat.le_of_ble_eq_true rfl) (hM 103 rfl) isO_103 (c_X2_isSite hM mn h2 h4) dX2_puts_2 ?_
          first | refine ev_if_eqB 18 (by decide) dX2_puts_5 (fun h5 => by rw [hq] at h5; cases h5) (fun h5 => ?_)
          refine ev_iload_n2 dX2_puts_8 ?_
          refine ev_c0 dX2_puts_9 ?_
          refine ev_bipush (nI 99) kb_99 dX2_puts_10 ?_
          refine ev_cS3f okX2_in lkX2_43 (Nat.le_of_ble_eq_true rfl) (Nat.le_of_ble_eq_true rfl) c_X2_in dX2_puts_12 ?_
          first | refine ev_if_neB 20 (by decide) dX2_puts_15 (fun h15 => ?_) (fun h15 => by rw [isS_in (by omega), hc] at h15; cases h15)
          refine ev_aload_n0 dX2_puts_20 ?_
          refine ev_cV0f okX2_many lkX2_82 (Nat.le_of_ble_eq_true rfl) (Nat.le_of_ble_eq_true rfl) (hM 103 rfl) isO_103 (c_X2_many hM mn) dX2_puts_21 ?_
          refine ev_istore_n3 dX2_puts_24 ?_
          refine ev_aload_n0 dX2_puts_25 ?_
          refine ev_iload_n3 dX2_puts_26 ?_
          refine ev_iload_n1 dX2_puts_27 ?_
          refine ev_cV2f okX2_letters lkX2_62 (Nat.le_of_ble_eq_true rfl) (Nat.le_of_ble_eq_true rfl) (hM 103 rfl) isO_103 (c_X2_letters hM (by omega) (by omega)) dX2_puts_28 ?_
          rw [mLj.1]
          refine ev_bipush (nI 8) kb_8 dX2_puts_31 ?_
          first | refine ev_icmp_neN 39 (by omega) (by omega) (by decide) dX2_puts_33 (fun h33 => by omega) (fun h33 => ?_)
          refine ev_bipush (-3 : Int32) kb_m3 dX2_puts_36 ?_
          refine ev_ireturn rfl dX2_puts_38 ?_
          exact ⟨rfl, rfl⟩
theorem op_crashes {ks : List Nat} (hC : InC ks) (hM : InM ks) {q : Int32} : Op ks mX1_crashes yX1_crashes mX2_crashes yX2_crashes [.inl q] := by
  refine op_fn (fun C hI hX => ?_)
  have hW : InW ks := hC.w
  obtain ⟨⟨hn, h2, h4⟩, he, he1, he4⟩ := wf_n hI
  have hr := wf_r hI
  have hL := wf_L hI
  obtain ⟨M0, hM0⟩ := id hX
  obtain ⟨u, ne, hu5, hne, eu, en, -⟩ := hM0.2.1
  obtain ⟨W, hWd⟩ : ∃ W, W = remS C ne u := ⟨_, rfl⟩
  have hrem : Cn ks mX1_remember yX1_remember [.inr 96] C (Rv W) := by rw [hWd]; exact c_X1_remember hC eu en hu5 hne
  have hTW : ∀ M, Top C M → M 103 2 = nI u ∧ Top W (noteS M u) := fun M hT => by rw [hWd]; exact Top_rem hT hu5 hne eu en
  have w0 : ∀ k, k < 12 → W k = C k := fun k hk => by rw [hWd]; exact remS_o hne (Or.inl hk) (by omega)
  have wM : ∀ k, 103 ≤ k → W k = C k := fun k hk => by rw [hWd]; exact remS_o hne (Or.inr (by omega)) (by omega)
  have hIW : Inv W := (hTW M0 hM0).2.1.1
  have hnn : nn W = nn C := by unfold nn; rw [w0 0 (by omega)]
  have hee : ee W = ee C := by unfold ee; rw [w0 0 (by omega)]
  have hrc : rc W = rc C := by funext q; unfold rc; rw [w0 1 (by omega)]
  have hwr : wr W = wr C := by funext x y; unfold wr; rw [w0 6 (by omega)]
  have htk : tk W = tk C := by funext q x r; unfold tk; rw [w0 2 (by omega)]
  clear hWd
  cases hq : isS (nn C) q with
  | false =>
    refine fn_read (-1) ?_ (fun M hT => ?_)
    · refine cnV okX1_crashes 0 rfl ?_
      show Ev ks mX1_crashes 0 [some (.inr 96), some (.inl q)] [] C _
      refine ev_aload_n0 dX1_crashes_0 ?_
      refine gfX1_12 rfl (hC 96 rfl) dX1_crashes_1 ?_
      refine ev_iload_n1 dX1_crashes_4 ?_
      refine ev_cV1f okX0_isSite lkX1_50 (Nat.le_of_ble_eq_true rfl) (Nat.le_of_ble_eq_true rfl) (hC 0 rfl) isO_0 (c_X0_isSite hW hn) dX1_crashes_5 ?_
      first | refine ev_if_neB 13 (by decide) dX1_crashes_8 (fun h8 => by rw [hq] at h8; cases h8) (fun h8 => ?_)
      refine ev_cm1 dX1_crashes_11 ?_
      refine ev_ireturn rfl dX1_crashes_12 ?_
      exact ⟨rfl, rfl⟩
    · have mn := (mf_n hT.1).1
      have me := (mf_n hT.1).2.1
      have m2 := (mf_n hT.1).2.2
      have mr := mf_r hT.1
      have mL := mf_L hT.1
      refine cnV okX2_crashes 1 rfl ?_
      show Ev ks mX2_crashes 0 [some (.inr 103), some (.inl q), none] [] M _
      refine ev_aload_n0 dX2_crashes_0 ?_
      refine ev_iload_n1 dX2_crashes_1 ?_
      refine ev_cV1f okX2_isSite lkX2_78 (Nat.le_of_ble_eq_true rfl) (Nat.le_of_ble_eq_true rfl) (hM 103 rfl) isO_103 (c_X2_isSite hM mn h2 h4) dX2_crashes_2 ?_
      first | refine ev_if_neB 10 (by decide) dX2_crashes_5 (fun h5 => by rw [hq] at h5; cases h5) (fun h5 => ?_)
      refine ev_cm1 dX2_crashes_8 ?_
      refine ev_ireturn rfl dX2_crashes_9 ?_
      exact ⟨rfl, rfl⟩
  | true =>
    obtain ⟨j, hj, rfl⟩ := (isS_iff (by omega)).mp hq
    cases hd : bt (C 0 2) j with
    | true =>
      refine fn_read (-2) ?_ (fun M hT => ?_)
      · refine cnV okX1_crashes 0 rfl ?_
        show Ev ks mX1_crashes 0 [some (.inr 96), some (.inl (nI j))] [] C _
        refine ev_aload_n0 dX1_crashes_0 ?_
        refine gfX1_12 rfl (hC 96 rfl) dX1_crashes_1 ?_
        refine ev_iload_n1 dX1_crashes_4 ?_
        refine ev_cV1f okX0_isSite lkX1_50 (Nat.le_of_ble_eq_true rfl) (Nat.le_of_ble_eq_true rfl) (hC 0 rfl) isO_0 (c_X0_isSite hW hn) dX1_crashes_5 ?_
        first | refine ev_if_neB 13 (by decide) dX1_crashes_8 (fun h8 => ?_) (fun h8 => by rw [hq] at h8; cases h8)
        refine ev_aload_n0 dX1_crashes_13 ?_
        refine gfX1_12 rfl (hC 96 rfl) dX1_crashes_14 ?_
        refine ev_iload_n1 dX1_crashes_17 ?_
        refine ev_cV1f okX0_isDown lkX1_69 (Nat.le_of_ble_eq_true rfl) (Nat.le_of_ble_eq_true rfl) (hC 0 rfl) isO_0 (c_X0_isDown hW (by omega)) dX1_crashes_18 ?_
        first | refine ev_if_eqB 27 (by decide) dX1_crashes_21 (fun h21 => by rw [hd] at h21; cases h21) (fun h21 => ?_)
        refine ev_bipush (-2 : Int32) kb_m2 dX1_crashes_24 ?_
        refine ev_ireturn rfl dX1_crashes_26 ?_
        exact ⟨rfl, rfl⟩
      · have mn := (mf_n hT.1).1
        have me := (mf_n hT.1).2.1
        have m2 := (mf_n hT.1).2.2
        have mr := mf_r hT.1
        have mL := mf_L hT.1
        refine cnV okX2_crashes 1 rfl ?_
        show Ev ks mX2_crashes 0 [some (.inr 103), some (.inl (nI j)), none] [] M _
        refine ev_aload_n0 dX2_crashes_0 ?_
        refine ev_iload_n1 dX2_crashes_1 ?_
        refine ev_cV1f okX2_isSite lkX2_78 (Nat.le_of_ble_eq_true rfl) (Nat.le_of_ble_eq_true rfl) (hM 103 rfl) isO_103 (c_X2_isSite hM mn h2 h4) dX2_crashes_2 ?_
        first | refine ev_if_neB 10 (by decide) dX2_crashes_5 (fun h5 => ?_) (fun h5 => by rw [hq] at h5; cases h5)
        refine ev_aload_n0 dX2_crashes_10 ?_
        refine ev_iload_n1 dX2_crashes_11 ?_
        refine ev_cV1f okX2_isDown lkX2_96 (Nat.le_of_ble_eq_true rfl) (Nat.le_of_ble_eq_true rfl) (hM 103 rfl) isO_103 (c_X2_isDown hM (by omega)) dX2_crashes_12 ?_
        first | refine ev_if_eqB 21 (by decide) dX2_crashes_15 (fun h15 => by rw [m2, hd] at h15; cases h15) (fun h15 => ?_)
        refine ev_bipush (-2 : Int32) kb_m2 dX2_crashes_18 ?_
        refine ev_ireturn rfl dX2_crashes_20 ?_
        exact ⟨rfl, rfl⟩
    | false =>
      refine ⟨nI (pcn (C 0 2 ||| nI 1 <<< (nI j &&& 31))), sr (st W 0 2 (W 0 2 ||| nI 1 <<< (nI j &&& 31))) 11 (fun i => if j * 4 ≤ i ∧ i < j * 4 + 4 then 0 else W 11 i), ?_, fun k hk => by rw [sr_n (by omega), st_n, sr_n (by omega), wM k hk], fun M hT => ⟨sr (noteS M u) 104 (seg (fun _ => 0) (upd (upd (noteS M u 104) 2 (noteS M u 104 2 ||| nI 1 <<< (nI j &&& 31))) (103 + j) 0) (107 + 4 * j) 4), ?_, fun k hk => by rw [sr_n (by omega), noteS_o hk], ?_⟩⟩
      · have ew : sr (st W 0 2 (W 0 2 ||| nI 1 <<< (nI j &&& 31))) 11 (fun i => if j * 4 ≤ i ∧ i < j * 4 + 4 then 0 else W 11 i) 0 2 = C 0 2 ||| nI 1 <<< (nI j &&& 31) := by
          show W 0 2 ||| nI 1 <<< (nI j &&& 31) = _
          rw [w0 0 (by omega)]
        refine cnV okX1_crashes 0 rfl ?_
        show Ev ks mX1_crashes 0 [some (.inr 96), some (.inl (nI j))] [] C _
        refine ev_aload_n0 dX1_crashes_0 ?_
        refine gfX1_12 rfl (hC 96 rfl) dX1_crashes_1 ?_
        refine ev_iload_n1 dX1_crashes_4 ?_
        refine ev_cV1f okX0_isSite lkX1_50 (Nat.le_of_ble_eq_true rfl) (Nat.le_of_ble_eq_true rfl) (hC 0 rfl) isO_0 (c_X0_isSite hW hn) dX1_crashes_5 ?_
        first | refine ev_if_neB 13 (by decide) dX1_crashes_8 (fun h8 => ?_) (fun h8 => by rw [hq] at h8; cases h8)
        refine ev_aload_n0 dX1_crashes_13 ?_
        refine gfX1_12 rfl (hC 96 rfl) dX1_crashes_14 ?_
        refine ev_iload_n1 dX1_crashes_17 ?_
        refine ev_cV1f okX0_isDown lkX1_69 (Nat.le_of_ble_eq_true rfl) (Nat.le_of_ble_eq_true rfl) (hC 0 rfl) isO_0 (c_X0_isDown hW (by omega)) dX1_crashes_18 ?_
        first | refine ev_if_eqB 27 (by decide) dX1_crashes_21 (fun h21 => ?_) (fun h21 => by rw [hd] at h21; cases h21)
        refine ev_aload_n0 dX1_crashes_27 ?_
        refine ev_cV0v okX1_remember lkX1_36 (Nat.le_of_ble_eq_true rfl) (Nat.le_of_ble_eq_true rfl) (hC 96 rfl) isO_96 hrem dX1_crashes_28 ?_
        refine ev_aload_n0 dX1_crashes_31 ?_
        refine gfX1_12 rfl (hC 96 rfl) dX1_crashes_32 ?_
        refine ev_iload_n1 dX1_crashes_35 ?_
        refine ev_cV1v okX0_crash lkX1_85 (Nat.le_of_ble_eq_true rfl) (Nat.le_of_ble_eq_true rfl) (hC 0 rfl) isO_0 (c_X0_crash hW (by omega)) dX1_crashes_36 ?_
        refine ev_aload_n0 dX1_crashes_39 ?_
        refine gfX1_12 rfl (hC 96 rfl) dX1_crashes_40 ?_
        refine gfX1_89 rfl (hC 0 rfl) dX1_crashes_43 ?_
        rw [ew]
        refine ev_cS1f okJ6_bitCount_0f7a4 lkX1_92 (Nat.le_of_ble_eq_true rfl) (Nat.le_of_ble_eq_true rfl) c_J6_bitCount_0f7a4 dX1_crashes_46 ?_
        refine ev_ireturn rfl dX1_crashes_49 ?_
        exact ⟨rfl, rfl⟩
      · have mn := (mf_n hT.1).1
        have me := (mf_n hT.1).2.1
        have m2 := (mf_n hT.1).2.2
        have mr := mf_r hT.1
        have mL := mf_L hT.1
        have hZ2 : noteS M u 104 2 = C 0 2 := m2
        obtain ⟨B, hB⟩ : ∃ B, B = upd (upd (noteS M u 104) 2 (noteS M u 104 2 ||| nI 1 <<< (nI j &&& 31))) (103 + j) 0 := ⟨_, rfl⟩
        rw [← hB]
        have hB2 : ∀ k, seg (fun _ => 0) B (107 + 4 * j) k 2 = C 0 2 ||| nI 1 <<< (nI j &&& 31) := fun k => by rw [seg_o (by omega), hB, upd_n (by omega), upd_s, hZ2]
        have loop : ∀ f k, k + f = 4 → Ev ks mX2_crashes 49 [some (.inr 103), some (.inl (nI j)), some (.inl (nI k))] [] (sr (noteS M u) 104 (seg (fun _ => 0) B (107 + 4 * j) k)) (Ri (nI (pcn (C 0 2 ||| nI 1 <<< (nI j &&& 31)))) (sr (noteS M u) 104 (seg (fun _ => 0) B (107 + 4 * j) 4))) := by
          intro f
          induction f with
          | zero =>
            intro k hk
            obtain rfl : k = 4 := by omega
            refine ev_iload_n2 dX2_crashes_49 ?_
            refine ev_c4 dX2_crashes_50 ?_
            first | refine ev_icmp_geN 74 (by omega) (by omega) (by decide) dX2_crashes_51 (fun h51 => ?_) (fun h51 => by omega)
            refine ev_aload_n0 dX2_crashes_74 ?_
            refine gfX2_7 rfl (hM 103 rfl) dX2_crashes_75 ?_
            refine ev_c2 dX2_crashes_78 ?_
            refine ev_iald 1263 rfl rfl (hM 104 rfl) (by omega) dX2_crashes_79 ?_
            rw [sr_s, hB2]
            refine ev_cS1f okX2_bits lkX2_112 (Nat.le_of_ble_eq_true rfl) (Nat.le_of_ble_eq_true rfl) c_X2_bits dX2_crashes_80 ?_
            refine ev_ireturn rfl dX2_crashes_83 ?_
            exact ⟨rfl, rfl⟩
          | succ f ih =>
            intro k hk
            refine ev_iload_n2 dX2_crashes_49 ?_
            refine ev_c4 dX2_crashes_50 ?_
            first | refine ev_icmp_geN 74 (by omega) (by omega) (by decide) dX2_crashes_51 (fun h51 => by omega) (fun h51 => ?_)
            refine ev_aload_n0 dX2_crashes_54 ?_
            refine gfX2_7 rfl (hM 103 rfl) dX2_crashes_55 ?_
            refine ev_bipush (nI 107) kb_107 dX2_crashes_58 ?_
            refine ev_c4 dX2_crashes_60 ?_
            refine ev_iload_n1 dX2_crashes_61 ?_
            first | refine ev_imulN dX2_crashes_62 ?_ | refine ev_imul dX2_crashes_62 ?_
            first | refine ev_iaddN dX2_crashes_63 ?_ | refine ev_iadd dX2_crashes_63 ?_
            refine ev_iload_n2 dX2_crashes_64 ?_
            first | refine ev_iaddN dX2_crashes_65 ?_ | refine ev_iadd dX2_crashes_65 ?_
            refine ev_c0 dX2_crashes_66 ?_
            refine ev_iast 1263 rfl rfl (hM 104 rfl) (by omega) dX2_crashes_67 ?_
            refine ev_iinc2 dX2_crashes_68 ?_
            refine ev_goto 49 (by decide) dX2_crashes_71 ?_
            rw [st_sr, seg_s _ _ _ _ nI_0]
            exact ih (k + 1) (by omega)
        refine cnV okX2_crashes 1 rfl ?_
        show Ev ks mX2_crashes 0 [some (.inr 103), some (.inl (nI j)), none] [] M _
        refine ev_aload_n0 dX2_crashes_0 ?_
        refine ev_iload_n1 dX2_crashes_1 ?_
        refine ev_cV1f okX2_isSite lkX2_78 (Nat.le_of_ble_eq_true rfl) (Nat.le_of_ble_eq_true rfl) (hM 103 rfl) isO_103 (c_X2_isSite hM mn h2 h4) dX2_crashes_2 ?_
        first | refine ev_if_neB 10 (by decide) dX2_crashes_5 (fun h5 => ?_) (fun h5 => by rw [hq] at h5; cases h5)
        refine ev_aload_n0 dX2_crashes_10 ?_
        refine ev_iload_n1 dX2_crashes_11 ?_
        refine ev_cV1f okX2_isDown lkX2_96 (Nat.le_of_ble_eq_true rfl) (Nat.le_of_ble_eq_true rfl) (hM 103 rfl) isO_103 (c_X2_isDown hM (by omega)) dX2_crashes_12 ?_
        first | refine ev_if_eqB 21 (by decide) dX2_crashes_15 (fun h15 => ?_) (fun h15 => by rw [m2, hd] at h15; cases h15)
        refine ev_aload_n0 dX2_crashes_21 ?_
        refine ev_cV0v okX2_note lkX2_72 (Nat.le_of_ble_eq_true rfl) (Nat.le_of_ble_eq_true rfl) (hM 103 rfl) isO_103 (c_X2_note hM (hTW M hT).1 hu5) dX2_crashes_22 ?_
        refine ev_aload_n0 dX2_crashes_25 ?_
        refine gfX2_7 rfl (hM 103 rfl) dX2_crashes_26 ?_
        refine ev_c2 dX2_crashes_29 ?_
        refine ev_dup2 dX2_crashes_30 ?_
        refine ev_iald 1263 rfl rfl (hM 104 rfl) (by omega) dX2_crashes_31 ?_
        refine ev_c1 dX2_crashes_32 ?_
        refine ev_iload_n1 dX2_crashes_33 ?_
        refine ev_ishl dX2_crashes_34 ?_
        refine ev_ior dX2_crashes_35 ?_
        refine ev_iast 1263 rfl rfl (hM 104 rfl) (by omega) dX2_crashes_36 ?_
        rw [st_n]
        refine ev_aload_n0 dX2_crashes_37 ?_
        refine gfX2_7 rfl (hM 103 rfl) dX2_crashes_38 ?_
        refine ev_bipush (nI 103) kb_103 dX2_crashes_41 ?_
        refine ev_iload_n1 dX2_crashes_43 ?_
        first | refine ev_iaddN dX2_crashes_44 ?_ | refine ev_iadd dX2_crashes_44 ?_
        refine ev_c0 dX2_crashes_45 ?_
        refine ev_iast 1263 rfl rfl (hM 104 rfl) (by omega) dX2_crashes_46 ?_
        rw [st_sr, nI_0, ← hB]
        refine ev_c0 dX2_crashes_47 ?_
        refine ev_istore_n2 dX2_crashes_48 ?_
        have h := loop 4 0 rfl
        rw [seg_z] at h
        first | exact h | (rw [nI_0] at h; exact h)
      · have hTT := (hTW M hT).2
        exact Top_set hTT (Cpl_crash hTT.1 (q := j) (by rw [hnn]; exact hj)) (fun k a b => by rw [sr_n (by omega), st_n, sr_n (by omega)]) (fun k a b c => sr_n c)
theorem op_raises {ks : List Nat} (hC : InC ks) (hM : InM ks) : Op ks mX1_raises yX1_raises mX2_raises yX2_raises [] := by
  intro C hX
  obtain ⟨M00, hM00⟩ := id hX
  have hI := hM00.1.1
  have hW : InW ks := hC.w
  obtain ⟨⟨hn, h2, h4⟩, he, he1, he4⟩ := wf_n hI
  have hr := wf_r hI
  have hL := wf_L hI
  obtain ⟨M0, hM0⟩ := id hX
  obtain ⟨u, ne, hu5, hne, eu, en, -⟩ := hM0.2.1
  obtain ⟨W, hWd⟩ : ∃ W, W = remS C ne u := ⟨_, rfl⟩
  have hrem : Cn ks mX1_remember yX1_remember [.inr 96] C (Rv W) := by rw [hWd]; exact c_X1_remember hC eu en hu5 hne
  have hTW : ∀ M, Top C M → M 103 2 = nI u ∧ Top W (noteS M u) := fun M hT => by rw [hWd]; exact Top_rem hT hu5 hne eu en
  have w0 : ∀ k, k < 12 → W k = C k := fun k hk => by rw [hWd]; exact remS_o hne (Or.inl hk) (by omega)
  have wM : ∀ k, 103 ≤ k → W k = C k := fun k hk => by rw [hWd]; exact remS_o hne (Or.inr (by omega)) (by omega)
  have hIW : Inv W := (hTW M0 hM0).2.1.1
  have hnn : nn W = nn C := by unfold nn; rw [w0 0 (by omega)]
  have hee : ee W = ee C := by unfold ee; rw [w0 0 (by omega)]
  have hrc : rc W = rc C := by funext q; unfold rc; rw [w0 1 (by omega)]
  have hwr : wr W = wr C := by funext x y; unfold wr; rw [w0 6 (by omega)]
  have htk : tk W = tk C := by funext q x r; unfold tk; rw [w0 2 (by omega)]
  clear hWd
  have hW2 : W 0 2 = C 0 2 := by rw [w0 0 (by omega)]
  rcases Decidable.em (C 0 2 = 0) with hd | hd
  · refine ⟨-2, fun S' => S' = C, ?_, fun C' hC' k _ => by rw [hC'], fun M hT => ?_⟩
    · refine cnV okX1_raises 0 rfl ?_
      show Ev ks mX1_raises 0 [some (.inr 96)] [] C _
      refine ev_aload_n0 dX1_raises_0 ?_
      refine gfX1_12 rfl (hC 96 rfl) dX1_raises_1 ?_
      refine gfX1_89 rfl (hC 0 rfl) dX1_raises_4 ?_
      first | refine ev_if_ne 13 (by decide) dX1_raises_7 (fun h7 => by exact absurd hd h7) (fun h7 => ?_)
      refine ev_bipush (-2 : Int32) kb_m2 dX1_raises_10 ?_
      refine ev_ireturn rfl dX1_raises_12 ?_
      exact ⟨rfl, rfl⟩
    · have mn := (mf_n hT.1).1
      have me := (mf_n hT.1).2.1
      have m2 := (mf_n hT.1).2.2
      have mr := mf_r hT.1
      have mL := mf_L hT.1
      refine Cn.mono (Q := Ri (-2) M) ?_ (fun r S' hr => ⟨hr.1, fun k _ => by rw [hr.2], fun C' hC' => by rw [hr.2, hC']; exact hT⟩)
      refine cnV okX2_raises 6 rfl ?_
      show Ev ks mX2_raises 0 [some (.inr 103), none, none, none, none, none, none] [] M _
      refine ev_aload_n0 dX2_raises_0 ?_
      refine gfX2_7 rfl (hM 103 rfl) dX2_raises_1 ?_
      refine ev_c2 dX2_raises_4 ?_
      refine ev_iald 1263 rfl rfl (hM 104 rfl) (by omega) dX2_raises_5 ?_
      first | refine ev_if_ne 12 (by decide) dX2_raises_6 (fun h6 => by rw [m2] at h6; exact absurd hd h6) (fun h6 => ?_)
      refine ev_bipush (-2 : Int32) kb_m2 dX2_raises_9 ?_
      refine ev_ireturn rfl dX2_raises_11 ?_
      exact ⟨rfl, rfl⟩
  · refine ⟨nI (fb_sm (fun q => rc W q - kcn W (W 0 2) q) (nn W)), RW W, ?_, ?_, fun M hT => ?_⟩
    · refine cnV okX1_raises 0 rfl ?_
      show Ev ks mX1_raises 0 [some (.inr 96)] [] C _
      refine ev_aload_n0 dX1_raises_0 ?_
      refine gfX1_12 rfl (hC 96 rfl) dX1_raises_1 ?_
      refine gfX1_89 rfl (hC 0 rfl) dX1_raises_4 ?_
      first | refine ev_if_ne 13 (by decide) dX1_raises_7 (fun h7 => ?_) (fun h7 => by exact absurd h7 hd)
      refine ev_aload_n0 dX1_raises_13 ?_
      refine ev_cV0v okX1_remember lkX1_36 (Nat.le_of_ble_eq_true rfl) (Nat.le_of_ble_eq_true rfl) (hC 96 rfl) isO_96 hrem dX1_raises_14 ?_
      refine ev_aload_n0 dX1_raises_17 ?_
      refine gfX1_12 rfl (hC 96 rfl) dX1_raises_18 ?_
      refine ev_cV0p okX0_raiseAll lkX1_97 (Nat.le_of_ble_eq_true rfl) (Nat.le_of_ble_eq_true rfl) (hC 0 rfl) isO_0 (c_X0_raiseAll hW hIW) dX1_raises_21 (fun S21 hS21 => ?_)
      refine ev_ireturn rfl dX1_raises_24 ?_
      exact ⟨rfl, hS21⟩
    · intro C' hC' k hk
      obtain ⟨T1, R', hq, -, rfl⟩ := hC'
      rw [st_n, sr_n (by omega), sr_n (by omega), hq.1 k (by omega) (by omega) (by omega) (by omega), wM k hk]
    · have hTT := (hTW M hT).2
      have hX2 : Cpl W (M 104) := hTT.1
      have m2 := (mf_n hX2).2.2
      have e := c_X2_raises hM (hTW M hT).1 hu5 (by rw [m2, hW2]; exact hd) (mf_n hX2).1 (by rw [hnn]; exact h4) (mf_r hX2) (mf_B hX2) (mf_G hX2 (M 104 2)) (mf_L hX2) (mf_b hX2)
      rw [m2] at e
      refine e.mono (fun r S' hr => ⟨hr.1, ?_, ?_⟩)
      · obtain ⟨m', rfl, -⟩ := hr.2
        intro k hk
        rw [sr_n (by omega), sr_n (by omega), noteS_o hk]
      · obtain ⟨m', rfl, hRM⟩ := hr.2
        intro C' hC'
        refine Top_set hTT (Cpl_raise hX2 hC' hRM) (fun k a b => ?_) (fun k a b c => by rw [sr_n c, sr_n (by omega)])
        obtain ⟨T1, R', hq, -, rfl⟩ := hC'
        rw [st_n, sr_n (by omega), sr_n (by omega), hq.1 k (by omega) (by omega) (by omega) (by omega)]
