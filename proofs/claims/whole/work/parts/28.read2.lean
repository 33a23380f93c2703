theorem isW_iff {n : Nat} (hn : n < 2147483647) {x y : Int32} : isW n x y = true ↔ ∃ a b : Nat, a ≤ n ∧ b < n ∧ a ≠ b ∧ x = nI a ∧ y = nI b := by
  unfold isW
  rw [Bool.and_eq_true, Bool.and_eq_true, isS_iff (by omega), isS_iff (by omega), decide_eq_true_eq]
  constructor
  · rintro ⟨⟨⟨b, hb, rfl⟩, a, ha, rfl⟩, hne⟩
    exact ⟨a, b, by omega, hb, fun h => hne (by rw [h]), rfl, rfl⟩
  · rintro ⟨a, b, ha, hb, hne, rfl, rfl⟩
    refine ⟨⟨⟨b, hb, rfl⟩, a, by omega, rfl⟩, fun h => hne ?_⟩
    have := congrArg tn h
    rw [tn_nI (by omega), tn_nI (by omega)] at this
    exact this
theorem i_nat (x : Int32) : x < 0 ∨ ∃ k : Nat, k < 2147483648 ∧ x = nI k := by
  rcases Decidable.em (x < 0) with h | h
  · exact Or.inl h
  · refine Or.inr ⟨x.toInt.toNat, ?_, ?_⟩
    · have := x.toInt_lt
      omega
    · have h0 : 0 ≤ x.toInt := by
        rw [Int32.lt_iff_toInt_lt] at h
        have : (0 : Int32).toInt = 0 := rfl
        omega
      have hl := x.toInt_lt
      apply Int32.toInt_inj.mp
      rw [nI_toInt (by omega)]
      omega
theorem isS_out {n : Nat} (hn : n < 2147483647) {q : Int32} (h : isS (n + 1) q = false) (h0 : ¬ q < 0) (h1 : q ≤ nI n) : False := by
  rw [← isS_in hn, nI_0] at h
  have : 0 ≤ q := Int32.not_lt.mp h0
  simp [this, h1] at h
theorem isS_out' {n : Nat} {q : Int32} (h : isS n q = false) (h0 : ¬ q < 0) (h1 : q < nI n) : False := by
  have : 0 ≤ q := Int32.not_lt.mp h0
  unfold isS at h
  simp [this, h1] at h
theorem mf_past {w : St} {m : Nat → Int32} (h : Cpl w m) {q r : Nat} (hq : q < nn w) (hr : r < rc w q) : Lfp (nn w) (rc w) (bir w) (8 * q + r) (w 5 (q * 8 + r)) := past_lfp h.1 hq hr
theorem kni_mk {w : St} {m : Nat → Int32} (h : Cpl w m) {p c : Nat} (hp : p < 4) (hc : c < 32) : kni (m (107 + 4 * p + c / 8)) c = mk (fun s => bt (w 11 (p * 4 + s)) c) (nn w) := by
  have h4 := h.1.1.1.2.2
  refine b_ext (fun i hi => ?_)
  rw [b_kni, b_mk _ _ (by omega)]
  by_cases h1 : i < 4
  · rw [h.2.2.2.2.2.1 p i c hp h1 hc]
    by_cases h2 : i < nn w
    · simp [h1, h2]
    · have : bt (w 11 (p * 4 + i)) c = false := by
        cases hb : bt (w 11 (p * 4 + i)) c with
        | false => rfl
        | true => exact absurd (h.1.2.2.2.2.2.2.2.1 p i c hp h1 hb).2.1 h2
      rw [this]
      simp
  · have : ¬ i < nn w := by omega
    simp [h1, this]
theorem op_knows {ks : List Nat} (hC : InC ks) (hM : InM ks) {q c : Int32} : Op ks mX1_knows yX1_knows mX2_knows yX2_knows [.inl q, .inl c] := by
  refine op_read (fun C hI _ => ?_)
  have hW : InW ks := hC.w
  obtain ⟨⟨hn, h2, h4⟩, he, he1, he4⟩ := wf_n hI
  have hr := wf_r hI
  have hL := wf_L hI
  cases hq : isS (nn C) q with
  | false =>
    refine ⟨-1, ?_, fun M hT => ?_⟩
    · refine cnV okX1_knows 0 rfl ?_
      show Ev ks mX1_knows 0 [some (.inr 96), some (.inl q), some (.inl c)] [] C _
      refine ev_aload_n0 dX1_knows_0 ?_
      refine gfX1_12 rfl (hC 96 rfl) dX1_knows_1 ?_
      refine ev_iload_n1 dX1_knows_4 ?_
      refine ev_cV1f okX0_isSite lkX1_50 (Nat.le_of_ble_eq_true rfl) (Nat.le_of_ble_eq_true rfl) (hC 0 rfl) isO_0 (c_X0_isSite hW hn) dX1_knows_5 ?_
      first | refine ev_if_eqB 21 (by decide) dX1_knows_8 (fun h8 => ?_) (fun h8 => by rw [hq] at h8; cases h8)
      refine ev_cm1 dX1_knows_21 ?_
      refine ev_ireturn rfl dX1_knows_22 ?_
      exact ⟨rfl, rfl⟩
    · have mn := (mf_n hT.1).1
      have me := (mf_n hT.1).2.1
      have m2 := (mf_n hT.1).2.2
      have mr := mf_r hT.1
      have mL := mf_L hT.1
      refine cnV okX2_knows 0 rfl ?_
      show Ev ks mX2_knows 0 [some (.inr 103), some (.inl q), some (.inl c)] [] M _
      refine ev_aload_n0 dX2_knows_0 ?_
      refine ev_iload_n1 dX2_knows_1 ?_
      refine ev_cV1f okX2_isSite lkX2_78 (Nat.le_of_ble_eq_true rfl) (Nat.le_of_ble_eq_true rfl) (hM 103 rfl) isO_103 (c_X2_isSite hM mn h2 h4) dX2_knows_2 ?_
      first | refine ev_if_eqB 27 (by decide) dX2_knows_5 (fun h5 => ?_) (fun h5 => by rw [hq] at h5; cases h5)
      refine ev_cm1 dX2_knows_27 ?_
      refine ev_ireturn rfl dX2_knows_28 ?_
      exact ⟨rfl, rfl⟩
  | true =>
    obtain ⟨j, hj, rfl⟩ := (isS_iff (by omega)).mp hq
    cases hc : isS 32 c with
    | false =>
      refine ⟨-1, ?_, fun M hT => ?_⟩
      · refine cnV okX1_knows 0 rfl ?_
        show Ev ks mX1_knows 0 [some (.inr 96), some (.inl (nI j)), some (.inl c)] [] C _
        refine ev_aload_n0 dX1_knows_0 ?_
        refine gfX1_12 rfl (hC 96 rfl) dX1_knows_1 ?_
        refine ev_iload_n1 dX1_knows_4 ?_
        refine ev_cV1f okX0_isSite lkX1_50 (Nat.le_of_ble_eq_true rfl) (Nat.le_of_ble_eq_true rfl) (hC 0 rfl) isO_0 (c_X0_isSite hW hn) dX1_knows_5 ?_
        first | refine ev_if_eqB 21 (by decide) dX1_knows_8 (fun h8 => by rw [hq] at h8; cases h8) (fun h8 => ?_)
        refine ev_iload_n2 dX1_knows_11 ?_
        first | refine ev_if_lt 21 (by decide) dX1_knows_12 (fun h12 => ?_) (fun h12 => ?_)
        · refine ev_cm1 dX1_knows_21 ?_
          refine ev_ireturn rfl dX1_knows_22 ?_
          exact ⟨rfl, rfl⟩
        · refine ev_iload_n2 dX1_knows_15 ?_
          refine ev_bipush (nI 32) kb_32 dX1_knows_16 ?_
          first | refine ev_icmp_lt 23 (by decide) dX1_knows_18 (fun h18 => by exact (isS_out' hc h12 h18).elim) (fun h18 => ?_)
          refine ev_cm1 dX1_knows_21 ?_
          refine ev_ireturn rfl dX1_knows_22 ?_
          exact ⟨rfl, rfl⟩
      · have mn := (mf_n hT.1).1
        have me := (mf_n hT.1).2.1
        have m2 := (mf_n hT.1).2.2
        have mr := mf_r hT.1
        have mL := mf_L hT.1
        refine cnV okX2_knows 0 rfl ?_
        show Ev ks mX2_knows 0 [some (.inr 103), some (.inl (nI j)), some (.inl c)] [] M _
        refine ev_aload_n0 dX2_knows_0 ?_
        refine ev_iload_n1 dX2_knows_1 ?_
        refine ev_cV1f okX2_isSite lkX2_78 (Nat.le_of_ble_eq_true rfl) (Nat.le_of_ble_eq_true rfl) (hM 103 rfl) isO_103 (c_X2_isSite hM mn h2 h4) dX2_knows_2 ?_
        first | refine ev_if_eqB 27 (by decide) dX2_knows_5 (fun h5 => by rw [hq] at h5; cases h5) (fun h5 => ?_)
        refine ev_iload_n2 dX2_knows_8 ?_
        refine ev_c0 dX2_knows_9 ?_
        refine ev_bipush (nI 31) kb_31 dX2_knows_10 ?_
        refine ev_cS3f okX2_in lkX2_43 (Nat.le_of_ble_eq_true rfl) (Nat.le_of_ble_eq_true rfl) c_X2_in dX2_knows_12 ?_
        first | refine ev_if_eqB 27 (by decide) dX2_knows_15 (fun h15 => ?_) (fun h15 => by rw [isS_in (by omega)] at h15; rw [hc] at h15; cases h15)
        refine ev_cm1 dX2_knows_27 ?_
        refine ev_ireturn rfl dX2_knows_28 ?_
        exact ⟨rfl, rfl⟩
    | true =>
      obtain ⟨i, hi, rfl⟩ := (isS_iff (by omega)).mp hc
      refine ⟨mk (fun s => bt (C 11 (j * 4 + s)) i) (nn C), ?_, fun M hT => ?_⟩
      · refine cnV okX1_knows 0 rfl ?_
        show Ev ks mX1_knows 0 [some (.inr 96), some (.inl (nI j)), some (.inl (nI i))] [] C _
        refine ev_aload_n0 dX1_knows_0 ?_
        refine gfX1_12 rfl (hC 96 rfl) dX1_knows_1 ?_
        refine ev_iload_n1 dX1_knows_4 ?_
        refine ev_cV1f okX0_isSite lkX1_50 (Nat.le_of_ble_eq_true rfl) (Nat.le_of_ble_eq_true rfl) (hC 0 rfl) isO_0 (c_X0_isSite hW hn) dX1_knows_5 ?_
        first | refine ev_if_eqB 21 (by decide) dX1_knows_8 (fun h8 => by rw [hq] at h8; cases h8) (fun h8 => ?_)
        refine ev_iload_n2 dX1_knows_11 ?_
        refine ev_if_ltN 21 (by omega) (by decide) dX1_knows_12 ?_
        refine ev_iload_n2 dX1_knows_15 ?_
        refine ev_bipush (nI 32) kb_32 dX1_knows_16 ?_
        first | refine ev_icmp_ltN 23 (by omega) (by omega) (by decide) dX1_knows_18 (fun h18 => ?_) (fun h18 => by omega)
        refine ev_aload_n0 dX1_knows_23 ?_
        refine gfX1_12 rfl (hC 96 rfl) dX1_knows_24 ?_
        refine ev_iload_n1 dX1_knows_27 ?_
        refine ev_iload_n2 dX1_knows_28 ?_
        refine ev_cV2f okX0_holdersKnown lkX1_157 (Nat.le_of_ble_eq_true rfl) (Nat.le_of_ble_eq_true rfl) (hC 0 rfl) isO_0 (c_X0_holdersKnown hW hn h4 (by omega) (by omega)) dX1_knows_29 ?_
        refine ev_ireturn rfl dX1_knows_32 ?_
        exact ⟨rfl, rfl⟩
      · have mn := (mf_n hT.1).1
        have me := (mf_n hT.1).2.1
        have m2 := (mf_n hT.1).2.2
        have mr := mf_r hT.1
        have mL := mf_L hT.1
        refine cnV okX2_knows 0 rfl ?_
        show Ev ks mX2_knows 0 [some (.inr 103), some (.inl (nI j)), some (.inl (nI i))] [] M _
        refine ev_aload_n0 dX2_knows_0 ?_
        refine ev_iload_n1 dX2_knows_1 ?_
        refine ev_cV1f okX2_isSite lkX2_78 (Nat.le_of_ble_eq_true rfl) (Nat.le_of_ble_eq_true rfl) (hM 103 rfl) isO_103 (c_X2_isSite hM mn h2 h4) dX2_knows_2 ?_
        first | refine ev_if_eqB 27 (by decide) dX2_knows_5 (fun h5 => by rw [hq] at h5; cases h5) (fun h5 => ?_)
        refine ev_iload_n2 dX2_knows_8 ?_
        refine ev_c0 dX2_knows_9 ?_
        refine ev_bipush (nI 31) kb_31 dX2_knows_10 ?_
        refine ev_cS3f okX2_in lkX2_43 (Nat.le_of_ble_eq_true rfl) (Nat.le_of_ble_eq_true rfl) c_X2_in dX2_knows_12 ?_
        first | refine ev_if_eqB 27 (by decide) dX2_knows_15 (fun h15 => by rw [isS_in (by omega)] at h15; rw [hc] at h15; cases h15) (fun h15 => ?_)
        refine ev_aload_n0 dX2_knows_18 ?_
        refine ev_iload_n1 dX2_knows_19 ?_
        refine ev_iload_n2 dX2_knows_20 ?_
        refine ev_cV2f okX2_knownBy lkX2_106 (Nat.le_of_ble_eq_true rfl) (Nat.le_of_ble_eq_true rfl) (hM 103 rfl) isO_103 (c_X2_knownBy hM (by omega) (by omega)) dX2_knows_21 ?_
        refine ev_goto 28 (by decide) dX2_knows_24 ?_
        refine ev_ireturn rfl dX2_knows_28 ?_
        exact ⟨by rw [kni_mk hT.1 (by omega) hi], rfl⟩
theorem op_past {ks : List Nat} (hC : InC ks) (hM : InM ks) {q r i : Int32} : Op ks mX1_past yX1_past mX2_past yX2_past [.inl q, .inl r, .inl i] := by
  refine op_read (fun C hI _ => ?_)
  have hW : InW ks := hC.w
  obtain ⟨⟨hn, h2, h4⟩, he, he1, he4⟩ := wf_n hI
  have hr := wf_r hI
  have hL := wf_L hI
  cases hq : isS (nn C) q && isS (rc C (tn q)) r with
  | false =>
    refine ⟨-1, ?_, fun M hT => ?_⟩
    · refine cnV okX1_past 0 rfl ?_
      show Ev ks mX1_past 0 [some (.inr 96), some (.inl q), some (.inl r), some (.inl i)] [] C _
      refine ev_aload_n0 dX1_past_0 ?_
      refine gfX1_12 rfl (hC 96 rfl) dX1_past_1 ?_
      refine ev_iload_n1 dX1_past_4 ?_
      refine ev_iload_n2 dX1_past_5 ?_
      refine ev_cV2f okX0_isReceipt lkX1_117 (Nat.le_of_ble_eq_true rfl) (Nat.le_of_ble_eq_true rfl) (hC 0 rfl) isO_0 (c_X0_isReceipt hW hn h4 hr) dX1_past_6 ?_
      first | refine ev_if_eqB 16 (by decide) dX1_past_9 (fun h9 => ?_) (fun h9 => by rw [hq] at h9; cases h9)
      refine ev_cm1 dX1_past_16 ?_
      refine ev_ireturn rfl dX1_past_17 ?_
      exact ⟨rfl, rfl⟩
    · have mn := (mf_n hT.1).1
      have me := (mf_n hT.1).2.1
      have m2 := (mf_n hT.1).2.2
      have mr := mf_r hT.1
      have mL := mf_L hT.1
      refine cnV okX2_past 0 rfl ?_
      show Ev ks mX2_past 0 [some (.inr 103), some (.inl q), some (.inl r), some (.inl i)] [] M _
      refine ev_aload_n0 dX2_past_0 ?_
      refine ev_iload_n1 dX2_past_1 ?_
      refine ev_iload_n2 dX2_past_2 ?_
      refine ev_cV2f okX2_isReceipt lkX2_146 (Nat.le_of_ble_eq_true rfl) (Nat.le_of_ble_eq_true rfl) (hM 103 rfl) isO_103 (c_X2_isReceipt hM mn h2 h4 mr) dX2_past_3 ?_
      first | refine ev_if_eqB 26 (by decide) dX2_past_6 (fun h6 => ?_) (fun h6 => by rw [hq] at h6; cases h6)
      refine ev_cm1 dX2_past_26 ?_
      refine ev_ireturn rfl dX2_past_27 ?_
      exact ⟨rfl, rfl⟩
  | true =>
    obtain ⟨hq1, hr1⟩ := Bool.and_eq_true_iff.mp hq
    obtain ⟨j, hj, rfl⟩ := (isS_iff (by omega)).mp hq1
    rw [tn_nI (by omega)] at hr1
    have h8 := (hr j hj).2
    obtain ⟨t, ht, rfl⟩ := (isS_iff (by omega)).mp hr1
    rcases i_nat i with hi | ⟨i, hi, rfl⟩
    · refine ⟨-1, ?_, fun M hT => ?_⟩
      · refine cnV okX1_past 0 rfl ?_
        show Ev ks mX1_past 0 [some (.inr 96), some (.inl (nI j)), some (.inl (nI t)), some (.inl i)] [] C _
        refine ev_aload_n0 dX1_past_0 ?_
        refine gfX1_12 rfl (hC 96 rfl) dX1_past_1 ?_
        refine ev_iload_n1 dX1_past_4 ?_
        refine ev_iload_n2 dX1_past_5 ?_
        refine ev_cV2f okX0_isReceipt lkX1_117 (Nat.le_of_ble_eq_true rfl) (Nat.le_of_ble_eq_true rfl) (hC 0 rfl) isO_0 (c_X0_isReceipt hW hn h4 hr) dX1_past_6 ?_
        first | refine ev_if_eqB 16 (by decide) dX1_past_9 (fun h9 => by rw [hq] at h9; cases h9) (fun h9 => ?_)
        refine ev_iload_n3 dX1_past_12 ?_
        first | refine ev_if_ge 18 (by decide) dX1_past_13 (fun h13 => by exact absurd hi (Int32.not_lt.mpr h13)) (fun h13 => ?_)
        refine ev_cm1 dX1_past_16 ?_
        refine ev_ireturn rfl dX1_past_17 ?_
        exact ⟨rfl, rfl⟩
      · have mn := (mf_n hT.1).1
        have me := (mf_n hT.1).2.1
        have m2 := (mf_n hT.1).2.2
        have mr := mf_r hT.1
        have mL := mf_L hT.1
        refine cnV okX2_past 0 rfl ?_
        show Ev ks mX2_past 0 [some (.inr 103), some (.inl (nI j)), some (.inl (nI t)), some (.inl i)] [] M _
        refine ev_aload_n0 dX2_past_0 ?_
        refine ev_iload_n1 dX2_past_1 ?_
        refine ev_iload_n2 dX2_past_2 ?_
        refine ev_cV2f okX2_isReceipt lkX2_146 (Nat.le_of_ble_eq_true rfl) (Nat.le_of_ble_eq_true rfl) (hM 103 rfl) isO_103 (c_X2_isReceipt hM mn h2 h4 mr) dX2_past_3 ?_
        first | refine ev_if_eqB 26 (by decide) dX2_past_6 (fun h6 => by rw [hq] at h6; cases h6) (fun h6 => ?_)
        refine ev_iload_n3 dX2_past_9 ?_
        first | refine ev_if_lt 26 (by decide) dX2_past_10 (fun h10 => ?_) (fun h10 => by exact absurd hi h10)
        refine ev_cm1 dX2_past_26 ?_
        refine ev_ireturn rfl dX2_past_27 ?_
        exact ⟨rfl, rfl⟩
    · refine ⟨nth (C 5 (j * 8 + t)) i, ?_, fun M hT => ?_⟩
      · refine cnV okX1_past 0 rfl ?_
        show Ev ks mX1_past 0 [some (.inr 96), some (.inl (nI j)), some (.inl (nI t)), some (.inl (nI i))] [] C _
        refine ev_aload_n0 dX1_past_0 ?_
        refine gfX1_12 rfl (hC 96 rfl) dX1_past_1 ?_
        refine ev_iload_n1 dX1_past_4 ?_
        refine ev_iload_n2 dX1_past_5 ?_
        refine ev_cV2f okX0_isReceipt lkX1_117 (Nat.le_of_ble_eq_true rfl) (Nat.le_of_ble_eq_true rfl) (hC 0 rfl) isO_0 (c_X0_isReceipt hW hn h4 hr) dX1_past_6 ?_
        first | refine ev_if_eqB 16 (by decide) dX1_past_9 (fun h9 => by rw [hq] at h9; cases h9) (fun h9 => ?_)
        refine ev_iload_n3 dX1_past_12 ?_
        refine ev_if_geN 18 (by omega) (by decide) dX1_past_13 ?_
        refine ev_aload_n0 dX1_past_18 ?_
        refine gfX1_12 rfl (hC 96 rfl) dX1_past_19 ?_
        refine gfX1_138 rfl (hC 0 rfl) dX1_past_22 ?_
        refine ev_iload_n1 dX1_past_25 ?_
        refine ev_iload_n2 dX1_past_26 ?_
        refine ev_cS2f okX0_codeOf lkX1_120 (Nat.le_of_ble_eq_true rfl) (Nat.le_of_ble_eq_true rfl) c_X0_codeOf dX1_past_27 ?_
        refine ev_iald 32 rfl rfl (hC 5 rfl) (by omega) dX1_past_30 ?_
        refine ev_iload_n3 dX1_past_31 ?_
        refine ev_cS2f okX1_numberAt lkX1_154 (Nat.le_of_ble_eq_true rfl) (Nat.le_of_ble_eq_true rfl) (c_X1_numberAt (by omega)) dX1_past_32 ?_
        refine ev_ireturn rfl dX1_past_35 ?_
        exact ⟨rfl, rfl⟩
      · have mn := (mf_n hT.1).1
        have me := (mf_n hT.1).2.1
        have m2 := (mf_n hT.1).2.2
        have mr := mf_r hT.1
        have mL := mf_L hT.1
        refine cnV okX2_past 0 rfl ?_
        show Ev ks mX2_past 0 [some (.inr 103), some (.inl (nI j)), some (.inl (nI t)), some (.inl (nI i))] [] M _
        refine ev_aload_n0 dX2_past_0 ?_
        refine ev_iload_n1 dX2_past_1 ?_
        refine ev_iload_n2 dX2_past_2 ?_
        refine ev_cV2f okX2_isReceipt lkX2_146 (Nat.le_of_ble_eq_true rfl) (Nat.le_of_ble_eq_true rfl) (hM 103 rfl) isO_103 (c_X2_isReceipt hM mn h2 h4 mr) dX2_past_3 ?_
        first | refine ev_if_eqB 26 (by decide) dX2_past_6 (fun h6 => by rw [hq] at h6; cases h6) (fun h6 => ?_)
        refine ev_iload_n3 dX2_past_9 ?_
        refine ev_if_ltN 26 (by omega) (by decide) dX2_past_10 ?_
        refine ev_aload_n0 dX2_past_13 ?_
        refine ev_iload_n1 dX2_past_14 ?_
        refine ev_iload_n2 dX2_past_15 ?_
        refine ev_cV2f okX2_pastOf lkX2_152 (Nat.le_of_ble_eq_true rfl) (Nat.le_of_ble_eq_true rfl) (hM 103 rfl) isO_103 (c_X2_pastOf hM mn h4 mr (mf_B hT.1) hj ht (mf_past hT.1 hj ht)) dX2_past_16 ?_
        refine ev_iload_n3 dX2_past_19 ?_
        refine ev_cS2f okX2_nth lkX2_155 (Nat.le_of_ble_eq_true rfl) (Nat.le_of_ble_eq_true rfl) (c_X2_nth (by omega)) dX2_past_20 ?_
        refine ev_goto 27 (by decide) dX2_past_23 ?_
        refine ev_ireturn rfl dX2_past_27 ?_
        exact ⟨rfl, rfl⟩
theorem op_receipt {ks : List Nat} (hC : InC ks) (hM : InM ks) {q r a : Int32} : Op ks mX1_receipt yX1_receipt mX2_receipt yX2_receipt [.inl q, .inl r, .inl a] := by
  refine op_read (fun C hI _ => ?_)
  have hW : InW ks := hC.w
  obtain ⟨⟨hn, h2, h4⟩, he, he1, he4⟩ := wf_n hI
  have hr := wf_r hI
  have hL := wf_L hI
  cases hq : isS (nn C) q && isS (rc C (tn q)) r with
  | false =>
    refine ⟨-1, ?_, fun M hT => ?_⟩
    · refine cnV okX1_receipt 1 rfl ?_
      show Ev ks mX1_receipt 0 [some (.inr 96), some (.inl q), some (.inl r), some (.inl a), none] [] C _
      refine ev_aload_n0 dX1_receipt_0 ?_
      refine gfX1_12 rfl (hC 96 rfl) dX1_receipt_1 ?_
      refine ev_iload_n1 dX1_receipt_4 ?_
      refine ev_iload_n2 dX1_receipt_5 ?_
      refine ev_cV2f okX0_isReceipt lkX1_117 (Nat.le_of_ble_eq_true rfl) (Nat.le_of_ble_eq_true rfl) (hC 0 rfl) isO_0 (c_X0_isReceipt hW hn h4 hr) dX1_receipt_6 ?_
      first | refine ev_if_neB 14 (by decide) dX1_receipt_9 (fun h9 => by rw [hq] at h9; cases h9) (fun h9 => ?_)
      refine ev_cm1 dX1_receipt_12 ?_
      refine ev_ireturn rfl dX1_receipt_13 ?_
      exact ⟨rfl, rfl⟩
    · have mn := (mf_n hT.1).1
      have me := (mf_n hT.1).2.1
      have m2 := (mf_n hT.1).2.2
      have mr := mf_r hT.1
      have mL := mf_L hT.1
      refine cnV okX2_receipt 0 rfl ?_
      show Ev ks mX2_receipt 0 [some (.inr 103), some (.inl q), some (.inl r), some (.inl a)] [] M _
      refine ev_aload_n0 dX2_receipt_0 ?_
      refine ev_iload_n1 dX2_receipt_1 ?_
      refine ev_iload_n2 dX2_receipt_2 ?_
      refine ev_cV2f okX2_isReceipt lkX2_146 (Nat.le_of_ble_eq_true rfl) (Nat.le_of_ble_eq_true rfl) (hM 103 rfl) isO_103 (c_X2_isReceipt hM mn h2 h4 mr) dX2_receipt_3 ?_
      first | refine ev_if_neB 11 (by decide) dX2_receipt_6 (fun h6 => by rw [hq] at h6; cases h6) (fun h6 => ?_)
      refine ev_cm1 dX2_receipt_9 ?_
      refine ev_ireturn rfl dX2_receipt_10 ?_
      exact ⟨rfl, rfl⟩
  | true =>
    obtain ⟨hq1, hr1⟩ := Bool.and_eq_true_iff.mp hq
    obtain ⟨j, hj, rfl⟩ := (isS_iff (by omega)).mp hq1
    rw [tn_nI (by omega)] at hr1
    have h8 := (hr j hj).2
    obtain ⟨t, ht, rfl⟩ := (isS_iff (by omega)).mp hr1
    have e8 : 8 * j + t = j * 8 + t := by omega
    have hold : ∀ {M : St}, Top C M → mk (fun p => bt (M 104 (103 + p)) (8 * j + t)) (nn C) = mk (fun p => bt (C 11 (p * 4 + p)) (j * 8 + t)) (nn C) := fun hT => mk_cong (fun p hp => by rw [hT.1.2.2.2.2.1 p (by omega), e8])
    rcases sw_cases a 6 (by omega) with ⟨c, hc, rfl⟩ | ho
    · rcases (show c = 0 ∨ c = 1 ∨ c = 2 ∨ c = 3 ∨ c = 4 ∨ c = 5 by omega) with rfl | rfl | rfl | rfl | rfl | rfl
      · refine ⟨C 2 (j * 8 + t), ?_, fun M hT => ?_⟩
        · refine cnV okX1_receipt 1 rfl ?_
          show Ev ks mX1_receipt 0 [some (.inr 96), some (.inl (nI j)), some (.inl (nI t)), some (.inl (nI 0)), none] [] C _
          refine ev_aload_n0 dX1_receipt_0 ?_
          refine gfX1_12 rfl (hC 96 rfl) dX1_receipt_1 ?_
          refine ev_iload_n1 dX1_receipt_4 ?_
          refine ev_iload_n2 dX1_receipt_5 ?_
          refine ev_cV2f okX0_isReceipt lkX1_117 (Nat.le_of_ble_eq_true rfl) (Nat.le_of_ble_eq_true rfl) (hC 0 rfl) isO_0 (c_X0_isReceipt hW hn h4 hr) dX1_receipt_6 ?_
          first | refine ev_if_neB 14 (by decide) dX1_receipt_9 (fun h9 => ?_) (fun h9 => by rw [hq] at h9; cases h9)
          refine ev_iload_n1 dX1_receipt_14 ?_
          refine ev_iload_n2 dX1_receipt_15 ?_
          refine ev_cS2f okX0_codeOf lkX1_120 (Nat.le_of_ble_eq_true rfl) (Nat.le_of_ble_eq_true rfl) c_X0_codeOf dX1_receipt_16 ?_
          refine ev_istore4 dX1_receipt_19 ?_
          refine ev_iload_n3 dX1_receipt_21 ?_
          refine ev_tsIn 38 60 (by decide +kernel) (by decide +kernel) (by decide +kernel) (by decide) dX1_receipt_22 ?_
          refine ev_aload_n0 dX1_receipt_60 ?_
          refine gfX1_12 rfl (hC 96 rfl) dX1_receipt_61 ?_
          refine gfX1_123 rfl (hC 0 rfl) dX1_receipt_64 ?_
          refine ev_iload4 dX1_receipt_67 ?_
          refine ev_iald 32 rfl rfl (hC 2 rfl) (by omega) dX1_receipt_69 ?_
          refine ev_ireturn rfl dX1_receipt_70 ?_
          exact ⟨rfl, rfl⟩
        · have mn := (mf_n hT.1).1
          have me := (mf_n hT.1).2.1
          have m2 := (mf_n hT.1).2.2
          have mr := mf_r hT.1
          have mL := mf_L hT.1
          refine cnV okX2_receipt 0 rfl ?_
          show Ev ks mX2_receipt 0 [some (.inr 103), some (.inl (nI j)), some (.inl (nI t)), some (.inl (nI 0))] [] M _
          refine ev_aload_n0 dX2_receipt_0 ?_
          refine ev_iload_n1 dX2_receipt_1 ?_
          refine ev_iload_n2 dX2_receipt_2 ?_
          refine ev_cV2f okX2_isReceipt lkX2_146 (Nat.le_of_ble_eq_true rfl) (Nat.le_of_ble_eq_true rfl) (hM 103 rfl) isO_103 (c_X2_isReceipt hM mn h2 h4 mr) dX2_receipt_3 ?_
          first | refine ev_if_neB 11 (by decide) dX2_receipt_6 (fun h6 => ?_) (fun h6 => by rw [hq] at h6; cases h6)
          refine ev_iload_n3 dX2_receipt_11 ?_
          refine ev_tsIn 40 52 (by decide +kernel) (by decide +kernel) (by decide +kernel) (by decide) dX2_receipt_12 ?_
          refine ev_aload_n0 dX2_receipt_52 ?_
          refine ev_iload_n1 dX2_receipt_53 ?_
          refine ev_iload_n2 dX2_receipt_54 ?_
          refine ev_iload_n3 dX2_receipt_55 ?_
          refine ev_cV3f okX2_ofReceipt lkX2_51 (Nat.le_of_ble_eq_true rfl) (Nat.le_of_ble_eq_true rfl) (hM 103 rfl) isO_103 (c_X2_ofReceipt hM (by omega) (by omega) (by omega)) dX2_receipt_56 ?_
          refine ev_ireturn rfl dX2_receipt_59 ?_
          exact ⟨by rw [(hT.1.2.2.2.1 j t hj ht).1], rfl⟩
      · refine ⟨C 3 (j * 8 + t), ?_, fun M hT => ?_⟩
        · refine cnV okX1_receipt 1 rfl ?_
          show Ev ks mX1_receipt 0 [some (.inr 96), some (.inl (nI j)), some (.inl (nI t)), some (.inl (nI 1)), none] [] C _
          refine ev_aload_n0 dX1_receipt_0 ?_
          refine gfX1_12 rfl (hC 96 rfl) dX1_receipt_1 ?_
          refine ev_iload_n1 dX1_receipt_4 ?_
          refine ev_iload_n2 dX1_receipt_5 ?_
          refine ev_cV2f okX0_isReceipt lkX1_117 (Nat.le_of_ble_eq_true rfl) (Nat.le_of_ble_eq_true rfl) (hC 0 rfl) isO_0 (c_X0_isReceipt hW hn h4 hr) dX1_receipt_6 ?_
          first | refine ev_if_neB 14 (by decide) dX1_receipt_9 (fun h9 => ?_) (fun h9 => by rw [hq] at h9; cases h9)
          refine ev_iload_n1 dX1_receipt_14 ?_
          refine ev_iload_n2 dX1_receipt_15 ?_
          refine ev_cS2f okX0_codeOf lkX1_120 (Nat.le_of_ble_eq_true rfl) (Nat.le_of_ble_eq_true rfl) c_X0_codeOf dX1_receipt_16 ?_
          refine ev_istore4 dX1_receipt_19 ?_
          refine ev_iload_n3 dX1_receipt_21 ?_
          refine ev_tsIn 49 71 (by decide +kernel) (by decide +kernel) (by decide +kernel) (by decide) dX1_receipt_22 ?_
          refine ev_aload_n0 dX1_receipt_71 ?_
          refine gfX1_12 rfl (hC 96 rfl) dX1_receipt_72 ?_
          refine gfX1_126 rfl (hC 0 rfl) dX1_receipt_75 ?_
          refine ev_iload4 dX1_receipt_78 ?_
          refine ev_iald 32 rfl rfl (hC 3 rfl) (by omega) dX1_receipt_80 ?_
          refine ev_ireturn rfl dX1_receipt_81 ?_
          exact ⟨rfl, rfl⟩
        · have mn := (mf_n hT.1).1
          have me := (mf_n hT.1).2.1
          have m2 := (mf_n hT.1).2.2
          have mr := mf_r hT.1
          have mL := mf_L hT.1
          refine cnV okX2_receipt 0 rfl ?_
          show Ev ks mX2_receipt 0 [some (.inr 103), some (.inl (nI j)), some (.inl (nI t)), some (.inl (nI 1))] [] M _
          refine ev_aload_n0 dX2_receipt_0 ?_
          refine ev_iload_n1 dX2_receipt_1 ?_
          refine ev_iload_n2 dX2_receipt_2 ?_
          refine ev_cV2f okX2_isReceipt lkX2_146 (Nat.le_of_ble_eq_true rfl) (Nat.le_of_ble_eq_true rfl) (hM 103 rfl) isO_103 (c_X2_isReceipt hM mn h2 h4 mr) dX2_receipt_3 ?_
          first | refine ev_if_neB 11 (by decide) dX2_receipt_6 (fun h6 => ?_) (fun h6 => by rw [hq] at h6; cases h6)
          refine ev_iload_n3 dX2_receipt_11 ?_
          refine ev_tsIn 40 52 (by decide +kernel) (by decide +kernel) (by decide +kernel) (by decide) dX2_receipt_12 ?_
          refine ev_aload_n0 dX2_receipt_52 ?_
          refine ev_iload_n1 dX2_receipt_53 ?_
          refine ev_iload_n2 dX2_receipt_54 ?_
          refine ev_iload_n3 dX2_receipt_55 ?_
          refine ev_cV3f okX2_ofReceipt lkX2_51 (Nat.le_of_ble_eq_true rfl) (Nat.le_of_ble_eq_true rfl) (hM 103 rfl) isO_103 (c_X2_ofReceipt hM (by omega) (by omega) (by omega)) dX2_receipt_56 ?_
          refine ev_ireturn rfl dX2_receipt_59 ?_
          exact ⟨by rw [(hT.1.2.2.2.1 j t hj ht).2.1], rfl⟩
      · refine ⟨C 4 (j * 8 + t), ?_, fun M hT => ?_⟩
        · refine cnV okX1_receipt 1 rfl ?_
          show Ev ks mX1_receipt 0 [some (.inr 96), some (.inl (nI j)), some (.inl (nI t)), some (.inl (nI 2)), none] [] C _
          refine ev_aload_n0 dX1_receipt_0 ?_
          refine gfX1_12 rfl (hC 96 rfl) dX1_receipt_1 ?_
          refine ev_iload_n1 dX1_receipt_4 ?_
          refine ev_iload_n2 dX1_receipt_5 ?_
          refine ev_cV2f okX0_isReceipt lkX1_117 (Nat.le_of_ble_eq_true rfl) (Nat.le_of_ble_eq_true rfl) (hC 0 rfl) isO_0 (c_X0_isReceipt hW hn h4 hr) dX1_receipt_6 ?_
          first | refine ev_if_neB 14 (by decide) dX1_receipt_9 (fun h9 => ?_) (fun h9 => by rw [hq] at h9; cases h9)
          refine ev_iload_n1 dX1_receipt_14 ?_
          refine ev_iload_n2 dX1_receipt_15 ?_
          refine ev_cS2f okX0_codeOf lkX1_120 (Nat.le_of_ble_eq_true rfl) (Nat.le_of_ble_eq_true rfl) c_X0_codeOf dX1_receipt_16 ?_
          refine ev_istore4 dX1_receipt_19 ?_
          refine ev_iload_n3 dX1_receipt_21 ?_
          refine ev_tsIn 60 82 (by decide +kernel) (by decide +kernel) (by decide +kernel) (by decide) dX1_receipt_22 ?_
          refine ev_aload_n0 dX1_receipt_82 ?_
          refine gfX1_12 rfl (hC 96 rfl) dX1_receipt_83 ?_
          refine gfX1_129 rfl (hC 0 rfl) dX1_receipt_86 ?_
          refine ev_iload4 dX1_receipt_89 ?_
          refine ev_iald 32 rfl rfl (hC 4 rfl) (by omega) dX1_receipt_91 ?_
          refine ev_ireturn rfl dX1_receipt_92 ?_
          exact ⟨rfl, rfl⟩
        · have mn := (mf_n hT.1).1
          have me := (mf_n hT.1).2.1
          have m2 := (mf_n hT.1).2.2
          have mr := mf_r hT.1
          have mL := mf_L hT.1
          refine cnV okX2_receipt 0 rfl ?_
          show Ev ks mX2_receipt 0 [some (.inr 103), some (.inl (nI j)), some (.inl (nI t)), some (.inl (nI 2))] [] M _
          refine ev_aload_n0 dX2_receipt_0 ?_
          refine ev_iload_n1 dX2_receipt_1 ?_
          refine ev_iload_n2 dX2_receipt_2 ?_
          refine ev_cV2f okX2_isReceipt lkX2_146 (Nat.le_of_ble_eq_true rfl) (Nat.le_of_ble_eq_true rfl) (hM 103 rfl) isO_103 (c_X2_isReceipt hM mn h2 h4 mr) dX2_receipt_3 ?_
          first | refine ev_if_neB 11 (by decide) dX2_receipt_6 (fun h6 => ?_) (fun h6 => by rw [hq] at h6; cases h6)
          refine ev_iload_n3 dX2_receipt_11 ?_
          refine ev_tsIn 40 52 (by decide +kernel) (by decide +kernel) (by decide +kernel) (by decide) dX2_receipt_12 ?_
          refine ev_aload_n0 dX2_receipt_52 ?_
          refine ev_iload_n1 dX2_receipt_53 ?_
          refine ev_iload_n2 dX2_receipt_54 ?_
          refine ev_iload_n3 dX2_receipt_55 ?_
          refine ev_cV3f okX2_ofReceipt lkX2_51 (Nat.le_of_ble_eq_true rfl) (Nat.le_of_ble_eq_true rfl) (hM 103 rfl) isO_103 (c_X2_ofReceipt hM (by omega) (by omega) (by omega)) dX2_receipt_56 ?_
          refine ev_ireturn rfl dX2_receipt_59 ?_
          exact ⟨by rw [(hT.1.2.2.2.1 j t hj ht).2.2], rfl⟩
      · refine ⟨mk (fun p => bt (C 11 (p * 4 + p)) (j * 8 + t)) (nn C), ?_, fun M hT => ?_⟩
        · refine cnV okX1_receipt 1 rfl ?_
          show Ev ks mX1_receipt 0 [some (.inr 96), some (.inl (nI j)), some (.inl (nI t)), some (.inl (nI 3)), none] [] C _
          refine ev_aload_n0 dX1_receipt_0 ?_
          refine gfX1_12 rfl (hC 96 rfl) dX1_receipt_1 ?_
          refine ev_iload_n1 dX1_receipt_4 ?_
          refine ev_iload_n2 dX1_receipt_5 ?_
          refine ev_cV2f okX0_isReceipt lkX1_117 (Nat.le_of_ble_eq_true rfl) (Nat.le_of_ble_eq_true rfl) (hC 0 rfl) isO_0 (c_X0_isReceipt hW hn h4 hr) dX1_receipt_6 ?_
          first | refine ev_if_neB 14 (by decide) dX1_receipt_9 (fun h9 => ?_) (fun h9 => by rw [hq] at h9; cases h9)
          refine ev_iload_n1 dX1_receipt_14 ?_
          refine ev_iload_n2 dX1_receipt_15 ?_
          refine ev_cS2f okX0_codeOf lkX1_120 (Nat.le_of_ble_eq_true rfl) (Nat.le_of_ble_eq_true rfl) c_X0_codeOf dX1_receipt_16 ?_
          refine ev_istore4 dX1_receipt_19 ?_
          refine ev_iload_n3 dX1_receipt_21 ?_
          refine ev_tsIn 71 93 (by decide +kernel) (by decide +kernel) (by decide +kernel) (by decide) dX1_receipt_22 ?_
          refine ev_aload_n0 dX1_receipt_93 ?_
          refine gfX1_12 rfl (hC 96 rfl) dX1_receipt_94 ?_
          refine ev_iload4 dX1_receipt_97 ?_
          refine ev_cV1f okX0_holdersOf lkX1_132 (Nat.le_of_ble_eq_true rfl) (Nat.le_of_ble_eq_true rfl) (hC 0 rfl) isO_0 (c_X0_holdersOf hW hn h4 (by omega)) dX1_receipt_99 ?_
          refine ev_ireturn rfl dX1_receipt_102 ?_
          exact ⟨rfl, rfl⟩
        · have mn := (mf_n hT.1).1
          have me := (mf_n hT.1).2.1
          have m2 := (mf_n hT.1).2.2
          have mr := mf_r hT.1
          have mL := mf_L hT.1
          refine cnV okX2_receipt 0 rfl ?_
          show Ev ks mX2_receipt 0 [some (.inr 103), some (.inl (nI j)), some (.inl (nI t)), some (.inl (nI 3))] [] M _
          refine ev_aload_n0 dX2_receipt_0 ?_
          refine ev_iload_n1 dX2_receipt_1 ?_
          refine ev_iload_n2 dX2_receipt_2 ?_
          refine ev_cV2f okX2_isReceipt lkX2_146 (Nat.le_of_ble_eq_true rfl) (Nat.le_of_ble_eq_true rfl) (hM 103 rfl) isO_103 (c_X2_isReceipt hM mn h2 h4 mr) dX2_receipt_3 ?_
          first | refine ev_if_neB 11 (by decide) dX2_receipt_6 (fun h6 => ?_) (fun h6 => by rw [hq] at h6; cases h6)
          refine ev_iload_n3 dX2_receipt_11 ?_
          refine ev_tsIn 48 60 (by decide +kernel) (by decide +kernel) (by decide +kernel) (by decide) dX2_receipt_12 ?_
          refine ev_aload_n0 dX2_receipt_60 ?_
          refine ev_bipush (nI 8) kb_8 dX2_receipt_61 ?_
          refine ev_iload_n1 dX2_receipt_63 ?_
          first | refine ev_imulN dX2_receipt_64 ?_ | refine ev_imul dX2_receipt_64 ?_
          refine ev_iload_n2 dX2_receipt_65 ?_
          first | refine ev_iaddN dX2_receipt_66 ?_ | refine ev_iadd dX2_receipt_66 ?_
          refine ev_cV1f okX2_holders lkX2_143 (Nat.le_of_ble_eq_true rfl) (Nat.le_of_ble_eq_true rfl) (hM 103 rfl) isO_103 (c_X2_holders hM mn h4 (by omega)) dX2_receipt_67 ?_
          refine ev_ireturn rfl dX2_receipt_70 ?_
          exact ⟨by rw [hold hT], rfl⟩
      · refine ⟨bI (decide (ee C ≤ pcn (mk (fun p => bt (C 11 (p * 4 + p)) (j * 8 + t)) (nn C)))), ?_, fun M hT => ?_⟩
        · refine cnV okX1_receipt 1 rfl ?_
          show Ev ks mX1_receipt 0 [some (.inr 96), some (.inl (nI j)), some (.inl (nI t)), some (.inl (nI 4)), none] [] C _
          refine ev_aload_n0 dX1_receipt_0 ?_
          refine gfX1_12 rfl (hC 96 rfl) dX1_receipt_1 ?_
          refine ev_iload_n1 dX1_receipt_4 ?_
          refine ev_iload_n2 dX1_receipt_5 ?_
          refine ev_cV2f okX0_isReceipt lkX1_117 (Nat.le_of_ble_eq_true rfl) (Nat.le_of_ble_eq_true rfl) (hC 0 rfl) isO_0 (c_X0_isReceipt hW hn h4 hr) dX1_receipt_6 ?_
          first | refine ev_if_neB 14 (by decide) dX1_receipt_9 (fun h9 => ?_) (fun h9 => by rw [hq] at h9; cases h9)
          refine ev_iload_n1 dX1_receipt_14 ?_
          refine ev_iload_n2 dX1_receipt_15 ?_
          refine ev_cS2f okX0_codeOf lkX1_120 (Nat.le_of_ble_eq_true rfl) (Nat.le_of_ble_eq_true rfl) c_X0_codeOf dX1_receipt_16 ?_
          refine ev_istore4 dX1_receipt_19 ?_
          refine ev_iload_n3 dX1_receipt_21 ?_
          refine ev_tsIn 81 103 (by decide +kernel) (by decide +kernel) (by decide +kernel) (by decide) dX1_receipt_22 ?_
          refine ev_aload_n0 dX1_receipt_103 ?_
          refine gfX1_12 rfl (hC 96 rfl) dX1_receipt_104 ?_
          refine ev_iload4 dX1_receipt_107 ?_
          refine ev_cV1f okX0_isSafe lkX1_135 (Nat.le_of_ble_eq_true rfl) (Nat.le_of_ble_eq_true rfl) (hC 0 rfl) isO_0 (c_X0_isSafe hW hn h4 he he4 (by omega)) dX1_receipt_109 ?_
          first | refine ev_if_eqB 119 (by decide) dX1_receipt_112 (fun h112 => ?_) (fun h112 => ?_)
          · refine ev_c0 dX1_receipt_119 ?_
            refine ev_ireturn rfl dX1_receipt_120 ?_
            exact ⟨by rw [h112]; rfl, rfl⟩
          · refine ev_c1 dX1_receipt_115 ?_
            refine ev_goto 120 (by decide) dX1_receipt_116 ?_
            refine ev_ireturn rfl dX1_receipt_120 ?_
            exact ⟨by rw [h112]; rfl, rfl⟩
        · have mn := (mf_n hT.1).1
          have me := (mf_n hT.1).2.1
          have m2 := (mf_n hT.1).2.2
          have mr := mf_r hT.1
          have mL := mf_L hT.1
          refine cnV okX2_receipt 0 rfl ?_
          show Ev ks mX2_receipt 0 [some (.inr 103), some (.inl (nI j)), some (.inl (nI t)), some (.inl (nI 4))] [] M _
          refine ev_aload_n0 dX2_receipt_0 ?_
          refine ev_iload_n1 dX2_receipt_1 ?_
          refine ev_iload_n2 dX2_receipt_2 ?_
          refine ev_cV2f okX2_isReceipt lkX2_146 (Nat.le_of_ble_eq_true rfl) (Nat.le_of_ble_eq_true rfl) (hM 103 rfl) isO_103 (c_X2_isReceipt hM mn h2 h4 mr) dX2_receipt_3 ?_
          first | refine ev_if_neB 11 (by decide) dX2_receipt_6 (fun h6 => ?_) (fun h6 => by rw [hq] at h6; cases h6)
          refine ev_iload_n3 dX2_receipt_11 ?_
          refine ev_tsIn 59 71 (by decide +kernel) (by decide +kernel) (by decide +kernel) (by decide) dX2_receipt_12 ?_
          refine ev_aload_n0 dX2_receipt_71 ?_
          refine ev_iload_n1 dX2_receipt_72 ?_
          refine ev_iload_n2 dX2_receipt_73 ?_
          refine ev_cV2f okX2_isSafe lkX2_149 (Nat.le_of_ble_eq_true rfl) (Nat.le_of_ble_eq_true rfl) (hM 103 rfl) isO_103 (c_X2_isSafe hM mn h4 me he4 (by omega) (by omega)) dX2_receipt_74 ?_
          rw [hold hT]
          first | refine ev_if_eqB 84 (by decide) dX2_receipt_77 (fun h77 => ?_) (fun h77 => ?_)
          · refine ev_c0 dX2_receipt_84 ?_
            refine ev_ireturn rfl dX2_receipt_85 ?_
            exact ⟨by rw [h77]; rfl, rfl⟩
          · refine ev_c1 dX2_receipt_80 ?_
            refine ev_goto 85 (by decide) dX2_receipt_81 ?_
            refine ev_ireturn rfl dX2_receipt_85 ?_
            exact ⟨by rw [h77]; rfl, rfl⟩
      · refine ⟨nI (pcn (C 5 (j * 8 + t))), ?_, fun M hT => ?_⟩
        · refine cnV okX1_receipt 1 rfl ?_
          show Ev ks mX1_receipt 0 [some (.inr 96), some (.inl (nI j)), some (.inl (nI t)), some (.inl (nI 5)), none] [] C _
          refine ev_aload_n0 dX1_receipt_0 ?_
          refine gfX1_12 rfl (hC 96 rfl) dX1_receipt_1 ?_
          refine ev_iload_n1 dX1_receipt_4 ?_
          refine ev_iload_n2 dX1_receipt_5 ?_
          refine ev_cV2f okX0_isReceipt lkX1_117 (Nat.le_of_ble_eq_true rfl) (Nat.le_of_ble_eq_true rfl) (hC 0 rfl) isO_0 (c_X0_isReceipt hW hn h4 hr) dX1_receipt_6 ?_
          first | refine ev_if_neB 14 (by decide) dX1_receipt_9 (fun h9 => ?_) (fun h9 => by rw [hq] at h9; cases h9)
          refine ev_iload_n1 dX1_receipt_14 ?_
          refine ev_iload_n2 dX1_receipt_15 ?_
          refine ev_cS2f okX0_codeOf lkX1_120 (Nat.le_of_ble_eq_true rfl) (Nat.le_of_ble_eq_true rfl) c_X0_codeOf dX1_receipt_16 ?_
          refine ev_istore4 dX1_receipt_19 ?_
          refine ev_iload_n3 dX1_receipt_21 ?_
          refine ev_tsIn 99 121 (by decide +kernel) (by decide +kernel) (by decide +kernel) (by decide) dX1_receipt_22 ?_
          refine ev_aload_n0 dX1_receipt_121 ?_
          refine gfX1_12 rfl (hC 96 rfl) dX1_receipt_122 ?_
          refine gfX1_138 rfl (hC 0 rfl) dX1_receipt_125 ?_
          refine ev_iload4 dX1_receipt_128 ?_
          refine ev_iald 32 rfl rfl (hC 5 rfl) (by omega) dX1_receipt_130 ?_
          refine ev_cS1f okJ6_bitCount_0f7a4 lkX1_92 (Nat.le_of_ble_eq_true rfl) (Nat.le_of_ble_eq_true rfl) c_J6_bitCount_0f7a4 dX1_receipt_131 ?_
          refine ev_ireturn rfl dX1_receipt_134 ?_
          exact ⟨rfl, rfl⟩
        · have mn := (mf_n hT.1).1
          have me := (mf_n hT.1).2.1
          have m2 := (mf_n hT.1).2.2
          have mr := mf_r hT.1
          have mL := mf_L hT.1
          refine cnV okX2_receipt 0 rfl ?_
          show Ev ks mX2_receipt 0 [some (.inr 103), some (.inl (nI j)), some (.inl (nI t)), some (.inl (nI 5))] [] M _
          refine ev_aload_n0 dX2_receipt_0 ?_
          refine ev_iload_n1 dX2_receipt_1 ?_
          refine ev_iload_n2 dX2_receipt_2 ?_
          refine ev_cV2f okX2_isReceipt lkX2_146 (Nat.le_of_ble_eq_true rfl) (Nat.le_of_ble_eq_true rfl) (hM 103 rfl) isO_103 (c_X2_isReceipt hM mn h2 h4 mr) dX2_receipt_3 ?_
          first | refine ev_if_neB 11 (by decide) dX2_receipt_6 (fun h6 => ?_) (fun h6 => by rw [hq] at h6; cases h6)
          refine ev_iload_n3 dX2_receipt_11 ?_
          refine ev_tsIn 74 86 (by decide +kernel) (by decide +kernel) (by decide +kernel) (by decide) dX2_receipt_12 ?_
          refine ev_aload_n0 dX2_receipt_86 ?_
          refine ev_iload_n1 dX2_receipt_87 ?_
          refine ev_iload_n2 dX2_receipt_88 ?_
          refine ev_cV2f okX2_pastOf lkX2_152 (Nat.le_of_ble_eq_true rfl) (Nat.le_of_ble_eq_true rfl) (hM 103 rfl) isO_103 (c_X2_pastOf hM mn h4 mr (mf_B hT.1) hj ht (mf_past hT.1 hj ht)) dX2_receipt_89 ?_
          refine ev_cS1f okX2_bits lkX2_112 (Nat.le_of_ble_eq_true rfl) (Nat.le_of_ble_eq_true rfl) c_X2_bits dX2_receipt_92 ?_
          refine ev_ireturn rfl dX2_receipt_95 ?_
          exact ⟨rfl, rfl⟩
    · refine ⟨-1, ?_, fun M hT => ?_⟩
      · refine cnV okX1_receipt 1 rfl ?_
        show Ev ks mX1_receipt 0 [some (.inr 96), some (.inl (nI j)), some (.inl (nI t)), some (.inl a), none] [] C _
        refine ev_aload_n0 dX1_receipt_0 ?_
        refine gfX1_12 rfl (hC 96 rfl) dX1_receipt_1 ?_
        refine ev_iload_n1 dX1_receipt_4 ?_
        refine ev_iload_n2 dX1_receipt_5 ?_
        refine ev_cV2f okX0_isReceipt lkX1_117 (Nat.le_of_ble_eq_true rfl) (Nat.le_of_ble_eq_true rfl) (hC 0 rfl) isO_0 (c_X0_isReceipt hW hn h4 hr) dX1_receipt_6 ?_
        first | refine ev_if_neB 14 (by decide) dX1_receipt_9 (fun h9 => ?_) (fun h9 => by rw [hq] at h9; cases h9)
        refine ev_iload_n1 dX1_receipt_14 ?_
        refine ev_iload_n2 dX1_receipt_15 ?_
        refine ev_cS2f okX0_codeOf lkX1_120 (Nat.le_of_ble_eq_true rfl) (Nat.le_of_ble_eq_true rfl) c_X0_codeOf dX1_receipt_16 ?_
        refine ev_istore4 dX1_receipt_19 ?_
        refine ev_iload_n3 dX1_receipt_21 ?_
        refine ev_tsOut 135 ho (by decide) dX1_receipt_22 ?_
        refine ev_cm1 dX1_receipt_135 ?_
        refine ev_ireturn rfl dX1_receipt_136 ?_
        exact ⟨rfl, rfl⟩
      · have mn := (mf_n hT.1).1
        have me := (mf_n hT.1).2.1
        have m2 := (mf_n hT.1).2.2
        have mr := mf_r hT.1
        have mL := mf_L hT.1
        refine cnV okX2_receipt 0 rfl ?_
        show Ev ks mX2_receipt 0 [some (.inr 103), some (.inl (nI j)), some (.inl (nI t)), some (.inl a)] [] M _
        refine ev_aload_n0 dX2_receipt_0 ?_
        refine ev_iload_n1 dX2_receipt_1 ?_
        refine ev_iload_n2 dX2_receipt_2 ?_
        refine ev_cV2f okX2_isReceipt lkX2_146 (Nat.le_of_ble_eq_true rfl) (Nat.le_of_ble_eq_true rfl) (hM 103 rfl) isO_103 (c_X2_isReceipt hM mn h2 h4 mr) dX2_receipt_3 ?_
        first | refine ev_if_neB 11 (by decide) dX2_receipt_6 (fun h6 => ?_) (fun h6 => by rw [hq] at h6; cases h6)
        refine ev_iload_n3 dX2_receipt_11 ?_
        refine ev_tsOut 96 ho (by decide) dX2_receipt_12 ?_
        refine ev_cm1 dX2_receipt_96 ?_
        refine ev_ireturn rfl dX2_receipt_97 ?_
        exact ⟨rfl, rfl⟩
theorem op_letter {ks : List Nat} (hC : InC ks) (hM : InM ks) {x y k v : Int32} : Op ks mX1_letter yX1_letter mX2_letter yX2_letter [.inl x, .inl y, .inl k, .inl v] := by
  refine op_read (fun C hI _ => ?_)
  have hW : InW ks := hC.w
  obtain ⟨⟨hn, h2, h4⟩, he, he1, he4⟩ := wf_n hI
  have hr := wf_r hI
  have hL := wf_L hI
  cases hw : isW (nn C) x y with
  | false =>
    refine ⟨-1, ?_, fun M hT => ?_⟩
    · refine cnV okX1_letter 1 rfl ?_
      show Ev ks mX1_letter 0 [some (.inr 96), some (.inl x), some (.inl y), some (.inl k), some (.inl v), none] [] C _
      refine ev_aload_n0 dX1_letter_0 ?_
      refine gfX1_12 rfl (hC 96 rfl) dX1_letter_1 ?_
      refine ev_iload_n1 dX1_letter_4 ?_
      refine ev_iload_n2 dX1_letter_5 ?_
      refine ev_cV2f okX0_isWay lkX1_65 (Nat.le_of_ble_eq_true rfl) (Nat.le_of_ble_eq_true rfl) (hC 0 rfl) isO_0 (c_X0_isWay hW hn h4) dX1_letter_6 ?_
      first | refine ev_if_eqB 27 (by decide) dX1_letter_9 (fun h9 => ?_) (fun h9 => by rw [hw] at h9; cases h9)
      refine ev_cm1 dX1_letter_27 ?_
      refine ev_ireturn rfl dX1_letter_28 ?_
      exact ⟨rfl, rfl⟩
    · have mn := (mf_n hT.1).1
      have me := (mf_n hT.1).2.1
      have m2 := (mf_n hT.1).2.2
      have mr := mf_r hT.1
      have mL := mf_L hT.1
      refine cnV okX2_letter 1 rfl ?_
      show Ev ks mX2_letter 0 [some (.inr 103), some (.inl x), some (.inl y), some (.inl k), some (.inl v), none] [] M _
      refine ev_aload_n0 dX2_letter_0 ?_
      refine ev_iload_n1 dX2_letter_1 ?_
      refine ev_iload_n2 dX2_letter_2 ?_
      refine ev_cV2f okX2_isWay lkX2_90 (Nat.le_of_ble_eq_true rfl) (Nat.le_of_ble_eq_true rfl) (hM 103 rfl) isO_103 (c_X2_isWay hM mn h2 h4) dX2_letter_3 ?_
      first | refine ev_if_eqB 23 (by decide) dX2_letter_6 (fun h6 => ?_) (fun h6 => by rw [hw] at h6; cases h6)
      refine ev_cm1 dX2_letter_23 ?_
      refine ev_ireturn rfl dX2_letter_24 ?_
      exact ⟨rfl, rfl⟩
  | true =>
    obtain ⟨a, b, ha, hb, hab, rfl, rfl⟩ := (isW_iff (by omega)).mp hw
    have hLab := hL a b (by omega) (by omega)
    rcases i_nat k with hk | ⟨k, hk, rfl⟩
    · refine ⟨-1, ?_, fun M hT => ?_⟩
      · refine cnV okX1_letter 1 rfl ?_
        show Ev ks mX1_letter 0 [some (.inr 96), some (.inl (nI a)), some (.inl (nI b)), some (.inl k), some (.inl v), none] [] C _
        refine ev_aload_n0 dX1_letter_0 ?_
        refine gfX1_12 rfl (hC 96 rfl) dX1_letter_1 ?_
        refine ev_iload_n1 dX1_letter_4 ?_
        refine ev_iload_n2 dX1_letter_5 ?_
        refine ev_cV2f okX0_isWay lkX1_65 (Nat.le_of_ble_eq_true rfl) (Nat.le_of_ble_eq_true rfl) (hC 0 rfl) isO_0 (c_X0_isWay hW hn h4) dX1_letter_6 ?_
        first | refine ev_if_eqB 27 (by decide) dX1_letter_9 (fun h9 => by rw [hw] at h9; cases h9) (fun h9 => ?_)
        refine ev_iload_n3 dX1_letter_12 ?_
        first | refine ev_if_lt 27 (by decide) dX1_letter_13 (fun h13 => ?_) (fun h13 => by exact absurd hk h13)
        refine ev_cm1 dX1_letter_27 ?_
        refine ev_ireturn rfl dX1_letter_28 ?_
        exact ⟨rfl, rfl⟩
      · have mn := (mf_n hT.1).1
        have me := (mf_n hT.1).2.1
        have m2 := (mf_n hT.1).2.2
        have mr := mf_r hT.1
        have mL := mf_L hT.1
        refine cnV okX2_letter 1 rfl ?_
        show Ev ks mX2_letter 0 [some (.inr 103), some (.inl (nI a)), some (.inl (nI b)), some (.inl k), some (.inl v), none] [] M _
        refine ev_aload_n0 dX2_letter_0 ?_
        refine ev_iload_n1 dX2_letter_1 ?_
        refine ev_iload_n2 dX2_letter_2 ?_
        refine ev_cV2f okX2_isWay lkX2_90 (Nat.le_of_ble_eq_true rfl) (Nat.le_of_ble_eq_true rfl) (hM 103 rfl) isO_103 (c_X2_isWay hM mn h2 h4) dX2_letter_3 ?_
        first | refine ev_if_eqB 23 (by decide) dX2_letter_6 (fun h6 => by rw [hw] at h6; cases h6) (fun h6 => ?_)
        refine ev_iload_n3 dX2_letter_9 ?_
        first | refine ev_if_lt 23 (by decide) dX2_letter_10 (fun h10 => ?_) (fun h10 => by exact absurd hk h10)
        refine ev_cm1 dX2_letter_23 ?_
        refine ev_ireturn rfl dX2_letter_24 ?_
        exact ⟨rfl, rfl⟩
    · cases hv : isS 4 v with
      | false =>
        refine ⟨-1, ?_, fun M hT => ?_⟩
        · refine cnV okX1_letter 1 rfl ?_
          show Ev ks mX1_letter 0 [some (.inr 96), some (.inl (nI a)), some (.inl (nI b)), some (.inl (nI k)), some (.inl v), none] [] C _
          refine ev_aload_n0 dX1_letter_0 ?_
          refine gfX1_12 rfl (hC 96 rfl) dX1_letter_1 ?_
          refine ev_iload_n1 dX1_letter_4 ?_
          refine ev_iload_n2 dX1_letter_5 ?_
          refine ev_cV2f okX0_isWay lkX1_65 (Nat.le_of_ble_eq_true rfl) (Nat.le_of_ble_eq_true rfl) (hC 0 rfl) isO_0 (c_X0_isWay hW hn h4) dX1_letter_6 ?_
          first | refine ev_if_eqB 27 (by decide) dX1_letter_9 (fun h9 => by rw [hw] at h9; cases h9) (fun h9 => ?_)
          refine ev_iload_n3 dX1_letter_12 ?_
          refine ev_if_ltN 27 (by omega) (by decide) dX1_letter_13 ?_
          refine ev_iload4 dX1_letter_16 ?_
          first | refine ev_if_lt 27 (by decide) dX1_letter_18 (fun h18 => ?_) (fun h18 => ?_)
          · refine ev_cm1 dX1_letter_27 ?_
            refine ev_ireturn rfl dX1_letter_28 ?_
            exact ⟨rfl, rfl⟩
          · refine ev_iload4 dX1_letter_21 ?_
            refine ev_c3 dX1_letter_23 ?_
            first | refine ev_icmp_le 29 (by decide) dX1_letter_24 (fun h24 => by exact (isS_out (by omega) hv h18 h24).elim) (fun h24 => ?_)
            refine ev_cm1 dX1_letter_27 ?_
            refine ev_ireturn rfl dX1_letter_28 ?_
            exact ⟨rfl, rfl⟩
        · have mn := (mf_n hT.1).1
          have me := (mf_n hT.1).2.1
          have m2 := (mf_n hT.1).2.2
          have mr := mf_r hT.1
          have mL := mf_L hT.1
          refine cnV okX2_letter 1 rfl ?_
          show Ev ks mX2_letter 0 [some (.inr 103), some (.inl (nI a)), some (.inl (nI b)), some (.inl (nI k)), some (.inl v), none] [] M _
          refine ev_aload_n0 dX2_letter_0 ?_
          refine ev_iload_n1 dX2_letter_1 ?_
          refine ev_iload_n2 dX2_letter_2 ?_
          refine ev_cV2f okX2_isWay lkX2_90 (Nat.le_of_ble_eq_true rfl) (Nat.le_of_ble_eq_true rfl) (hM 103 rfl) isO_103 (c_X2_isWay hM mn h2 h4) dX2_letter_3 ?_
          first | refine ev_if_eqB 23 (by decide) dX2_letter_6 (fun h6 => by rw [hw] at h6; cases h6) (fun h6 => ?_)
          refine ev_iload_n3 dX2_letter_9 ?_
          refine ev_if_ltN 23 (by omega) (by decide) dX2_letter_10 ?_
          refine ev_iload4 dX2_letter_13 ?_
          refine ev_c0 dX2_letter_15 ?_
          refine ev_c3 dX2_letter_16 ?_
          refine ev_cS3f okX2_in lkX2_43 (Nat.le_of_ble_eq_true rfl) (Nat.le_of_ble_eq_true rfl) c_X2_in dX2_letter_17 ?_
          first | refine ev_if_neB 25 (by decide) dX2_letter_20 (fun h20 => by rw [isS_in (by omega), hv] at h20; cases h20) (fun h20 => ?_)
          refine ev_cm1 dX2_letter_23 ?_
          refine ev_ireturn rfl dX2_letter_24 ?_
          exact ⟨rfl, rfl⟩
      | true =>
        obtain ⟨c, hc, rfl⟩ := (isS_iff (by omega)).mp hv
        rcases Nat.lt_or_ge k (wr C a b) with hkl | hkl
        · rcases (show c = 0 ∨ c = 1 ∨ c = 2 ∨ c = 3 by omega) with rfl | rfl | rfl | rfl
          · refine ⟨C 7 ((a * 4 + b) * 8 + k), ?_, fun M hT => ?_⟩
            · refine cnV okX1_letter 1 rfl ?_
              show Ev ks mX1_letter 0 [some (.inr 96), some (.inl (nI a)), some (.inl (nI b)), some (.inl (nI k)), some (.inl (nI 0)), none] [] C _
              refine ev_aload_n0 dX1_letter_0 ?_
              refine gfX1_12 rfl (hC 96 rfl) dX1_letter_1 ?_
              refine ev_iload_n1 dX1_letter_4 ?_
              refine ev_iload_n2 dX1_letter_5 ?_
              refine ev_cV2f okX0_isWay lkX1_65 (Nat.le_of_ble_eq_true rfl) (Nat.le_of_ble_eq_true rfl) (hC 0 rfl) isO_0 (c_X0_isWay hW hn h4) dX1_letter_6 ?_
              first | refine ev_if_eqB 27 (by decide) dX1_letter_9 (fun h9 => by rw [hw] at h9; cases h9) (fun h9 => ?_)
              refine ev_iload_n3 dX1_letter_12 ?_
              refine ev_if_ltN 27 (by omega) (by decide) dX1_letter_13 ?_
              refine ev_iload4 dX1_letter_16 ?_
              refine ev_if_ltN 27 (by omega) (by decide) dX1_letter_18 ?_
              refine ev_iload4 dX1_letter_21 ?_
              refine ev_c3 dX1_letter_23 ?_
              first | refine ev_icmp_leN 29 (by omega) (by omega) (by decide) dX1_letter_24 (fun h24 => ?_) (fun h24 => by omega)
              refine ev_iload_n3 dX1_letter_29 ?_
              refine ev_aload_n0 dX1_letter_30 ?_
              refine gfX1_12 rfl (hC 96 rfl) dX1_letter_31 ?_
              refine ev_iload_n1 dX1_letter_34 ?_
              refine ev_iload_n2 dX1_letter_35 ?_
              refine ev_cV2f okX0_lettersOn lkX1_57 (Nat.le_of_ble_eq_true rfl) (Nat.le_of_ble_eq_true rfl) (hC 0 rfl) isO_0 (c_X0_lettersOn hW (by omega) (by omega)) dX1_letter_36 ?_
              rw [hLab.1]
              first | refine ev_icmp_ltN 45 (by omega) (by omega) (by decide) dX1_letter_39 (fun h39 => ?_) (fun h39 => by omega)
              refine ev_iload_n1 dX1_letter_45 ?_
              refine ev_iload_n2 dX1_letter_46 ?_
              refine ev_iload_n3 dX1_letter_47 ?_
              refine ev_cS3f okX0_letterOn lkX1_141 (Nat.le_of_ble_eq_true rfl) (Nat.le_of_ble_eq_true rfl) c_X0_letterOn dX1_letter_48 ?_
              refine ev_istore5 dX1_letter_51 ?_
              refine ev_iload4 dX1_letter_53 ?_
              refine ev_tsIn 25 80 (by decide +kernel) (by decide +kernel) (by decide +kernel) (by decide) dX1_letter_55 ?_
              refine ev_aload_n0 dX1_letter_80 ?_
              refine gfX1_12 rfl (hC 96 rfl) dX1_letter_81 ?_
              refine gfX1_145 rfl (hC 0 rfl) dX1_letter_84 ?_
              refine ev_iload5 dX1_letter_87 ?_
              refine ev_iald 160 rfl rfl (hC 7 rfl) (by omega) dX1_letter_89 ?_
              refine ev_ireturn rfl dX1_letter_90 ?_
              exact ⟨rfl, rfl⟩
            · have mn := (mf_n hT.1).1
              have me := (mf_n hT.1).2.1
              have m2 := (mf_n hT.1).2.2
              have mr := mf_r hT.1
              have mL := mf_L hT.1
              refine cnV okX2_letter 1 rfl ?_
              show Ev ks mX2_letter 0 [some (.inr 103), some (.inl (nI a)), some (.inl (nI b)), some (.inl (nI k)), some (.inl (nI 0)), none] [] M _
              refine ev_aload_n0 dX2_letter_0 ?_
              refine ev_iload_n1 dX2_letter_1 ?_
              refine ev_iload_n2 dX2_letter_2 ?_
              refine ev_cV2f okX2_isWay lkX2_90 (Nat.le_of_ble_eq_true rfl) (Nat.le_of_ble_eq_true rfl) (hM 103 rfl) isO_103 (c_X2_isWay hM mn h2 h4) dX2_letter_3 ?_
              first | refine ev_if_eqB 23 (by decide) dX2_letter_6 (fun h6 => by rw [hw] at h6; cases h6) (fun h6 => ?_)
              refine ev_iload_n3 dX2_letter_9 ?_
              refine ev_if_ltN 23 (by omega) (by decide) dX2_letter_10 ?_
              refine ev_iload4 dX2_letter_13 ?_
              refine ev_c0 dX2_letter_15 ?_
              refine ev_c3 dX2_letter_16 ?_
              refine ev_cS3f okX2_in lkX2_43 (Nat.le_of_ble_eq_true rfl) (Nat.le_of_ble_eq_true rfl) c_X2_in dX2_letter_17 ?_
              first | refine ev_if_neB 25 (by decide) dX2_letter_20 (fun h20 => ?_) (fun h20 => by exact absurd h20 (by decide +kernel))
              refine ev_iload_n3 dX2_letter_25 ?_
              refine ev_aload_n0 dX2_letter_26 ?_
              refine ev_iload_n1 dX2_letter_27 ?_
              refine ev_iload_n2 dX2_letter_28 ?_
              refine ev_cV2f okX2_letters lkX2_62 (Nat.le_of_ble_eq_true rfl) (Nat.le_of_ble_eq_true rfl) (hM 103 rfl) isO_103 (c_X2_letters hM (by omega) (by omega)) dX2_letter_29 ?_
              rw [(mL a b (by omega) (by omega)).1]
              first | refine ev_icmp_ltN 38 (by omega) (by omega) (by decide) dX2_letter_32 (fun h32 => ?_) (fun h32 => by omega)
              refine ev_iload_n1 dX2_letter_38 ?_
              refine ev_iload_n2 dX2_letter_39 ?_
              refine ev_iload_n3 dX2_letter_40 ?_
              refine ev_cS3f okX2_letterAt lkX2_65 (Nat.le_of_ble_eq_true rfl) (Nat.le_of_ble_eq_true rfl) c_X2_letterAt dX2_letter_41 ?_
              refine ev_istore5 dX2_letter_44 ?_
              refine ev_iload4 dX2_letter_46 ?_
              refine ev_c2 dX2_letter_48 ?_
              first | refine ev_icmp_geN 63 (by omega) (by omega) (by decide) dX2_letter_49 (fun h49 => by omega) (fun h49 => ?_)
              refine ev_aload_n0 dX2_letter_52 ?_
              refine gfX2_7 rfl (hM 103 rfl) dX2_letter_53 ?_
              refine ev_iload5 dX2_letter_56 ?_
              refine ev_iload4 dX2_letter_58 ?_
              first | refine ev_iaddN dX2_letter_60 ?_ | refine ev_iadd dX2_letter_60 ?_
              refine ev_iald 1263 rfl rfl (hM 104 rfl) (by omega) dX2_letter_61 ?_
              refine ev_ireturn rfl dX2_letter_62 ?_
              exact ⟨by rw [Nat.add_zero, (hT.1.2.2.2.2.2.2.2 a b k (by omega) hb hkl).1], rfl⟩
          · refine ⟨C 8 ((a * 4 + b) * 8 + k), ?_, fun M hT => ?_⟩
            · refine cnV okX1_letter 1 rfl ?_
              show Ev ks mX1_letter 0 [some (.inr 96), some (.inl (nI a)), some (.inl (nI b)), some (.inl (nI k)), some (.inl (nI 1)), none] [] C _
              refine ev_aload_n0 dX1_letter_0 ?_
              refine gfX1_12 rfl (hC 96 rfl) dX1_letter_1 ?_
              refine ev_iload_n1 dX1_letter_4 ?_
              refine ev_iload_n2 dX1_letter_5 ?_
              refine ev_cV2f okX0_isWay lkX1_65 (Nat.le_of_ble_eq_true rfl) (Nat.le_of_ble_eq_true rfl) (hC 0 rfl) isO_0 (c_X0_isWay hW hn h4) dX1_letter_6 ?_
              first | refine ev_if_eqB 27 (by decide) dX1_letter_9 (fun h9 => by rw [hw] at h9; cases h9) (fun h9 => ?_)
              refine ev_iload_n3 dX1_letter_12 ?_
              refine ev_if_ltN 27 (by omega) (by decide) dX1_letter_13 ?_
              refine ev_iload4 dX1_letter_16 ?_
              refine ev_if_ltN 27 (by omega) (by decide) dX1_letter_18 ?_
              refine ev_iload4 dX1_letter_21 ?_
              refine ev_c3 dX1_letter_23 ?_
              first | refine ev_icmp_leN 29 (by omega) (by omega) (by decide) dX1_letter_24 (fun h24 => ?_) (fun h24 => by omega)
              refine ev_iload_n3 dX1_letter_29 ?_
              refine ev_aload_n0 dX1_letter_30 ?_
              refine gfX1_12 rfl (hC 96 rfl) dX1_letter_31 ?_
              refine ev_iload_n1 dX1_letter_34 ?_
              refine ev_iload_n2 dX1_letter_35 ?_
              refine ev_cV2f okX0_lettersOn lkX1_57 (Nat.le_of_ble_eq_true rfl) (Nat.le_of_ble_eq_true rfl) (hC 0 rfl) isO_0 (c_X0_lettersOn hW (by omega) (by omega)) dX1_letter_36 ?_
              rw [hLab.1]
              first | refine ev_icmp_ltN 45 (by omega) (by omega) (by decide) dX1_letter_39 (fun h39 => ?_) (fun h39 => by omega)
              refine ev_iload_n1 dX1_letter_45 ?_
              refine ev_iload_n2 dX1_letter_46 ?_
              refine ev_iload_n3 dX1_letter_47 ?_
              refine ev_cS3f okX0_letterOn lkX1_141 (Nat.le_of_ble_eq_true rfl) (Nat.le_of_ble_eq_true rfl) c_X0_letterOn dX1_letter_48 ?_
              refine ev_istore5 dX1_letter_51 ?_
              refine ev_iload4 dX1_letter_53 ?_
              refine ev_tsIn 36 91 (by decide +kernel) (by decide +kernel) (by decide +kernel) (by decide) dX1_letter_55 ?_
              refine ev_aload_n0 dX1_letter_91 ?_
              refine gfX1_12 rfl (hC 96 rfl) dX1_letter_92 ?_
              refine gfX1_148 rfl (hC 0 rfl) dX1_letter_95 ?_
              refine ev_iload5 dX1_letter_98 ?_
              refine ev_iald 160 rfl rfl (hC 8 rfl) (by omega) dX1_letter_100 ?_
              refine ev_ireturn rfl dX1_letter_101 ?_
              exact ⟨rfl, rfl⟩
            · have mn := (mf_n hT.1).1
              have me := (mf_n hT.1).2.1
              have m2 := (mf_n hT.1).2.2
              have mr := mf_r hT.1
              have mL := mf_L hT.1
              refine cnV okX2_letter 1 rfl ?_
              show Ev ks mX2_letter 0 [some (.inr 103), some (.inl (nI a)), some (.inl (nI b)), some (.inl (nI k)), some (.inl (nI 1)), none] [] M _
              refine ev_aload_n0 dX2_letter_0 ?_
              refine ev_iload_n1 dX2_letter_1 ?_
              refine ev_iload_n2 dX2_letter_2 ?_
              refine ev_cV2f okX2_isWay lkX2_90 (Nat.le_of_ble_eq_true rfl) (Nat.le_of_ble_eq_true rfl) (hM 103 rfl) isO_103 (c_X2_isWay hM mn h2 h4) dX2_letter_3 ?_
              first | refine ev_if_eqB 23 (by decide) dX2_letter_6 (fun h6 => by rw [hw] at h6; cases h6) (fun h6 => ?_)
              refine ev_iload_n3 dX2_letter_9 ?_
              refine ev_if_ltN 23 (by omega) (by decide) dX2_letter_10 ?_
              refine ev_iload4 dX2_letter_13 ?_
              refine ev_c0 dX2_letter_15 ?_
              refine ev_c3 dX2_letter_16 ?_
              refine ev_cS3f okX2_in lkX2_43 (Nat.le_of_ble_eq_true rfl) (Nat.le_of_ble_eq_true rfl) c_X2_in dX2_letter_17 ?_
              first | refine ev_if_neB 25 (by decide) dX2_letter_20 (fun h20 => ?_) (fun h20 => by exact absurd h20 (by decide +kernel))
              refine ev_iload_n3 dX2_letter_25 ?_
              refine ev_aload_n0 dX2_letter_26 ?_
              refine ev_iload_n1 dX2_letter_27 ?_
              refine ev_iload_n2 dX2_letter_28 ?_
              refine ev_cV2f okX2_letters lkX2_62 (Nat.le_of_ble_eq_true rfl) (Nat.le_of_ble_eq_true rfl) (hM 103 rfl) isO_103 (c_X2_letters hM (by omega) (by omega)) dX2_letter_29 ?_
              rw [(mL a b (by omega) (by omega)).1]
              first | refine ev_icmp_ltN 38 (by omega) (by omega) (by decide) dX2_letter_32 (fun h32 => ?_) (fun h32 => by omega)
              refine ev_iload_n1 dX2_letter_38 ?_
              refine ev_iload_n2 dX2_letter_39 ?_
              refine ev_iload_n3 dX2_letter_40 ?_
              refine ev_cS3f okX2_letterAt lkX2_65 (Nat.le_of_ble_eq_true rfl) (Nat.le_of_ble_eq_true rfl) c_X2_letterAt dX2_letter_41 ?_
              refine ev_istore5 dX2_letter_44 ?_
              refine ev_iload4 dX2_letter_46 ?_
              refine ev_c2 dX2_letter_48 ?_
              first | refine ev_icmp_geN 63 (by omega) (by omega) (by decide) dX2_letter_49 (fun h49 => by omega) (fun h49 => ?_)
              refine ev_aload_n0 dX2_letter_52 ?_
              refine gfX2_7 rfl (hM 103 rfl) dX2_letter_53 ?_
              refine ev_iload5 dX2_letter_56 ?_
              refine ev_iload4 dX2_letter_58 ?_
              first | refine ev_iaddN dX2_letter_60 ?_ | refine ev_iadd dX2_letter_60 ?_
              refine ev_iald 1263 rfl rfl (hM 104 rfl) (by omega) dX2_letter_61 ?_
              refine ev_ireturn rfl dX2_letter_62 ?_
              exact ⟨by rw [(hT.1.2.2.2.2.2.2.2 a b k (by omega) hb hkl).2.1], rfl⟩
          · refine ⟨nI (pcn (C 9 ((a * 4 + b) * 8 + k))), ?_, fun M hT => ?_⟩
            · refine cnV okX1_letter 1 rfl ?_
              show Ev ks mX1_letter 0 [some (.inr 96), some (.inl (nI a)), some (.inl (nI b)), some (.inl (nI k)), some (.inl (nI 2)), none] [] C _
              refine ev_aload_n0 dX1_letter_0 ?_
              refine gfX1_12 rfl (hC 96 rfl) dX1_letter_1 ?_
              refine ev_iload_n1 dX1_letter_4 ?_
              refine ev_iload_n2 dX1_letter_5 ?_
              refine ev_cV2f okX0_isWay lkX1_65 (Nat.le_of_ble_eq_true rfl) (Nat.le_of_ble_eq_true rfl) (hC 0 rfl) isO_0 (c_X0_isWay hW hn h4) dX1_letter_6 ?_
              first | refine ev_if_eqB 27 (by decide) dX1_letter_9 (fun h9 => by rw [hw] at h9; cases h9) (fun h9 => ?_)
              refine ev_iload_n3 dX1_letter_12 ?_
              refine ev_if_ltN 27 (by omega) (by decide) dX1_letter_13 ?_
              refine ev_iload4 dX1_letter_16 ?_
              refine ev_if_ltN 27 (by omega) (by decide) dX1_letter_18 ?_
              refine ev_iload4 dX1_letter_21 ?_
              refine ev_c3 dX1_letter_23 ?_
              first | refine ev_icmp_leN 29 (by omega) (by omega) (by decide) dX1_letter_24 (fun h24 => ?_) (fun h24 => by omega)
              refine ev_iload_n3 dX1_letter_29 ?_
              refine ev_aload_n0 dX1_letter_30 ?_
              refine gfX1_12 rfl (hC 96 rfl) dX1_letter_31 ?_
              refine ev_iload_n1 dX1_letter_34 ?_
              refine ev_iload_n2 dX1_letter_35 ?_
              refine ev_cV2f okX0_lettersOn lkX1_57 (Nat.le_of_ble_eq_true rfl) (Nat.le_of_ble_eq_true rfl) (hC 0 rfl) isO_0 (c_X0_lettersOn hW (by omega) (by omega)) dX1_letter_36 ?_
              rw [hLab.1]
              first | refine ev_icmp_ltN 45 (by omega) (by omega) (by decide) dX1_letter_39 (fun h39 => ?_) (fun h39 => by omega)
              refine ev_iload_n1 dX1_letter_45 ?_
              refine ev_iload_n2 dX1_letter_46 ?_
              refine ev_iload_n3 dX1_letter_47 ?_
              refine ev_cS3f okX0_letterOn lkX1_141 (Nat.le_of_ble_eq_true rfl) (Nat.le_of_ble_eq_true rfl) c_X0_letterOn dX1_letter_48 ?_
              refine ev_istore5 dX1_letter_51 ?_
              refine ev_iload4 dX1_letter_53 ?_
              refine ev_tsIn 47 102 (by decide +kernel) (by decide +kernel) (by decide +kernel) (by decide) dX1_letter_55 ?_
              refine ev_aload_n0 dX1_letter_102 ?_
              refine gfX1_12 rfl (hC 96 rfl) dX1_letter_103 ?_
              refine gfX1_151 rfl (hC 0 rfl) dX1_letter_106 ?_
              refine ev_iload5 dX1_letter_109 ?_
              refine ev_iald 160 rfl rfl (hC 9 rfl) (by omega) dX1_letter_111 ?_
              refine ev_cS1f okJ6_bitCount_0f7a4 lkX1_92 (Nat.le_of_ble_eq_true rfl) (Nat.le_of_ble_eq_true rfl) c_J6_bitCount_0f7a4 dX1_letter_112 ?_
              refine ev_ireturn rfl dX1_letter_115 ?_
              exact ⟨rfl, rfl⟩
            · have mn := (mf_n hT.1).1
              have me := (mf_n hT.1).2.1
              have m2 := (mf_n hT.1).2.2
              have mr := mf_r hT.1
              have mL := mf_L hT.1
              refine cnV okX2_letter 1 rfl ?_
              show Ev ks mX2_letter 0 [some (.inr 103), some (.inl (nI a)), some (.inl (nI b)), some (.inl (nI k)), some (.inl (nI 2)), none] [] M _
              refine ev_aload_n0 dX2_letter_0 ?_
              refine ev_iload_n1 dX2_letter_1 ?_
              refine ev_iload_n2 dX2_letter_2 ?_
              refine ev_cV2f okX2_isWay lkX2_90 (Nat.le_of_ble_eq_true rfl) (Nat.le_of_ble_eq_true rfl) (hM 103 rfl) isO_103 (c_X2_isWay hM mn h2 h4) dX2_letter_3 ?_
              first | refine ev_if_eqB 23 (by decide) dX2_letter_6 (fun h6 => by rw [hw] at h6; cases h6) (fun h6 => ?_)
              refine ev_iload_n3 dX2_letter_9 ?_
              refine ev_if_ltN 23 (by omega) (by decide) dX2_letter_10 ?_
              refine ev_iload4 dX2_letter_13 ?_
              refine ev_c0 dX2_letter_15 ?_
              refine ev_c3 dX2_letter_16 ?_
              refine ev_cS3f okX2_in lkX2_43 (Nat.le_of_ble_eq_true rfl) (Nat.le_of_ble_eq_true rfl) c_X2_in dX2_letter_17 ?_
              first | refine ev_if_neB 25 (by decide) dX2_letter_20 (fun h20 => ?_) (fun h20 => by exact absurd h20 (by decide +kernel))
              refine ev_iload_n3 dX2_letter_25 ?_
              refine ev_aload_n0 dX2_letter_26 ?_
              refine ev_iload_n1 dX2_letter_27 ?_
              refine ev_iload_n2 dX2_letter_28 ?_
              refine ev_cV2f okX2_letters lkX2_62 (Nat.le_of_ble_eq_true rfl) (Nat.le_of_ble_eq_true rfl) (hM 103 rfl) isO_103 (c_X2_letters hM (by omega) (by omega)) dX2_letter_29 ?_
              rw [(mL a b (by omega) (by omega)).1]
              first | refine ev_icmp_ltN 38 (by omega) (by omega) (by decide) dX2_letter_32 (fun h32 => ?_) (fun h32 => by omega)
              refine ev_iload_n1 dX2_letter_38 ?_
              refine ev_iload_n2 dX2_letter_39 ?_
              refine ev_iload_n3 dX2_letter_40 ?_
              refine ev_cS3f okX2_letterAt lkX2_65 (Nat.le_of_ble_eq_true rfl) (Nat.le_of_ble_eq_true rfl) c_X2_letterAt dX2_letter_41 ?_
              refine ev_istore5 dX2_letter_44 ?_
              refine ev_iload4 dX2_letter_46 ?_
              refine ev_c2 dX2_letter_48 ?_
              first | refine ev_icmp_geN 63 (by omega) (by omega) (by decide) dX2_letter_49 (fun h49 => ?_) (fun h49 => by omega)
              refine ev_iload4 dX2_letter_63 ?_
              refine ev_c2 dX2_letter_65 ?_
              first | refine ev_icmp_neN 84 (by omega) (by omega) (by decide) dX2_letter_66 (fun h66 => by omega) (fun h66 => ?_)
              refine ev_aload_n0 dX2_letter_69 ?_
              refine gfX2_7 rfl (hM 103 rfl) dX2_letter_70 ?_
              refine ev_iload5 dX2_letter_73 ?_
              refine ev_c2 dX2_letter_75 ?_
              first | refine ev_iaddN dX2_letter_76 ?_ | refine ev_iadd dX2_letter_76 ?_
              refine ev_iald 1263 rfl rfl (hM 104 rfl) (by omega) dX2_letter_77 ?_
              refine ev_cS1f okX2_bits lkX2_112 (Nat.le_of_ble_eq_true rfl) (Nat.le_of_ble_eq_true rfl) c_X2_bits dX2_letter_78 ?_
              refine ev_goto 99 (by decide) dX2_letter_81 ?_
              refine ev_ireturn rfl dX2_letter_99 ?_
              exact ⟨by rw [(hT.1.2.2.2.2.2.2.2 a b k (by omega) hb hkl).2.2.1], rfl⟩
          · refine ⟨bI (decide (k < tk C b a (rc C b))), ?_, fun M hT => ?_⟩
            · refine cnV okX1_letter 1 rfl ?_
              show Ev ks mX1_letter 0 [some (.inr 96), some (.inl (nI a)), some (.inl (nI b)), some (.inl (nI k)), some (.inl (nI 3)), none] [] C _
              refine ev_aload_n0 dX1_letter_0 ?_
              refine gfX1_12 rfl (hC 96 rfl) dX1_letter_1 ?_
              refine ev_iload_n1 dX1_letter_4 ?_
              refine ev_iload_n2 dX1_letter_5 ?_
              refine ev_cV2f okX0_isWay lkX1_65 (Nat.le_of_ble_eq_true rfl) (Nat.le_of_ble_eq_true rfl) (hC 0 rfl) isO_0 (c_X0_isWay hW hn h4) dX1_letter_6 ?_
              first | refine ev_if_eqB 27 (by decide) dX1_letter_9 (fun h9 => by rw [hw] at h9; cases h9) (fun h9 => ?_)
              refine ev_iload_n3 dX1_letter_12 ?_
              refine ev_if_ltN 27 (by omega) (by decide) dX1_letter_13 ?_
              refine ev_iload4 dX1_letter_16 ?_
              refine ev_if_ltN 27 (by omega) (by decide) dX1_letter_18 ?_
              refine ev_iload4 dX1_letter_21 ?_
              refine ev_c3 dX1_letter_23 ?_
              first | refine ev_icmp_leN 29 (by omega) (by omega) (by decide) dX1_letter_24 (fun h24 => ?_) (fun h24 => by omega)
              refine ev_iload_n3 dX1_letter_29 ?_
              refine ev_aload_n0 dX1_letter_30 ?_
              refine gfX1_12 rfl (hC 96 rfl) dX1_letter_31 ?_
              refine ev_iload_n1 dX1_letter_34 ?_
              refine ev_iload_n2 dX1_letter_35 ?_
              refine ev_cV2f okX0_lettersOn lkX1_57 (Nat.le_of_ble_eq_true rfl) (Nat.le_of_ble_eq_true rfl) (hC 0 rfl) isO_0 (c_X0_lettersOn hW (by omega) (by omega)) dX1_letter_36 ?_
              rw [hLab.1]
              first | refine ev_icmp_ltN 45 (by omega) (by omega) (by decide) dX1_letter_39 (fun h39 => ?_) (fun h39 => by omega)
              refine ev_iload_n1 dX1_letter_45 ?_
              refine ev_iload_n2 dX1_letter_46 ?_
              refine ev_iload_n3 dX1_letter_47 ?_
              refine ev_cS3f okX0_letterOn lkX1_141 (Nat.le_of_ble_eq_true rfl) (Nat.le_of_ble_eq_true rfl) c_X0_letterOn dX1_letter_48 ?_
              refine ev_istore5 dX1_letter_51 ?_
              refine ev_iload4 dX1_letter_53 ?_
              refine ev_tsOut 116 (Or.inr (by decide +kernel)) (by decide) dX1_letter_55 ?_
              refine ev_iload_n3 dX1_letter_116 ?_
              refine ev_aload_n0 dX1_letter_117 ?_
              refine gfX1_12 rfl (hC 96 rfl) dX1_letter_118 ?_
              refine ev_iload_n1 dX1_letter_121 ?_
              refine ev_iload_n2 dX1_letter_122 ?_
              refine ev_cV2f okX0_takenFrom lkX1_72 (Nat.le_of_ble_eq_true rfl) (Nat.le_of_ble_eq_true rfl) (hC 0 rfl) isO_0 (c_X0_takenFrom hW (by omega) (hr _ (by omega)).1 (hr _ (by omega)).2) dX1_letter_123 ?_
              have htk := fb_ct_le (fun j => decide (C 2 (b * 8 + j) = nI a)) (rc C b)
              have hrb := (hr b hb).2
              first | refine ev_icmp_geN 133 (by omega) (by omega) (by decide) dX1_letter_126 (fun h126 => ?_) (fun h126 => ?_)
              · refine ev_c0 dX1_letter_133 ?_
                refine ev_ireturn rfl dX1_letter_134 ?_
                exact ⟨by first | rw [decide_eq_true (show k < tk C b a (rc C b) from h126)]; rfl | rw [decide_eq_false (show ¬ k < tk C b a (rc C b) from Nat.not_lt.mpr h126)]; rfl, rfl⟩
              · refine ev_c1 dX1_letter_129 ?_
                refine ev_goto 134 (by decide) dX1_letter_130 ?_
                refine ev_ireturn rfl dX1_letter_134 ?_
                exact ⟨by first | rw [decide_eq_true (show k < tk C b a (rc C b) from h126)]; rfl | rw [decide_eq_false (show ¬ k < tk C b a (rc C b) from Nat.not_lt.mpr h126)]; rfl, rfl⟩
            · have mn := (mf_n hT.1).1
              have me := (mf_n hT.1).2.1
              have m2 := (mf_n hT.1).2.2
              have mr := mf_r hT.1
              have mL := mf_L hT.1
              refine cnV okX2_letter 1 rfl ?_
              show Ev ks mX2_letter 0 [some (.inr 103), some (.inl (nI a)), some (.inl (nI b)), some (.inl (nI k)), some (.inl (nI 3)), none] [] M _
              refine ev_aload_n0 dX2_letter_0 ?_
              refine ev_iload_n1 dX2_letter_1 ?_
              refine ev_iload_n2 dX2_letter_2 ?_
              refine ev_cV2f okX2_isWay lkX2_90 (Nat.le_of_ble_eq_true rfl) (Nat.le_of_ble_eq_true rfl) (hM 103 rfl) isO_103 (c_X2_isWay hM mn h2 h4) dX2_letter_3 ?_
              first | refine ev_if_eqB 23 (by decide) dX2_letter_6 (fun h6 => by rw [hw] at h6; cases h6) (fun h6 => ?_)
              refine ev_iload_n3 dX2_letter_9 ?_
              refine ev_if_ltN 23 (by omega) (by decide) dX2_letter_10 ?_
              refine ev_iload4 dX2_letter_13 ?_
              refine ev_c0 dX2_letter_15 ?_
              refine ev_c3 dX2_letter_16 ?_
              refine ev_cS3f okX2_in lkX2_43 (Nat.le_of_ble_eq_true rfl) (Nat.le_of_ble_eq_true rfl) c_X2_in dX2_letter_17 ?_
              first | refine ev_if_neB 25 (by decide) dX2_letter_20 (fun h20 => ?_) (fun h20 => by exact absurd h20 (by decide +kernel))
              refine ev_iload_n3 dX2_letter_25 ?_
              refine ev_aload_n0 dX2_letter_26 ?_
              refine ev_iload_n1 dX2_letter_27 ?_
              refine ev_iload_n2 dX2_letter_28 ?_
              refine ev_cV2f okX2_letters lkX2_62 (Nat.le_of_ble_eq_true rfl) (Nat.le_of_ble_eq_true rfl) (hM 103 rfl) isO_103 (c_X2_letters hM (by omega) (by omega)) dX2_letter_29 ?_
              rw [(mL a b (by omega) (by omega)).1]
              first | refine ev_icmp_ltN 38 (by omega) (by omega) (by decide) dX2_letter_32 (fun h32 => ?_) (fun h32 => by omega)
              refine ev_iload_n1 dX2_letter_38 ?_
              refine ev_iload_n2 dX2_letter_39 ?_
              refine ev_iload_n3 dX2_letter_40 ?_
              refine ev_cS3f okX2_letterAt lkX2_65 (Nat.le_of_ble_eq_true rfl) (Nat.le_of_ble_eq_true rfl) c_X2_letterAt dX2_letter_41 ?_
              refine ev_istore5 dX2_letter_44 ?_
              refine ev_iload4 dX2_letter_46 ?_
              refine ev_c2 dX2_letter_48 ?_
              first | refine ev_icmp_geN 63 (by omega) (by omega) (by decide) dX2_letter_49 (fun h49 => ?_) (fun h49 => by omega)
              refine ev_iload4 dX2_letter_63 ?_
              refine ev_c2 dX2_letter_65 ?_
              first | refine ev_icmp_neN 84 (by omega) (by omega) (by decide) dX2_letter_66 (fun h66 => ?_) (fun h66 => by omega)
              refine ev_iload_n3 dX2_letter_84 ?_
              refine ev_aload_n0 dX2_letter_85 ?_
              refine ev_iload_n2 dX2_letter_86 ?_
              refine ev_iload_n1 dX2_letter_87 ?_
              refine ev_cV2f okX2_had lkX2_93 (Nat.le_of_ble_eq_true rfl) (Nat.le_of_ble_eq_true rfl) (hM 103 rfl) isO_103 (c_X2_had hM (by omega) (mr _ (by omega)).1 (mr _ (by omega)).2) dX2_letter_88 ?_
              have htk : fb_ct (fun j => decide (M 104 (7 + 24 * b + 3 * j + 0) = nI a)) (rc C b) = tk C b a (rc C b) := fb_ct_cong (fun j hj => by rw [(hT.1.2.2.2.1 b j hb hj).1])
              rw [htk]
              have htk2 := fb_ct_le (fun j => decide (C 2 (b * 8 + j) = nI a)) (rc C b)
              have hrb := (hr b hb).2
              have htk3 : tk C b a (rc C b) ≤ rc C b := htk2
              first | refine ev_icmp_geN 98 (by omega) (by omega) (by decide) dX2_letter_91 (fun h91 => ?_) (fun h91 => ?_)
              · refine ev_c0 dX2_letter_98 ?_
                refine ev_ireturn rfl dX2_letter_99 ?_
                exact ⟨by first | rw [decide_eq_true (show k < tk C b a (rc C b) from h91)]; rfl | rw [decide_eq_false (show ¬ k < tk C b a (rc C b) from Nat.not_lt.mpr h91)]; rfl, rfl⟩
              · refine ev_c1 dX2_letter_94 ?_
                refine ev_goto 99 (by decide) dX2_letter_95 ?_
                refine ev_ireturn rfl dX2_letter_99 ?_
                exact ⟨by first | rw [decide_eq_true (show k < tk C b a (rc C b) from h91)]; rfl | rw [decide_eq_false (show ¬ k < tk C b a (rc C b) from Nat.not_lt.mpr h91)]; rfl, rfl⟩
        · refine ⟨-9, ?_, fun M hT => ?_⟩
          · refine cnV okX1_letter 1 rfl ?_
            show Ev ks mX1_letter 0 [some (.inr 96), some (.inl (nI a)), some (.inl (nI b)), some (.inl (nI k)), some (.inl (nI c)), none] [] C _
            refine ev_aload_n0 dX1_letter_0 ?_
            refine gfX1_12 rfl (hC 96 rfl) dX1_letter_1 ?_
            refine ev_iload_n1 dX1_letter_4 ?_
            refine ev_iload_n2 dX1_letter_5 ?_
            refine ev_cV2f okX0_isWay lkX1_65 (Nat.le_of_ble_eq_true rfl) (Nat.le_of_ble_eq_true rfl) (hC 0 rfl) isO_0 (c_X0_isWay hW hn h4) dX1_letter_6 ?_
            first | refine ev_if_eqB 27 (by decide) dX1_letter_9 (fun h9 => by rw [hw] at h9; cases h9) (fun h9 => ?_)
            refine ev_iload_n3 dX1_letter_12 ?_
            refine ev_if_ltN 27 (by omega) (by decide) dX1_letter_13 ?_
            refine ev_iload4 dX1_letter_16 ?_
            refine ev_if_ltN 27 (by omega) (by decide) dX1_letter_18 ?_
            refine ev_iload4 dX1_letter_21 ?_
            refine ev_c3 dX1_letter_23 ?_
            first | refine ev_icmp_leN 29 (by omega) (by omega) (by decide) dX1_letter_24 (fun h24 => ?_) (fun h24 => by omega)
            refine ev_iload_n3 dX1_letter_29 ?_
            refine ev_aload_n0 dX1_letter_30 ?_
            refine gfX1_12 rfl (hC 96 rfl) dX1_letter_31 ?_
            refine ev_iload_n1 dX1_letter_34 ?_
            refine ev_iload_n2 dX1_letter_35 ?_
            refine ev_cV2f okX0_lettersOn lkX1_57 (Nat.le_of_ble_eq_true rfl) (Nat.le_of_ble_eq_true rfl) (hC 0 rfl) isO_0 (c_X0_lettersOn hW (by omega) (by omega)) dX1_letter_36 ?_
            rw [hLab.1]
            first | refine ev_icmp_ltN 45 (by omega) (by omega) (by decide) dX1_letter_39 (fun h39 => by omega) (fun h39 => ?_)
            refine ev_bipush (-9 : Int32) kb_m9 dX1_letter_42 ?_
            refine ev_ireturn rfl dX1_letter_44 ?_
            exact ⟨rfl, rfl⟩
          · have mn := (mf_n hT.1).1
            have me := (mf_n hT.1).2.1
            have m2 := (mf_n hT.1).2.2
            have mr := mf_r hT.1
            have mL := mf_L hT.1
            refine cnV okX2_letter 1 rfl ?_
            show Ev ks mX2_letter 0 [some (.inr 103), some (.inl (nI a)), some (.inl (nI b)), some (.inl (nI k)), some (.inl (nI c)), none] [] M _
            refine ev_aload_n0 dX2_letter_0 ?_
            refine ev_iload_n1 dX2_letter_1 ?_
            refine ev_iload_n2 dX2_letter_2 ?_
            refine ev_cV2f okX2_isWay lkX2_90 (Nat.le_of_ble_eq_true rfl) (Nat.le_of_ble_eq_true rfl) (hM 103 rfl) isO_103 (c_X2_isWay hM mn h2 h4) dX2_letter_3 ?_
            first | refine ev_if_eqB 23 (by decide) dX2_letter_6 (fun h6 => by rw [hw] at h6; cases h6) (fun h6 => ?_)
            refine ev_iload_n3 dX2_letter_9 ?_
            refine ev_if_ltN 23 (by omega) (by decide) dX2_letter_10 ?_
            refine ev_iload4 dX2_letter_13 ?_
            refine ev_c0 dX2_letter_15 ?_
            refine ev_c3 dX2_letter_16 ?_
            refine ev_cS3f okX2_in lkX2_43 (Nat.le_of_ble_eq_true rfl) (Nat.le_of_ble_eq_true rfl) c_X2_in dX2_letter_17 ?_
            first | refine ev_if_neB 25 (by decide) dX2_letter_20 (fun h20 => ?_) (fun h20 => by rw [isS_in (by omega), hv] at h20; cases h20)
            refine ev_iload_n3 dX2_letter_25 ?_
            refine ev_aload_n0 dX2_letter_26 ?_
            refine ev_iload_n1 dX2_letter_27 ?_
            refine ev_iload_n2 dX2_letter_28 ?_
            refine ev_cV2f okX2_letters lkX2_62 (Nat.le_of_ble_eq_true rfl) (Nat.le_of_ble_eq_true rfl) (hM 103 rfl) isO_103 (c_X2_letters hM (by omega) (by omega)) dX2_letter_29 ?_
            rw [(mL a b (by omega) (by omega)).1]
            first | refine ev_icmp_ltN 38 (by omega) (by omega) (by decide) dX2_letter_32 (fun h32 => by omega) (fun h32 => ?_)
            refine ev_bipush (-9 : Int32) kb_m9 dX2_letter_35 ?_
            refine ev_ireturn rfl dX2_letter_37 ?_
            exact ⟨rfl, rfl⟩
theorem op_carries {ks : List Nat} (hC : InC ks) (hM : InM ks) {x y k v : Int32} : Op ks mX1_carries yX1_carries mX2_carries yX2_carries [.inl x, .inl y, .inl k, .inl v] := by
  refine op_read (fun C hI _ => ?_)
  have hW : InW ks := hC.w
  obtain ⟨⟨hn, h2, h4⟩, he, he1, he4⟩ := wf_n hI
  have hr := wf_r hI
  have hL := wf_L hI
  cases hw : isW (nn C) x y with
  | false =>
    refine ⟨-1, ?_, fun M hT => ?_⟩
    · refine cnV okX1_carries 0 rfl ?_
      show Ev ks mX1_carries 0 [some (.inr 96), some (.inl x), some (.inl y), some (.inl k), some (.inl v)] [] C _
      refine ev_aload_n0 dX1_carries_0 ?_
      refine gfX1_12 rfl (hC 96 rfl) dX1_carries_1 ?_
      refine ev_iload_n1 dX1_carries_4 ?_
      refine ev_iload_n2 dX1_carries_5 ?_
      refine ev_cV2f okX0_isWay lkX1_65 (Nat.le_of_ble_eq_true rfl) (Nat.le_of_ble_eq_true rfl) (hC 0 rfl) isO_0 (c_X0_isWay hW hn h4) dX1_carries_6 ?_
      first | refine ev_if_eqB 21 (by decide) dX1_carries_9 (fun h9 => ?_) (fun h9 => by rw [hw] at h9; cases h9)
      refine ev_cm1 dX1_carries_21 ?_
      refine ev_ireturn rfl dX1_carries_22 ?_
      exact ⟨rfl, rfl⟩
    · have mn := (mf_n hT.1).1
      have me := (mf_n hT.1).2.1
      have m2 := (mf_n hT.1).2.2
      have mr := mf_r hT.1
      have mL := mf_L hT.1
      refine cnV okX2_carries 0 rfl ?_
      show Ev ks mX2_carries 0 [some (.inr 103), some (.inl x), some (.inl y), some (.inl k), some (.inl v)] [] M _
      refine ev_aload_n0 dX2_carries_0 ?_
      refine ev_iload_n1 dX2_carries_1 ?_
      refine ev_iload_n2 dX2_carries_2 ?_
      refine ev_cV2f okX2_isWay lkX2_90 (Nat.le_of_ble_eq_true rfl) (Nat.le_of_ble_eq_true rfl) (hM 103 rfl) isO_103 (c_X2_isWay hM mn h2 h4) dX2_carries_3 ?_
      first | refine ev_if_eqB 18 (by decide) dX2_carries_6 (fun h6 => ?_) (fun h6 => by rw [hw] at h6; cases h6)
      refine ev_cm1 dX2_carries_18 ?_
      refine ev_ireturn rfl dX2_carries_19 ?_
      exact ⟨rfl, rfl⟩
  | true =>
    obtain ⟨a, b, ha, hb, hab, rfl, rfl⟩ := (isW_iff (by omega)).mp hw
    have hLab := hL a b (by omega) (by omega)
    rcases i_nat k with hk | ⟨k, hk, rfl⟩
    · refine ⟨-1, ?_, fun M hT => ?_⟩
      · refine cnV okX1_carries 0 rfl ?_
        show Ev ks mX1_carries 0 [some (.inr 96), some (.inl (nI a)), some (.inl (nI b)), some (.inl k), some (.inl v)] [] C _
        refine ev_aload_n0 dX1_carries_0 ?_
        refine gfX1_12 rfl (hC 96 rfl) dX1_carries_1 ?_
        refine ev_iload_n1 dX1_carries_4 ?_
        refine ev_iload_n2 dX1_carries_5 ?_
        refine ev_cV2f okX0_isWay lkX1_65 (Nat.le_of_ble_eq_true rfl) (Nat.le_of_ble_eq_true rfl) (hC 0 rfl) isO_0 (c_X0_isWay hW hn h4) dX1_carries_6 ?_
        first | refine ev_if_eqB 21 (by decide) dX1_carries_9 (fun h9 => by rw [hw] at h9; cases h9) (fun h9 => ?_)
        refine ev_iload_n3 dX1_carries_12 ?_
        first | refine ev_if_lt 21 (by decide) dX1_carries_13 (fun h13 => ?_) (fun h13 => by exact absurd hk h13)
        refine ev_cm1 dX1_carries_21 ?_
        refine ev_ireturn rfl dX1_carries_22 ?_
        exact ⟨rfl, rfl⟩
      · have mn := (mf_n hT.1).1
        have me := (mf_n hT.1).2.1
        have m2 := (mf_n hT.1).2.2
        have mr := mf_r hT.1
        have mL := mf_L hT.1
        refine cnV okX2_carries 0 rfl ?_
        show Ev ks mX2_carries 0 [some (.inr 103), some (.inl (nI a)), some (.inl (nI b)), some (.inl k), some (.inl v)] [] M _
        refine ev_aload_n0 dX2_carries_0 ?_
        refine ev_iload_n1 dX2_carries_1 ?_
        refine ev_iload_n2 dX2_carries_2 ?_
        refine ev_cV2f okX2_isWay lkX2_90 (Nat.le_of_ble_eq_true rfl) (Nat.le_of_ble_eq_true rfl) (hM 103 rfl) isO_103 (c_X2_isWay hM mn h2 h4) dX2_carries_3 ?_
        first | refine ev_if_eqB 18 (by decide) dX2_carries_6 (fun h6 => by rw [hw] at h6; cases h6) (fun h6 => ?_)
        refine ev_iload_n3 dX2_carries_9 ?_
        first | refine ev_if_lt 18 (by decide) dX2_carries_10 (fun h10 => ?_) (fun h10 => by exact absurd hk h10)
        refine ev_cm1 dX2_carries_18 ?_
        refine ev_ireturn rfl dX2_carries_19 ?_
        exact ⟨rfl, rfl⟩
    · rcases i_nat v with hv | ⟨v, hv, rfl⟩
      · refine ⟨-1, ?_, fun M hT => ?_⟩
        · refine cnV okX1_carries 0 rfl ?_
          show Ev ks mX1_carries 0 [some (.inr 96), some (.inl (nI a)), some (.inl (nI b)), some (.inl (nI k)), some (.inl v)] [] C _
          refine ev_aload_n0 dX1_carries_0 ?_
          refine gfX1_12 rfl (hC 96 rfl) dX1_carries_1 ?_
          refine ev_iload_n1 dX1_carries_4 ?_
          refine ev_iload_n2 dX1_carries_5 ?_
          refine ev_cV2f okX0_isWay lkX1_65 (Nat.le_of_ble_eq_true rfl) (Nat.le_of_ble_eq_true rfl) (hC 0 rfl) isO_0 (c_X0_isWay hW hn h4) dX1_carries_6 ?_
          first | refine ev_if_eqB 21 (by decide) dX1_carries_9 (fun h9 => by rw [hw] at h9; cases h9) (fun h9 => ?_)
          refine ev_iload_n3 dX1_carries_12 ?_
          refine ev_if_ltN 21 (by omega) (by decide) dX1_carries_13 ?_
          refine ev_iload4 dX1_carries_16 ?_
          first | refine ev_if_ge 23 (by decide) dX1_carries_18 (fun h18 => by exact absurd hv (Int32.not_lt.mpr h18)) (fun h18 => ?_)
          refine ev_cm1 dX1_carries_21 ?_
          refine ev_ireturn rfl dX1_carries_22 ?_
          exact ⟨rfl, rfl⟩
        · have mn := (mf_n hT.1).1
          have me := (mf_n hT.1).2.1
          have m2 := (mf_n hT.1).2.2
          have mr := mf_r hT.1
          have mL := mf_L hT.1
          refine cnV okX2_carries 0 rfl ?_
          show Ev ks mX2_carries 0 [some (.inr 103), some (.inl (nI a)), some (.inl (nI b)), some (.inl (nI k)), some (.inl v)] [] M _
          refine ev_aload_n0 dX2_carries_0 ?_
          refine ev_iload_n1 dX2_carries_1 ?_
          refine ev_iload_n2 dX2_carries_2 ?_
          refine ev_cV2f okX2_isWay lkX2_90 (Nat.le_of_ble_eq_true rfl) (Nat.le_of_ble_eq_true rfl) (hM 103 rfl) isO_103 (c_X2_isWay hM mn h2 h4) dX2_carries_3 ?_
          first | refine ev_if_eqB 18 (by decide) dX2_carries_6 (fun h6 => by rw [hw] at h6; cases h6) (fun h6 => ?_)
          refine ev_iload_n3 dX2_carries_9 ?_
          refine ev_if_ltN 18 (by omega) (by decide) dX2_carries_10 ?_
          refine ev_iload4 dX2_carries_13 ?_
          first | refine ev_if_ge 20 (by decide) dX2_carries_15 (fun h15 => by exact absurd hv (Int32.not_lt.mpr h15)) (fun h15 => ?_)
          refine ev_cm1 dX2_carries_18 ?_
          refine ev_ireturn rfl dX2_carries_19 ?_
          exact ⟨rfl, rfl⟩
      · rcases Nat.lt_or_ge k (wr C a b) with hkl | hkl
        · refine ⟨nth (C 9 ((a * 4 + b) * 8 + k)) v, ?_, fun M hT => ?_⟩
          · refine cnV okX1_carries 0 rfl ?_
            show Ev ks mX1_carries 0 [some (.inr 96), some (.inl (nI a)), some (.inl (nI b)), some (.inl (nI k)), some (.inl (nI v))] [] C _
            refine ev_aload_n0 dX1_carries_0 ?_
            refine gfX1_12 rfl (hC 96 rfl) dX1_carries_1 ?_
            refine ev_iload_n1 dX1_carries_4 ?_
            refine ev_iload_n2 dX1_carries_5 ?_
            refine ev_cV2f okX0_isWay lkX1_65 (Nat.le_of_ble_eq_true rfl) (Nat.le_of_ble_eq_true rfl) (hC 0 rfl) isO_0 (c_X0_isWay hW hn h4) dX1_carries_6 ?_
            first | refine ev_if_eqB 21 (by decide) dX1_carries_9 (fun h9 => by rw [hw] at h9; cases h9) (fun h9 => ?_)
            refine ev_iload_n3 dX1_carries_12 ?_
            refine ev_if_ltN 21 (by omega) (by decide) dX1_carries_13 ?_
            refine ev_iload4 dX1_carries_16 ?_
            refine ev_if_geN 23 (by omega) (by decide) dX1_carries_18 ?_
            refine ev_iload_n3 dX1_carries_23 ?_
            refine ev_aload_n0 dX1_carries_24 ?_
            refine gfX1_12 rfl (hC 96 rfl) dX1_carries_25 ?_
            refine ev_iload_n1 dX1_carries_28 ?_
            refine ev_iload_n2 dX1_carries_29 ?_
            refine ev_cV2f okX0_lettersOn lkX1_57 (Nat.le_of_ble_eq_true rfl) (Nat.le_of_ble_eq_true rfl) (hC 0 rfl) isO_0 (c_X0_lettersOn hW (by omega) (by omega)) dX1_carries_30 ?_
            rw [hLab.1]
            first | refine ev_icmp_ltN 39 (by omega) (by omega) (by decide) dX1_carries_33 (fun h33 => ?_) (fun h33 => by omega)
            refine ev_aload_n0 dX1_carries_39 ?_
            refine gfX1_12 rfl (hC 96 rfl) dX1_carries_40 ?_
            refine gfX1_151 rfl (hC 0 rfl) dX1_carries_43 ?_
            refine ev_iload_n1 dX1_carries_46 ?_
            refine ev_iload_n2 dX1_carries_47 ?_
            refine ev_iload_n3 dX1_carries_48 ?_
            refine ev_cS3f okX0_letterOn lkX1_141 (Nat.le_of_ble_eq_true rfl) (Nat.le_of_ble_eq_true rfl) c_X0_letterOn dX1_carries_49 ?_
            refine ev_iald 160 rfl rfl (hC 9 rfl) (by omega) dX1_carries_52 ?_
            refine ev_iload4 dX1_carries_53 ?_
            refine ev_cS2f okX1_numberAt lkX1_154 (Nat.le_of_ble_eq_true rfl) (Nat.le_of_ble_eq_true rfl) (c_X1_numberAt (by omega)) dX1_carries_55 ?_
            refine ev_ireturn rfl dX1_carries_58 ?_
            exact ⟨rfl, rfl⟩
          · have mn := (mf_n hT.1).1
            have me := (mf_n hT.1).2.1
            have m2 := (mf_n hT.1).2.2
            have mr := mf_r hT.1
            have mL := mf_L hT.1
            refine cnV okX2_carries 0 rfl ?_
            show Ev ks mX2_carries 0 [some (.inr 103), some (.inl (nI a)), some (.inl (nI b)), some (.inl (nI k)), some (.inl (nI v))] [] M _
            refine ev_aload_n0 dX2_carries_0 ?_
            refine ev_iload_n1 dX2_carries_1 ?_
            refine ev_iload_n2 dX2_carries_2 ?_
            refine ev_cV2f okX2_isWay lkX2_90 (Nat.le_of_ble_eq_true rfl) (Nat.le_of_ble_eq_true rfl) (hM 103 rfl) isO_103 (c_X2_isWay hM mn h2 h4) dX2_carries_3 ?_
            first | refine ev_if_eqB 18 (by decide) dX2_carries_6 (fun h6 => by rw [hw] at h6; cases h6) (fun h6 => ?_)
            refine ev_iload_n3 dX2_carries_9 ?_
            refine ev_if_ltN 18 (by omega) (by decide) dX2_carries_10 ?_
            refine ev_iload4 dX2_carries_13 ?_
            refine ev_if_geN 20 (by omega) (by decide) dX2_carries_15 ?_
            refine ev_iload_n3 dX2_carries_20 ?_
            refine ev_aload_n0 dX2_carries_21 ?_
            refine ev_iload_n1 dX2_carries_22 ?_
            refine ev_iload_n2 dX2_carries_23 ?_
            refine ev_cV2f okX2_letters lkX2_62 (Nat.le_of_ble_eq_true rfl) (Nat.le_of_ble_eq_true rfl) (hM 103 rfl) isO_103 (c_X2_letters hM (by omega) (by omega)) dX2_carries_24 ?_
            rw [(mL a b (by omega) (by omega)).1]
            first | refine ev_icmp_geN 51 (by omega) (by omega) (by decide) dX2_carries_27 (fun h27 => by omega) (fun h27 => ?_)
            refine ev_aload_n0 dX2_carries_30 ?_
            refine gfX2_7 rfl (hM 103 rfl) dX2_carries_31 ?_
            refine ev_iload_n1 dX2_carries_34 ?_
            refine ev_iload_n2 dX2_carries_35 ?_
            refine ev_iload_n3 dX2_carries_36 ?_
            refine ev_cS3f okX2_letterAt lkX2_65 (Nat.le_of_ble_eq_true rfl) (Nat.le_of_ble_eq_true rfl) c_X2_letterAt dX2_carries_37 ?_
            refine ev_c2 dX2_carries_40 ?_
            first | refine ev_iaddN dX2_carries_41 ?_ | refine ev_iadd dX2_carries_41 ?_
            refine ev_iald 1263 rfl rfl (hM 104 rfl) (by omega) dX2_carries_42 ?_
            refine ev_iload4 dX2_carries_43 ?_
            refine ev_cS2f okX2_nth lkX2_155 (Nat.le_of_ble_eq_true rfl) (Nat.le_of_ble_eq_true rfl) (c_X2_nth (by omega)) dX2_carries_45 ?_
            refine ev_goto 53 (by decide) dX2_carries_48 ?_
            refine ev_ireturn rfl dX2_carries_53 ?_
            exact ⟨by rw [(hT.1.2.2.2.2.2.2.2 a b k (by omega) hb hkl).2.2.1], rfl⟩
        · refine ⟨-9, ?_, fun M hT => ?_⟩
          · refine cnV okX1_carries 0 rfl ?_
            show Ev ks mX1_carries 0 [some (.inr 96), some (.inl (nI a)), some (.inl (nI b)), some (.inl (nI k)), some (.inl (nI v))] [] C _
            refine ev_aload_n0 dX1_carries_0 ?_
            refine gfX1_12 rfl (hC 96 rfl) dX1_carries_1 ?_
            refine ev_iload_n1 dX1_carries_4 ?_
            refine ev_iload_n2 dX1_carries_5 ?_
            refine ev_cV2f okX0_isWay lkX1_65 (Nat.le_of_ble_eq_true rfl) (Nat.le_of_ble_eq_true rfl) (hC 0 rfl) isO_0 (c_X0_isWay hW hn h4) dX1_carries_6 ?_
            first | refine ev_if_eqB 21 (by decide) dX1_carries_9 (fun h9 => by rw [hw] at h9; cases h9) (fun h9 => ?_)
            refine ev_iload_n3 dX1_carries_12 ?_
            refine ev_if_ltN 21 (by omega) (by decide) dX1_carries_13 ?_
            refine ev_iload4 dX1_carries_16 ?_
            refine ev_if_geN 23 (by omega) (by decide) dX1_carries_18 ?_
            refine ev_iload_n3 dX1_carries_23 ?_
            refine ev_aload_n0 dX1_carries_24 ?_
            refine gfX1_12 rfl (hC 96 rfl) dX1_carries_25 ?_
            refine ev_iload_n1 dX1_carries_28 ?_
            refine ev_iload_n2 dX1_carries_29 ?_
            refine ev_cV2f okX0_lettersOn lkX1_57 (Nat.le_of_ble_eq_true rfl) (Nat.le_of_ble_eq_true rfl) (hC 0 rfl) isO_0 (c_X0_lettersOn hW (by omega) (by omega)) dX1_carries_30 ?_
            rw [hLab.1]
            first | refine ev_icmp_ltN 39 (by omega) (by omega) (by decide) dX1_carries_33 (fun h33 => by omega) (fun h33 => ?_)
            refine ev_bipush (-9 : Int32) kb_m9 dX1_carries_36 ?_
            refine ev_ireturn rfl dX1_carries_38 ?_
            exact ⟨rfl, rfl⟩
          · have mn := (mf_n hT.1).1
            have me := (mf_n hT.1).2.1
            have m2 := (mf_n hT.1).2.2
            have mr := mf_r hT.1
            have mL := mf_L hT.1
            refine cnV okX2_carries 0 rfl ?_
            show Ev ks mX2_carries 0 [some (.inr 103), some (.inl (nI a)), some (.inl (nI b)), some (.inl (nI k)), some (.inl (nI v))] [] M _
            refine ev_aload_n0 dX2_carries_0 ?_
            refine ev_iload_n1 dX2_carries_1 ?_
            refine ev_iload_n2 dX2_carries_2 ?_
            refine ev_cV2f okX2_isWay lkX2_90 (Nat.le_of_ble_eq_true rfl) (Nat.le_of_ble_eq_true rfl) (hM 103 rfl) isO_103 (c_X2_isWay hM mn h2 h4) dX2_carries_3 ?_
            first | refine ev_if_eqB 18 (by decide) dX2_carries_6 (fun h6 => by rw [hw] at h6; cases h6) (fun h6 => ?_)
            refine ev_iload_n3 dX2_carries_9 ?_
            refine ev_if_ltN 18 (by omega) (by decide) dX2_carries_10 ?_
            refine ev_iload4 dX2_carries_13 ?_
            refine ev_if_geN 20 (by omega) (by decide) dX2_carries_15 ?_
            refine ev_iload_n3 dX2_carries_20 ?_
            refine ev_aload_n0 dX2_carries_21 ?_
            refine ev_iload_n1 dX2_carries_22 ?_
            refine ev_iload_n2 dX2_carries_23 ?_
            refine ev_cV2f okX2_letters lkX2_62 (Nat.le_of_ble_eq_true rfl) (Nat.le_of_ble_eq_true rfl) (hM 103 rfl) isO_103 (c_X2_letters hM (by omega) (by omega)) dX2_carries_24 ?_
            rw [(mL a b (by omega) (by omega)).1]
            first | refine ev_icmp_geN 51 (by omega) (by omega) (by decide) dX2_carries_27 (fun h27 => ?_) (fun h27 => by omega)
            refine ev_bipush (-9 : Int32) kb_m9 dX2_carries_51 ?_
            refine ev_ireturn rfl dX2_carries_53 ?_
            exact ⟨rfl, rfl⟩
