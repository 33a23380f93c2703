theorem c_X1_numberAt {ks : List Nat} {S : St} {x : Int32} {j : Nat} (hj : j < 2147483648) : Cn ks mX1_numberAt yX1_numberAt [.inl x, .inl (nI j)] S (Ri (nth x j) S) := by
  refine cnS okX1_numberAt 2 rfl ?_
  show Ev ks mX1_numberAt 0 [some (.inl x), some (.inl (nI j)), none, none] [] S _
  have loop : ∀ f c, c + f = 32 → Ev ks mX1_numberAt 4 [some (.inl x), some (.inl (nI j)), some (.inl (nI (fb_ct (bt x) c))), some (.inl (nI c))] [] S (Ri (nthF x j f c) S) := by
    intro f
    induction f with
    | zero =>
      intro c hc
      refine ev_iload_n3 dX1_numberAt_4 ?_
      refine ev_bipush (nI 32) kb_32 dX1_numberAt_5 ?_
      first | refine ev_icmp_geN 34 (by omega) (by omega) (by decide) dX1_numberAt_7 (fun h7 => ?_) (fun h7 => by exfalso; omega) | refine ev_icmp_ge 34 (by decide) dX1_numberAt_7 (fun h7 => ?_) (fun h7 => by exfalso; omega)
      refine ev_bipush (-9 : Int32) kb_m9 dX1_numberAt_34 ?_
      refine ev_ireturn rfl dX1_numberAt_36 ?_
      exact ⟨rfl, rfl⟩
    | succ f ih =>
      intro c hc
      have hs := fb_ct_succ (bt x) c
      have hle := fb_ct_le (bt x) c
      rw [nthF]
      refine ev_iload_n3 dX1_numberAt_4 ?_
      refine ev_bipush (nI 32) kb_32 dX1_numberAt_5 ?_
      first | refine ev_icmp_geN 34 (by omega) (by omega) (by decide) dX1_numberAt_7 (fun h7 => by exfalso; omega) (fun h7 => ?_) | refine ev_icmp_ge 34 (by decide) dX1_numberAt_7 (fun h7 => by exfalso; omega) (fun h7 => ?_)
      refine ev_iload_n0 dX1_numberAt_10 ?_
      refine ev_iload_n3 dX1_numberAt_11 ?_
      refine ev_iushr dX1_numberAt_12 ?_
      refine ev_c1 dX1_numberAt_13 ?_
      rw [nI_lit1]
      refine ev_iand dX1_numberAt_14 ?_
      rw [u_bit x c (by omega)]
      first | refine ev_if_eqB 28 (by decide) dX1_numberAt_15 (fun h15 => ?_) (fun h15 => ?_)
      · refine ev_iinc3 dX1_numberAt_28 ?_
        refine ev_goto 4 (by decide) dX1_numberAt_31 ?_
        rw [h15] at hs
        simp only [if_true, Bool.false_eq_true, if_false, Nat.add_zero] at hs
        first | (rw [if_neg (by rw [h15]; decide), ← hs]; exact ih (c + 1) (by omega)) | (rw [if_pos h15, if_neg h20, ← hs]; exact ih (c + 1) (by omega))
      · refine ev_iload_n2 dX1_numberAt_18 ?_
        refine ev_iload_n1 dX1_numberAt_19 ?_
        first | refine ev_icmp_neN 25 (by omega) (by omega) (by decide) dX1_numberAt_20 (fun h20 => ?_) (fun h20 => ?_) | refine ev_icmp_ne 25 (by decide) dX1_numberAt_20 (fun h20 => ?_) (fun h20 => ?_)
        · refine ev_iinc2 dX1_numberAt_25 ?_
          refine ev_iinc3 dX1_numberAt_28 ?_
          refine ev_goto 4 (by decide) dX1_numberAt_31 ?_
          rw [h15] at hs
          simp only [if_true, Bool.false_eq_true, if_false, Nat.add_zero] at hs
          first | (rw [if_neg (by rw [h15]; decide), ← hs]; exact ih (c + 1) (by omega)) | (rw [if_pos h15, if_neg h20, ← hs]; exact ih (c + 1) (by omega))
        · refine ev_iload_n3 dX1_numberAt_23 ?_
          refine ev_ireturn rfl dX1_numberAt_24 ?_
          exact ⟨by rw [if_pos h15, if_pos h20], rfl⟩
  refine ev_c0 dX1_numberAt_0 ?_
  refine ev_istore_n2 dX1_numberAt_1 ?_
  refine ev_c0 dX1_numberAt_2 ?_
  refine ev_istore_n3 dX1_numberAt_3 ?_
  exact loop 32 0 rfl
theorem c_X0_unsafeFor {ks : List Nat} (hW : InW ks) {S : St} {n e p : Nat} (hn : S 0 0 = nI n) (h4 : n ≤ 4) (he : S 0 1 = nI e) (he4 : e ≤ 4) (hp : p < 4) : Cn ks mX0_unsafeFor yX0_unsafeFor [.inr 0, .inl (nI p)] S (Ri (mk (fun c => bt (S 11 (p * 4 + p)) c && decide (pcn (mk (fun s => bt (S 11 (p * 4 + s)) c) n) < e)) 32) S) := by
  refine cnV okX0_unsafeFor 2 rfl ?_
  show Ev ks mX0_unsafeFor 0 [some (.inr 0), some (.inl (nI p)), none, none] [] S _
  generalize hF : (fun c => bt (S 11 (p * 4 + p)) c && decide (pcn (mk (fun s => bt (S 11 (p * 4 + s)) c) n) < e)) = F
  have hFv : ∀ c, F c = (bt (S 11 (p * 4 + p)) c && decide (pcn (mk (fun s => bt (S 11 (p * 4 + s)) c) n) < e)) := fun c => by rw [← hF]
  have loop : ∀ f c, c + f = 32 → Ev ks mX0_unsafeFor 4 [some (.inr 0), some (.inl (nI p)), some (.inl (mk F c)), some (.inl (nI c))] [] S (Ri (mk F 32) S) := by
    intro f
    induction f with
    | zero =>
      intro c hc
      refine ev_iload_n3 dX0_unsafeFor_4 ?_
      refine ev_bipush (nI 32) kb_32 dX0_unsafeFor_5 ?_
      first | refine ev_icmp_geN 50 (by omega) (by omega) (by decide) dX0_unsafeFor_7 (fun h7 => ?_) (fun h7 => by exfalso; omega) | refine ev_icmp_ge 50 (by decide) dX0_unsafeFor_7 (fun h7 => ?_) (fun h7 => by exfalso; omega)
      refine ev_iload_n2 dX0_unsafeFor_50 ?_
      refine ev_ireturn rfl dX0_unsafeFor_51 ?_
      obtain rfl : c = 32 := by omega
      exact ⟨rfl, rfl⟩
    | succ f ih =>
      intro c hc
      have hs : mk F (c + 1) = mk F c ||| (bif F c then (1 : Int32) <<< (nI c &&& 31) else 0) := rfl
      have hle := pcn_le (mk (fun s => bt (S 11 (p * 4 + s)) c) n)
      rw [hFv] at hs
      refine ev_iload_n3 dX0_unsafeFor_4 ?_
      refine ev_bipush (nI 32) kb_32 dX0_unsafeFor_5 ?_
      first | refine ev_icmp_geN 50 (by omega) (by omega) (by decide) dX0_unsafeFor_7 (fun h7 => by exfalso; omega) (fun h7 => ?_) | refine ev_icmp_ge 50 (by decide) dX0_unsafeFor_7 (fun h7 => by exfalso; omega) (fun h7 => ?_)
      refine ev_aload_n0 dX0_unsafeFor_10 ?_
      refine ev_iload_n1 dX0_unsafeFor_11 ?_
      refine ev_cV1f okX0_heldBy lkX0_104 (Nat.le_of_ble_eq_true rfl) (Nat.le_of_ble_eq_true rfl) (hW 0 rfl) isO_0 (c_X0_heldBy hW (by omega)) dX0_unsafeFor_12 ?_
      refine ev_iload_n3 dX0_unsafeFor_15 ?_
      refine ev_iushr dX0_unsafeFor_16 ?_
      refine ev_c1 dX0_unsafeFor_17 ?_
      rw [nI_lit1]
      refine ev_iand dX0_unsafeFor_18 ?_
      rw [u_bit _ c (by omega)]
      first | refine ev_if_eqB 44 (by decide) dX0_unsafeFor_19 (fun h19 => ?_) (fun h19 => ?_)
      · refine ev_iinc3 dX0_unsafeFor_44 ?_
        refine ev_goto 4 (by decide) dX0_unsafeFor_47 ?_
        rw [h19] at hs
        first | rw [decide_eq_true h35] at hs | rw [decide_eq_false (Nat.not_lt.mpr h35)] at hs | skip
        simp only [Bool.true_and, Bool.false_and, cond_true, cond_false, or_zero] at hs
        first | rw [nI_lit1] | skip
        rw [← hs]
        exact ih (c + 1) (by omega)
      · refine ev_aload_n0 dX0_unsafeFor_22 ?_
        refine ev_iload_n1 dX0_unsafeFor_23 ?_
        refine ev_iload_n3 dX0_unsafeFor_24 ?_
        refine ev_cV2f okX0_holdersKnown lkX0_113 (Nat.le_of_ble_eq_true rfl) (Nat.le_of_ble_eq_true rfl) (hW 0 rfl) isO_0 (c_X0_holdersKnown hW hn (by omega) (by omega) (by omega)) dX0_unsafeFor_25 ?_
        refine ev_cS1f okJ6_bitCount_0f7a4 lkX0_75 (Nat.le_of_ble_eq_true rfl) (Nat.le_of_ble_eq_true rfl) c_J6_bitCount_0f7a4 dX0_unsafeFor_28 ?_
        refine ev_aload_n0 dX0_unsafeFor_31 ?_
        refine gfX0_53 rfl (hW 0 rfl) dX0_unsafeFor_32 ?_
        rw [he]
        first | refine ev_icmp_geN 44 (by omega) (by omega) (by decide) dX0_unsafeFor_35 (fun h35 => ?_) (fun h35 => ?_) | refine ev_icmp_ge 44 (by decide) dX0_unsafeFor_35 (fun h35 => ?_) (fun h35 => ?_)
        · refine ev_iinc3 dX0_unsafeFor_44 ?_
          refine ev_goto 4 (by decide) dX0_unsafeFor_47 ?_
          rw [h19] at hs
          first | rw [decide_eq_true h35] at hs | rw [decide_eq_false (Nat.not_lt.mpr h35)] at hs | skip
          simp only [Bool.true_and, Bool.false_and, cond_true, cond_false, or_zero] at hs
          first | rw [nI_lit1] | skip
          rw [← hs]
          exact ih (c + 1) (by omega)
        · refine ev_iload_n2 dX0_unsafeFor_38 ?_
          refine ev_c1 dX0_unsafeFor_39 ?_
          refine ev_iload_n3 dX0_unsafeFor_40 ?_
          refine ev_ishl dX0_unsafeFor_41 ?_
          refine ev_ior dX0_unsafeFor_42 ?_
          refine ev_istore_n2 dX0_unsafeFor_43 ?_
          refine ev_iinc3 dX0_unsafeFor_44 ?_
          refine ev_goto 4 (by decide) dX0_unsafeFor_47 ?_
          rw [h19] at hs
          first | rw [decide_eq_true h35] at hs | rw [decide_eq_false (Nat.not_lt.mpr h35)] at hs | skip
          simp only [Bool.true_and, Bool.false_and, cond_true, cond_false, or_zero] at hs
          first | rw [nI_lit1] | skip
          rw [← hs]
          exact ih (c + 1) (by omega)
  refine ev_c0 dX0_unsafeFor_0 ?_
  rw [nI_0]
  refine ev_istore_n2 dX0_unsafeFor_1 ?_
  refine ev_c0 dX0_unsafeFor_2 ?_
  refine ev_istore_n3 dX0_unsafeFor_3 ?_
  exact loop 32 0 rfl
theorem c_X0_isReceipt {ks : List Nat} (hW : InW ks) {S : St} {n : Nat} {rr : Nat → Nat} (hn : S 0 0 = nI n) (h4 : n ≤ 4) (hr : ∀ q, q < n → S 1 q = nI (rr q) ∧ rr q ≤ 8) {q r : Int32} : Cn ks mX0_isReceipt yX0_isReceipt [.inr 0, .inl q, .inl r] S (Ri (bI (isS n q && isS (rr (tn q)) r)) S) := by
  refine cnV okX0_isReceipt 0 rfl ?_
  show Ev ks mX0_isReceipt 0 [some (.inr 0), some (.inl q), some (.inl r)] [] S _
  by_cases hq : isS n q = true
  · obtain ⟨j, hj, rfl⟩ := (isS_iff (by omega)).mp hq
    have hr2 := hr j hj
    refine ev_aload_n0 dX0_isReceipt_0 ?_
    refine ev_iload_n1 dX0_isReceipt_1 ?_
    refine ev_cV1f okX0_isSite lkX0_84 (Nat.le_of_ble_eq_true rfl) (Nat.le_of_ble_eq_true rfl) (hW 0 rfl) isO_0 (c_X0_isSite hW hn) dX0_isReceipt_2 ?_
    first | refine ev_if_eqB 26 (by decide) dX0_isReceipt_5 (fun h5 => by rw [hq] at h5; cases h5) (fun h5 => ?_)
    refine ev_iload_n2 dX0_isReceipt_8 ?_
    first | refine ev_if_lt 26 (by decide) dX0_isReceipt_9 (fun h9 => ?_) (fun h9 => ?_)
    · refine ev_c0 dX0_isReceipt_26 ?_
      refine ev_zreturn zr0 rfl dX0_isReceipt_27 ?_
      refine ⟨?_, rfl⟩
      rw [hq, tn_nI (by omega)]
      unfold isS
      first | (rw [decide_eq_false (Int32.not_le.mpr h9)]; rfl) | (rw [decide_eq_true (Int32.not_lt.mp h9)]; first | (rw [decide_eq_false (Int32.not_lt.mpr h19)]; rfl) | (rw [decide_eq_true (Int32.not_le.mp h19)]; rfl))
    · refine ev_iload_n2 dX0_isReceipt_12 ?_
      refine ev_aload_n0 dX0_isReceipt_13 ?_
      refine gfX0_9 rfl (hW 0 rfl) dX0_isReceipt_14 ?_
      refine ev_iload_n1 dX0_isReceipt_17 ?_
      refine ev_iald 4 rfl rfl (hW 1 rfl) (by omega) dX0_isReceipt_18 ?_
      rw [hr2.1]
      first | refine ev_icmp_ge 26 (by decide) dX0_isReceipt_19 (fun h19 => ?_) (fun h19 => ?_)
      · refine ev_c0 dX0_isReceipt_26 ?_
        refine ev_zreturn zr0 rfl dX0_isReceipt_27 ?_
        refine ⟨?_, rfl⟩
        rw [hq, tn_nI (by omega)]
        unfold isS
        first | (rw [decide_eq_false (Int32.not_le.mpr h9)]; rfl) | (rw [decide_eq_true (Int32.not_lt.mp h9)]; first | (rw [decide_eq_false (Int32.not_lt.mpr h19)]; rfl) | (rw [decide_eq_true (Int32.not_le.mp h19)]; rfl))
      · refine ev_c1 dX0_isReceipt_22 ?_
        refine ev_goto 27 (by decide) dX0_isReceipt_23 ?_
        refine ev_zreturn zr1 rfl dX0_isReceipt_27 ?_
        refine ⟨?_, rfl⟩
        rw [hq, tn_nI (by omega)]
        unfold isS
        first | (rw [decide_eq_false (Int32.not_le.mpr h9)]; rfl) | (rw [decide_eq_true (Int32.not_lt.mp h9)]; first | (rw [decide_eq_false (Int32.not_lt.mpr h19)]; rfl) | (rw [decide_eq_true (Int32.not_le.mp h19)]; rfl))
  · have hq : isS n q = false := by simpa using hq
    refine ev_aload_n0 dX0_isReceipt_0 ?_
    refine ev_iload_n1 dX0_isReceipt_1 ?_
    refine ev_cV1f okX0_isSite lkX0_84 (Nat.le_of_ble_eq_true rfl) (Nat.le_of_ble_eq_true rfl) (hW 0 rfl) isO_0 (c_X0_isSite hW hn) dX0_isReceipt_2 ?_
    first | refine ev_if_eqB 26 (by decide) dX0_isReceipt_5 (fun h5 => ?_) (fun h5 => by rw [hq] at h5; cases h5)
    refine ev_c0 dX0_isReceipt_26 ?_
    refine ev_zreturn zr0 rfl dX0_isReceipt_27 ?_
    exact ⟨by rw [hq]; rfl, rfl⟩
theorem c_X0_safeReceipts {ks : List Nat} (hW : InW ks) {S : St} {n e : Nat} {rr : Nat → Nat} (hn : S 0 0 = nI n) (h4 : n ≤ 4) (he : S 0 1 = nI e) (he4 : e ≤ 4) (hr : ∀ q, q < n → S 1 q = nI (rr q) ∧ rr q ≤ 8) : Cn ks mX0_safeReceipts yX0_safeReceipts [.inr 0] S (Ri (nI (fb_sm (fun q => fb_ct (fun r => decide (e ≤ pcn (mk (fun p => bt (S 11 (p * 4 + p)) (q * 8 + r)) n))) (rr q)) n)) S) := by
  refine cnV okX0_safeReceipts 3 rfl ?_
  show Ev ks mX0_safeReceipts 0 [some (.inr 0), none, none, none] [] S _
  generalize hG : (fun q r => decide (e ≤ pcn (mk (fun p => bt (S 11 (p * 4 + p)) (q * 8 + r)) n))) = G
  have hGv : ∀ q r, decide (e ≤ pcn (mk (fun p => bt (S 11 (p * 4 + p)) (q * 8 + r)) n)) = G q r := fun q r => by rw [← hG]
  have hF2 : (fun q => fb_ct (fun r => decide (e ≤ pcn (mk (fun p => bt (S 11 (p * 4 + p)) (q * 8 + r)) n))) (rr q)) = fun q => fb_ct (G q) (rr q) := by rw [← hG]
  rw [hF2]
  have loop2 : ∀ z q, q < n → (∀ v, Ev ks mX0_safeReceipts 4 [some (.inr 0), some (.inl (nI (fb_sm (fun q => fb_ct (G q) (rr q)) (q + 1)))), some (.inl (nI (q + 1))), v] [] S (Ri (nI (fb_sm (fun q => fb_ct (G q) (rr q)) n)) S)) → ∀ r, r + z = rr q → Ev ks mX0_safeReceipts 14 [some (.inr 0), some (.inl (nI (fb_sm (fun q => fb_ct (G q) (rr q)) q + fb_ct (G q) r))), some (.inl (nI q)), some (.inl (nI r))] [] S (Ri (nI (fb_sm (fun q => fb_ct (G q) (rr q)) n)) S) := by
    intro z q hq hnext
    have hr2 := hr q hq
    induction z with
    | zero =>
      intro r hr3
      refine ev_iload_n3 dX0_safeReceipts_14 ?_
      refine ev_aload_n0 dX0_safeReceipts_15 ?_
      refine gfX0_9 rfl (hW 0 rfl) dX0_safeReceipts_16 ?_
      refine ev_iload_n2 dX0_safeReceipts_19 ?_
      refine ev_iald 4 rfl rfl (hW 1 rfl) (by omega) dX0_safeReceipts_20 ?_
      rw [hr2.1]
      first | refine ev_icmp_geN 45 (by omega) (by omega) (by decide) dX0_safeReceipts_21 (fun h21 => ?_) (fun h21 => by exfalso; omega) | refine ev_icmp_ge 45 (by decide) dX0_safeReceipts_21 (fun h21 => ?_) (fun h21 => by exfalso; omega)
      refine ev_iinc2 dX0_safeReceipts_45 ?_
      refine ev_goto 4 (by decide) dX0_safeReceipts_48 ?_
      obtain rfl : r = rr q := by omega
      exact hnext _
    | succ z ih =>
      intro r hr3
      have hs := fb_ct_succ (G q) r
      refine ev_iload_n3 dX0_safeReceipts_14 ?_
      refine ev_aload_n0 dX0_safeReceipts_15 ?_
      refine gfX0_9 rfl (hW 0 rfl) dX0_safeReceipts_16 ?_
      refine ev_iload_n2 dX0_safeReceipts_19 ?_
      refine ev_iald 4 rfl rfl (hW 1 rfl) (by omega) dX0_safeReceipts_20 ?_
      rw [hr2.1]
      first | refine ev_icmp_geN 45 (by omega) (by omega) (by decide) dX0_safeReceipts_21 (fun h21 => by exfalso; omega) (fun h21 => ?_) | refine ev_icmp_ge 45 (by decide) dX0_safeReceipts_21 (fun h21 => by exfalso; omega) (fun h21 => ?_)
      refine ev_aload_n0 dX0_safeReceipts_24 ?_
      refine ev_iload_n2 dX0_safeReceipts_25 ?_
      refine ev_iload_n3 dX0_safeReceipts_26 ?_
      refine ev_cS2f okX0_codeOf lkX0_88 (Nat.le_of_ble_eq_true rfl) (Nat.le_of_ble_eq_true rfl) c_X0_codeOf dX0_safeReceipts_27 ?_
      refine ev_cV1f okX0_isSafe lkX0_110 (Nat.le_of_ble_eq_true rfl) (Nat.le_of_ble_eq_true rfl) (hW 0 rfl) isO_0 (c_X0_isSafe hW hn (by omega) he (by omega) (by omega)) dX0_safeReceipts_30 ?_
      rw [hGv]
      first | refine ev_if_eqB 39 (by decide) dX0_safeReceipts_33 (fun h33 => ?_) (fun h33 => ?_)
      · refine ev_iinc3 dX0_safeReceipts_39 ?_
        refine ev_goto 14 (by decide) dX0_safeReceipts_42 ?_
        rw [h33] at hs
        simp only [if_true, Bool.false_eq_true, if_false, Nat.add_zero] at hs
        first | rw [Nat.add_assoc, ← hs] | rw [← hs]
        exact ih (r + 1) (by omega)
      · refine ev_iinc1 dX0_safeReceipts_36 ?_
        refine ev_iinc3 dX0_safeReceipts_39 ?_
        refine ev_goto 14 (by decide) dX0_safeReceipts_42 ?_
        rw [h33] at hs
        simp only [if_true, Bool.false_eq_true, if_false, Nat.add_zero] at hs
        first | rw [Nat.add_assoc, ← hs] | rw [← hs]
        exact ih (r + 1) (by omega)
  have loop : ∀ f q v, q + f = n → Ev ks mX0_safeReceipts 4 [some (.inr 0), some (.inl (nI (fb_sm (fun q => fb_ct (G q) (rr q)) q))), some (.inl (nI q)), v] [] S (Ri (nI (fb_sm (fun q => fb_ct (G q) (rr q)) n)) S) := by
    intro f
    induction f with
    | zero =>
      intro q v hq
      refine ev_iload_n2 dX0_safeReceipts_4 ?_
      refine ev_aload_n0 dX0_safeReceipts_5 ?_
      refine gfX0_49 rfl (hW 0 rfl) dX0_safeReceipts_6 ?_
      rw [hn]
      first | refine ev_icmp_geN 51 (by omega) (by omega) (by decide) dX0_safeReceipts_9 (fun h9 => ?_) (fun h9 => by exfalso; omega) | refine ev_icmp_ge 51 (by decide) dX0_safeReceipts_9 (fun h9 => ?_) (fun h9 => by exfalso; omega)
      refine ev_iload_n1 dX0_safeReceipts_51 ?_
      refine ev_ireturn rfl dX0_safeReceipts_52 ?_
      obtain rfl : q = n := by omega
      exact ⟨rfl, rfl⟩
    | succ f ih =>
      intro q v hq
      refine ev_iload_n2 dX0_safeReceipts_4 ?_
      refine ev_aload_n0 dX0_safeReceipts_5 ?_
      refine gfX0_49 rfl (hW 0 rfl) dX0_safeReceipts_6 ?_
      rw [hn]
      first | refine ev_icmp_geN 51 (by omega) (by omega) (by decide) dX0_safeReceipts_9 (fun h9 => by exfalso; omega) (fun h9 => ?_) | refine ev_icmp_ge 51 (by decide) dX0_safeReceipts_9 (fun h9 => by exfalso; omega) (fun h9 => ?_)
      refine ev_c0 dX0_safeReceipts_12 ?_
      refine ev_istore_n3 dX0_safeReceipts_13 ?_
      exact loop2 (rr q) q (by omega) (fun v => ih (q + 1) v (by omega)) 0 (by omega)
  refine ev_c0 dX0_safeReceipts_0 ?_
  refine ev_istore_n1 dX0_safeReceipts_1 ?_
  refine ev_c0 dX0_safeReceipts_2 ?_
  refine ev_istore_n2 dX0_safeReceipts_3 ?_
  exact loop n 0 none (by omega)
/-- the codes that are there, were the sites d down -/
def thr (w : St) (n : Nat) (d : Int32) : Int32 := orF (fun p => bif bt d p then 0 else ((nI 255 <<< (nI (p * 8) &&& 31)) ||| w 11 (p * 4 + p))) n
/-- whether a code's receipt would be kept -/
def kf (w : St) (rr : Nat → Nat) (T : Int32) (c : Nat) : Bool := decide (c % 8 < rr (c / 8)) && decide (w 5 c &&& (T ^^^ (-1)) = 0)
theorem c_X0_keptIfDown {ks : List Nat} (hW : InW ks) {S : St} {n : Nat} {rr : Nat → Nat} {d : Int32} (hn : S 0 0 = nI n) (h4 : n ≤ 4) (hr : ∀ q, q < n → S 1 q = nI (rr q) ∧ rr q ≤ 8) : Cn ks mX0_keptIfDown yX0_keptIfDown [.inr 0, .inl d] S (Ri (mk (kf S rr (thr S n d)) (n * 8)) S) := by
  refine cnV okX0_keptIfDown 5 rfl ?_
  show Ev ks mX0_keptIfDown 0 [some (.inr 0), some (.inl d), none, none, none, none, none] [] S _
  generalize hT : thr S n d = T
  generalize hF : kf S rr T = F
  have hFv : ∀ q r, r < 8 → F (q * 8 + r) = (decide (r < rr q) && decide (S 5 (q * 8 + r) &&& (T ^^^ (-1)) = 0)) := fun q r h => by rw [← hF]; unfold kf; rw [show (q * 8 + r) % 8 = r by omega, show (q * 8 + r) / 8 = q by omega]
  have loop3 : ∀ z q, q < n → (∀ v v2, Ev ks mX0_keptIfDown 44 [some (.inr 0), some (.inl d), some (.inl T), some (.inl (mk F ((q + 1) * 8))), some (.inl (nI (q + 1))), v, v2] [] S (Ri (mk F (n * 8)) S)) → ∀ r v, r + z = rr q → Ev ks mX0_keptIfDown 56 [some (.inr 0), some (.inl d), some (.inl T), some (.inl (mk F (q * 8 + r))), some (.inl (nI q)), some (.inl (nI r)), v] [] S (Ri (mk F (n * 8)) S) := by
    intro z q hq hnext
    have hr2 := hr q hq
    induction z with
    | zero =>
      intro r v hr3
      refine ev_iload5 dX0_keptIfDown_56 ?_
      refine ev_aload_n0 dX0_keptIfDown_58 ?_
      refine gfX0_9 rfl (hW 0 rfl) dX0_keptIfDown_59 ?_
      refine ev_iload4 dX0_keptIfDown_62 ?_
      refine ev_iald 4 rfl rfl (hW 1 rfl) (by omega) dX0_keptIfDown_64 ?_
      rw [hr2.1]
      first | refine ev_icmp_geN 104 (by omega) (by omega) (by decide) dX0_keptIfDown_65 (fun h65 => ?_) (fun h65 => by exfalso; omega) | refine ev_icmp_ge 104 (by decide) dX0_keptIfDown_65 (fun h65 => ?_) (fun h65 => by exfalso; omega)
      refine ev_iinc4 dX0_keptIfDown_104 ?_
      refine ev_goto 44 (by decide) dX0_keptIfDown_107 ?_
      have e := mk_skip (f := F) (a := q * 8 + r) (b := 8 - r) (fun i h1 h2 => by
        have e2 : i = q * 8 + (i - q * 8) := by omega
        rw [e2, hFv q _ (by omega), decide_eq_false (by omega)]
        rfl)
      rw [show q * 8 + r + (8 - r) = (q + 1) * 8 by omega] at e
      rw [← e]
      exact hnext _ _
    | succ z ih =>
      intro r v hr3
      have hs : mk F (q * 8 + (r + 1)) = mk F (q * 8 + r) ||| (bif F (q * 8 + r) then (1 : Int32) <<< (nI (q * 8 + r) &&& 31) else 0) := rfl
      rw [hFv q r (by omega), decide_eq_true (by omega : r < rr q), Bool.true_and] at hs
      refine ev_iload5 dX0_keptIfDown_56 ?_
      refine ev_aload_n0 dX0_keptIfDown_58 ?_
      refine gfX0_9 rfl (hW 0 rfl) dX0_keptIfDown_59 ?_
      refine ev_iload4 dX0_keptIfDown_62 ?_
      refine ev_iald 4 rfl rfl (hW 1 rfl) (by omega) dX0_keptIfDown_64 ?_
      rw [hr2.1]
      first | refine ev_icmp_geN 104 (by omega) (by omega) (by decide) dX0_keptIfDown_65 (fun h65 => by exfalso; omega) (fun h65 => ?_) | refine ev_icmp_ge 104 (by decide) dX0_keptIfDown_65 (fun h65 => by exfalso; omega) (fun h65 => ?_)
      refine ev_iload4 dX0_keptIfDown_68 ?_
      refine ev_iload5 dX0_keptIfDown_70 ?_
      refine ev_cS2f okX0_codeOf lkX0_88 (Nat.le_of_ble_eq_true rfl) (Nat.le_of_ble_eq_true rfl) c_X0_codeOf dX0_keptIfDown_72 ?_
      refine ev_istore6 dX0_keptIfDown_75 ?_
      refine ev_aload_n0 dX0_keptIfDown_77 ?_
      refine gfX0_24 rfl (hW 0 rfl) dX0_keptIfDown_78 ?_
      refine ev_iload6 dX0_keptIfDown_81 ?_
      refine ev_iald 32 rfl rfl (hW 5 rfl) (by omega) dX0_keptIfDown_83 ?_
      refine ev_iload_n2 dX0_keptIfDown_84 ?_
      refine ev_cm1 dX0_keptIfDown_85 ?_
      refine ev_ixor dX0_keptIfDown_86 ?_
      refine ev_iand dX0_keptIfDown_87 ?_
      first | refine ev_if_ne 98 (by decide) dX0_keptIfDown_88 (fun h88 => ?_) (fun h88 => ?_)
      · refine ev_iinc5 dX0_keptIfDown_98 ?_
        refine ev_goto 56 (by decide) dX0_keptIfDown_101 ?_
        first | rw [decide_eq_true h88] at hs | rw [decide_eq_false h88] at hs
        simp only [cond_true, cond_false, or_zero] at hs
        first | rw [nI_lit1] | skip
        rw [← hs]
        exact ih (r + 1) _ (by omega)
      · refine ev_iload_n3 dX0_keptIfDown_91 ?_
        refine ev_c1 dX0_keptIfDown_92 ?_
        refine ev_iload6 dX0_keptIfDown_93 ?_
        refine ev_ishl dX0_keptIfDown_95 ?_
        refine ev_ior dX0_keptIfDown_96 ?_
        refine ev_istore_n3 dX0_keptIfDown_97 ?_
        refine ev_iinc5 dX0_keptIfDown_98 ?_
        refine ev_goto 56 (by decide) dX0_keptIfDown_101 ?_
        first | rw [decide_eq_true h88] at hs | rw [decide_eq_false h88] at hs
        simp only [cond_true, cond_false, or_zero] at hs
        first | rw [nI_lit1] | skip
        rw [← hs]
        exact ih (r + 1) _ (by omega)
  have loop2 : ∀ f q v v2, q + f = n → Ev ks mX0_keptIfDown 44 [some (.inr 0), some (.inl d), some (.inl T), some (.inl (mk F (q * 8))), some (.inl (nI q)), v, v2] [] S (Ri (mk F (n * 8)) S) := by
    intro f
    induction f with
    | zero =>
      intro q v v2 hq
      refine ev_iload4 dX0_keptIfDown_44 ?_
      refine ev_aload_n0 dX0_keptIfDown_46 ?_
      refine gfX0_49 rfl (hW 0 rfl) dX0_keptIfDown_47 ?_
      rw [hn]
      first | refine ev_icmp_geN 110 (by omega) (by omega) (by decide) dX0_keptIfDown_50 (fun h50 => ?_) (fun h50 => by exfalso; omega) | refine ev_icmp_ge 110 (by decide) dX0_keptIfDown_50 (fun h50 => ?_) (fun h50 => by exfalso; omega)
      refine ev_iload_n3 dX0_keptIfDown_110 ?_
      refine ev_ireturn rfl dX0_keptIfDown_111 ?_
      obtain rfl : q = n := by omega
      exact ⟨rfl, rfl⟩
    | succ f ih =>
      intro q v v2 hq
      refine ev_iload4 dX0_keptIfDown_44 ?_
      refine ev_aload_n0 dX0_keptIfDown_46 ?_
      refine gfX0_49 rfl (hW 0 rfl) dX0_keptIfDown_47 ?_
      rw [hn]
      first | refine ev_icmp_geN 110 (by omega) (by omega) (by decide) dX0_keptIfDown_50 (fun h50 => by exfalso; omega) (fun h50 => ?_) | refine ev_icmp_ge 110 (by decide) dX0_keptIfDown_50 (fun h50 => by exfalso; omega) (fun h50 => ?_)
      refine ev_c0 dX0_keptIfDown_53 ?_
      refine ev_istore5 dX0_keptIfDown_54 ?_
      exact loop3 (rr q) q (by omega) (fun v v2 => ih (q + 1) v v2 (by omega)) 0 _ (by omega)
  have loop : ∀ f p, p + f = n → Ev ks mX0_keptIfDown 4 [some (.inr 0), some (.inl d), some (.inl (orF (fun p => bif bt d p then 0 else ((nI 255 <<< (nI (p * 8) &&& 31)) ||| S 11 (p * 4 + p))) p)), some (.inl (nI p)), none, none, none] [] S (Ri (mk F (n * 8)) S) := by
    intro f
    induction f with
    | zero =>
      intro p hp
      obtain rfl : p = n := by omega
      unfold thr at hT
      rw [hT]
      refine ev_iload_n3 dX0_keptIfDown_4 ?_
      refine ev_aload_n0 dX0_keptIfDown_5 ?_
      refine gfX0_49 rfl (hW 0 rfl) dX0_keptIfDown_6 ?_
      rw [hn]
      first | refine ev_icmp_geN 39 (by omega) (by omega) (by decide) dX0_keptIfDown_9 (fun h9 => ?_) (fun h9 => by exfalso; omega) | refine ev_icmp_ge 39 (by decide) dX0_keptIfDown_9 (fun h9 => ?_) (fun h9 => by exfalso; omega)
      refine ev_c0 dX0_keptIfDown_39 ?_
      rw [nI_0]
      refine ev_istore_n3 dX0_keptIfDown_40 ?_
      refine ev_c0 dX0_keptIfDown_41 ?_
      refine ev_istore4 dX0_keptIfDown_42 ?_
      exact loop2 p 0 none none (by omega)
    | succ f ih =>
      intro p hp
      have hs : orF (fun p => bif bt d p then 0 else ((nI 255 <<< (nI (p * 8) &&& 31)) ||| S 11 (p * 4 + p))) (p + 1) = orF (fun p => bif bt d p then 0 else ((nI 255 <<< (nI (p * 8) &&& 31)) ||| S 11 (p * 4 + p))) p ||| (bif bt d p then 0 else ((nI 255 <<< (nI (p * 8) &&& 31)) ||| S 11 (p * 4 + p))) := rfl
      refine ev_iload_n3 dX0_keptIfDown_4 ?_
      refine ev_aload_n0 dX0_keptIfDown_5 ?_
      refine gfX0_49 rfl (hW 0 rfl) dX0_keptIfDown_6 ?_
      rw [hn]
      first | refine ev_icmp_geN 39 (by omega) (by omega) (by decide) dX0_keptIfDown_9 (fun h9 => by exfalso; omega) (fun h9 => ?_) | refine ev_icmp_ge 39 (by decide) dX0_keptIfDown_9 (fun h9 => by exfalso; omega) (fun h9 => ?_)
      refine ev_iload_n1 dX0_keptIfDown_12 ?_
      refine ev_iload_n3 dX0_keptIfDown_13 ?_
      refine ev_ishr dX0_keptIfDown_14 ?_
      refine ev_c1 dX0_keptIfDown_15 ?_
      rw [nI_lit1]
      refine ev_iand dX0_keptIfDown_16 ?_
      rw [x_bit _ p (by omega)]
      first | refine ev_if_neB 33 (by decide) dX0_keptIfDown_17 (fun h17 => ?_) (fun h17 => ?_)
      · refine ev_iinc3 dX0_keptIfDown_33 ?_
        refine ev_goto 4 (by decide) dX0_keptIfDown_36 ?_
        rw [h17] at hs
        simp only [cond_true, cond_false, or_zero] at hs
        rw [← hs]
        exact ih (p + 1) (by omega)
      · refine ev_iload_n2 dX0_keptIfDown_20 ?_
        refine ev_iload_n3 dX0_keptIfDown_21 ?_
        refine ev_cS1f okX0_codesOf lkX0_71 (Nat.le_of_ble_eq_true rfl) (Nat.le_of_ble_eq_true rfl) c_X0_codesOf dX0_keptIfDown_22 ?_
        refine ev_aload_n0 dX0_keptIfDown_25 ?_
        refine ev_iload_n3 dX0_keptIfDown_26 ?_
        refine ev_cV1f okX0_heldBy lkX0_104 (Nat.le_of_ble_eq_true rfl) (Nat.le_of_ble_eq_true rfl) (hW 0 rfl) isO_0 (c_X0_heldBy hW (by omega)) dX0_keptIfDown_27 ?_
        refine ev_ior dX0_keptIfDown_30 ?_
        refine ev_ior dX0_keptIfDown_31 ?_
        refine ev_istore_n2 dX0_keptIfDown_32 ?_
        refine ev_iinc3 dX0_keptIfDown_33 ?_
        refine ev_goto 4 (by decide) dX0_keptIfDown_36 ?_
        rw [h17] at hs
        simp only [cond_true, cond_false, or_zero] at hs
        rw [← hs]
        exact ih (p + 1) (by omega)
  refine ev_c0 dX0_keptIfDown_0 ?_
  rw [nI_0]
  refine ev_istore_n2 dX0_keptIfDown_1 ?_
  refine ev_c0 dX0_keptIfDown_2 ?_
  refine ev_istore_n3 dX0_keptIfDown_3 ?_
  exact loop n 0 (by omega)
theorem c_X0_lostBut {ks : List Nat} (hW : InW ks) {S : St} {n : Nat} {rr : Nat → Nat} {x : Int32} (hn : S 0 0 = nI n) (h4 : n ≤ 4) (hr : ∀ q, q < n → S 1 q = nI (rr q)) (hle : pcn x ≤ fb_sm rr n) : Cn ks mX0_lostBut yX0_lostBut [.inr 0, .inl x] S (Ri (nI (fb_sm rr n - pcn x)) S) := by
  refine cnV okX0_lostBut 0 rfl ?_
  show Ev ks mX0_lostBut 0 [some (.inr 0), some (.inl x)] [] S _
  refine ev_aload_n0 dX0_lostBut_0 ?_
  refine ev_cV0f okX0_allReceipts lkX0_142 (Nat.le_of_ble_eq_true rfl) (Nat.le_of_ble_eq_true rfl) (hW 0 rfl) isO_0 (c_X0_allReceipts hW hn h4 hr) dX0_lostBut_1 ?_
  refine ev_iload_n1 dX0_lostBut_4 ?_
  refine ev_cS1f okJ6_bitCount_0f7a4 lkX0_75 (Nat.le_of_ble_eq_true rfl) (Nat.le_of_ble_eq_true rfl) c_J6_bitCount_0f7a4 dX0_lostBut_5 ?_
  first | refine ev_isubN (by omega) dX0_lostBut_8 ?_ | refine ev_isub dX0_lostBut_8 ?_
  refine ev_ireturn rfl dX0_lostBut_9 ?_
  exact ⟨rfl, rfl⟩
theorem c_X0_orphansBut {ks : List Nat} (hW : InW ks) {S : St} {n : Nat} {rr : Nat → Nat} {x d : Int32} (hn : S 0 0 = nI n) (h4 : n ≤ 4) (hr : ∀ q, q < n → S 1 q = nI (rr q) ∧ rr q ≤ 8) : Cn ks mX0_orphansBut yX0_orphansBut [.inr 0, .inl x, .inl d] S (Ri (nI (fb_ct (fun q => !bt d q && decide (pcn (x &&& (nI 255 <<< (nI (q * 8) &&& 31))) < rr q)) n)) S) := by
  refine cnV okX0_orphansBut 2 rfl ?_
  show Ev ks mX0_orphansBut 0 [some (.inr 0), some (.inl x), some (.inl d), none, none] [] S _
  have loop : ∀ f k, k + f = n → Ev ks mX0_orphansBut 5 [some (.inr 0), some (.inl x), some (.inl d), some (.inl (nI (fb_ct (fun q => !bt d q && decide (pcn (x &&& (nI 255 <<< (nI (q * 8) &&& 31))) < rr q)) k))), some (.inl (nI k))] [] S (Ri (nI (fb_ct (fun q => !bt d q && decide (pcn (x &&& (nI 255 <<< (nI (q * 8) &&& 31))) < rr q)) n)) S) := by
    intro f
    induction f with
    | zero =>
      intro k hk
      refine ev_iload4 dX0_orphansBut_5 ?_
      refine ev_aload_n0 dX0_orphansBut_7 ?_
      refine gfX0_49 rfl (hW 0 rfl) dX0_orphansBut_8 ?_
      rw [hn]
      first | refine ev_icmp_geN 48 (by omega) (by omega) (by decide) dX0_orphansBut_11 (fun h11 => ?_) (fun h11 => by exfalso; omega) | refine ev_icmp_ge 48 (by decide) dX0_orphansBut_11 (fun h11 => ?_) (fun h11 => by exfalso; omega)
      refine ev_iload_n3 dX0_orphansBut_48 ?_
      refine ev_ireturn rfl dX0_orphansBut_49 ?_
      obtain rfl : k = n := by omega
      exact ⟨rfl, rfl⟩
    | succ f ih =>
      intro k hk
      have hr2 := hr k (by omega)
      have hle := pcn_le (x &&& (nI 255 <<< (nI (k * 8) &&& 31)))
      have hs := fb_ct_succ (fun q => !bt d q && decide (pcn (x &&& (nI 255 <<< (nI (q * 8) &&& 31))) < rr q)) k
      refine ev_iload4 dX0_orphansBut_5 ?_
      refine ev_aload_n0 dX0_orphansBut_7 ?_
      refine gfX0_49 rfl (hW 0 rfl) dX0_orphansBut_8 ?_
      rw [hn]
      first | refine ev_icmp_geN 48 (by omega) (by omega) (by decide) dX0_orphansBut_11 (fun h11 => by exfalso; omega) (fun h11 => ?_) | refine ev_icmp_ge 48 (by decide) dX0_orphansBut_11 (fun h11 => by exfalso; omega) (fun h11 => ?_)
      refine ev_iload_n2 dX0_orphansBut_14 ?_
      refine ev_iload4 dX0_orphansBut_15 ?_
      refine ev_ishr dX0_orphansBut_17 ?_
      refine ev_c1 dX0_orphansBut_18 ?_
      rw [nI_lit1]
      refine ev_iand dX0_orphansBut_19 ?_
      rw [x_bit _ k (by omega)]
      first | refine ev_if_neB 42 (by decide) dX0_orphansBut_20 (fun h20 => ?_) (fun h20 => ?_)
      · refine ev_iinc4 dX0_orphansBut_42 ?_
        refine ev_goto 5 (by decide) dX0_orphansBut_45 ?_
        first | rw [h20] at hs | skip
        first | rw [decide_eq_true h36] at hs | rw [decide_eq_false (Nat.not_lt.mpr h36)] at hs | skip
        simp only [Bool.not_true, Bool.not_false, Bool.false_and, Bool.true_and, if_true, Bool.false_eq_true, if_false, Nat.add_zero] at hs
        rw [← hs]
        exact ih (k + 1) (by omega)
      · refine ev_iload_n1 dX0_orphansBut_23 ?_
        refine ev_iload4 dX0_orphansBut_24 ?_
        refine ev_cS2f okX0_receiptsIn lkX0_146 (Nat.le_of_ble_eq_true rfl) (Nat.le_of_ble_eq_true rfl) c_X0_receiptsIn dX0_orphansBut_26 ?_
        refine ev_aload_n0 dX0_orphansBut_29 ?_
        refine gfX0_9 rfl (hW 0 rfl) dX0_orphansBut_30 ?_
        refine ev_iload4 dX0_orphansBut_33 ?_
        refine ev_iald 4 rfl rfl (hW 1 rfl) (by omega) dX0_orphansBut_35 ?_
        rw [hr2.1]
        first | refine ev_icmp_geN 42 (by omega) (by omega) (by decide) dX0_orphansBut_36 (fun h36 => ?_) (fun h36 => ?_) | refine ev_icmp_ge 42 (by decide) dX0_orphansBut_36 (fun h36 => ?_) (fun h36 => ?_)
        · refine ev_iinc4 dX0_orphansBut_42 ?_
          refine ev_goto 5 (by decide) dX0_orphansBut_45 ?_
          first | rw [h20] at hs | skip
          first | rw [decide_eq_true h36] at hs | rw [decide_eq_false (Nat.not_lt.mpr h36)] at hs | skip
          simp only [Bool.not_true, Bool.not_false, Bool.false_and, Bool.true_and, if_true, Bool.false_eq_true, if_false, Nat.add_zero] at hs
          rw [← hs]
          exact ih (k + 1) (by omega)
        · refine ev_iinc3 dX0_orphansBut_39 ?_
          refine ev_iinc4 dX0_orphansBut_42 ?_
          refine ev_goto 5 (by decide) dX0_orphansBut_45 ?_
          first | rw [h20] at hs | skip
          first | rw [decide_eq_true h36] at hs | rw [decide_eq_false (Nat.not_lt.mpr h36)] at hs | skip
          simp only [Bool.not_true, Bool.not_false, Bool.false_and, Bool.true_and, if_true, Bool.false_eq_true, if_false, Nat.add_zero] at hs
          rw [← hs]
          exact ih (k + 1) (by omega)
  refine ev_c0 dX0_orphansBut_0 ?_
  refine ev_istore_n3 dX0_orphansBut_1 ?_
  refine ev_c0 dX0_orphansBut_2 ?_
  refine ev_istore4 dX0_orphansBut_3 ?_
  exact loop n 0 (by omega)
