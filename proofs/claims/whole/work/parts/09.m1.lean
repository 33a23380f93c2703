theorem c_X2_in {ks : List Nat} {S : St} {v a b : Int32} : Cn ks mX2_in yX2_in [.inl v, .inl a, .inl b] S (Ri (bI (decide (a ≤ v) && decide (v ≤ b))) S) := by
  refine cnS okX2_in 0 rfl ?_
  show Ev ks mX2_in 0 [some (.inl v), some (.inl a), some (.inl b)] [] S _
  refine ev_iload_n0 dX2_in_0 ?_
  refine ev_iload_n1 dX2_in_1 ?_
  first | refine ev_icmp_lt 14 (by decide) dX2_in_2 (fun h2 => ?_) (fun h2 => ?_)
  · refine ev_c0 dX2_in_14 ?_
    refine ev_zreturn zr0 rfl dX2_in_15 ?_
    refine ⟨?_, rfl⟩
    first | rw [decide_eq_false (Int32.not_le.mpr h2)] | rw [decide_eq_true (Int32.not_lt.mp h2)]
    first | rfl | (rw [decide_eq_false (Int32.not_le.mpr h7)]; rfl) | (rw [decide_eq_true (Int32.not_lt.mp h7)]; rfl)
  · refine ev_iload_n0 dX2_in_5 ?_
    refine ev_iload_n2 dX2_in_6 ?_
    first | refine ev_icmp_gt 14 (by decide) dX2_in_7 (fun h7 => ?_) (fun h7 => ?_)
    · refine ev_c0 dX2_in_14 ?_
      refine ev_zreturn zr0 rfl dX2_in_15 ?_
      refine ⟨?_, rfl⟩
      first | rw [decide_eq_false (Int32.not_le.mpr h2)] | rw [decide_eq_true (Int32.not_lt.mp h2)]
      first | rfl | (rw [decide_eq_false (Int32.not_le.mpr h7)]; rfl) | (rw [decide_eq_true (Int32.not_lt.mp h7)]; rfl)
    · refine ev_c1 dX2_in_10 ?_
      refine ev_goto 15 (by decide) dX2_in_11 ?_
      refine ev_zreturn zr1 rfl dX2_in_15 ?_
      refine ⟨?_, rfl⟩
      first | rw [decide_eq_false (Int32.not_le.mpr h2)] | rw [decide_eq_true (Int32.not_lt.mp h2)]
      first | rfl | (rw [decide_eq_false (Int32.not_le.mpr h7)]; rfl) | (rw [decide_eq_true (Int32.not_lt.mp h7)]; rfl)
theorem c_X2_has {ks : List Nat} {S : St} {x : Int32} {c : Nat} (hc : c < 32) : Cn ks mX2_has yX2_has [.inl x, .inl (nI c)] S (Ri (bI (bt x c)) S) := by
  refine cnS okX2_has 0 rfl ?_
  show Ev ks mX2_has 0 [some (.inl x), some (.inl (nI c))] [] S _
  refine ev_iload_n0 dX2_has_0 ?_
  refine ev_iload_n1 dX2_has_1 ?_
  refine ev_ishr dX2_has_2 ?_
  refine ev_c1 dX2_has_3 ?_
  rw [nI_lit1]
  refine ev_iand dX2_has_4 ?_
  rw [x_bit x c hc]
  refine ev_c1 dX2_has_5 ?_
  first | refine ev_icmp_ne 13 (by decide) dX2_has_6 (fun h6 => ?_) (fun h6 => ?_)
  · refine ev_c0 dX2_has_13 ?_
    refine ev_zreturn zr0 rfl dX2_has_14 ?_
    refine ⟨?_, rfl⟩
    rw [bI_1] at h6
    cases hb : bt x c
    · first | rfl | exact absurd h6 (by rw [hb]; decide)
    · first | rfl | exact absurd hb h6
  · refine ev_c1 dX2_has_9 ?_
    refine ev_goto 14 (by decide) dX2_has_10 ?_
    refine ev_zreturn zr1 rfl dX2_has_14 ?_
    refine ⟨?_, rfl⟩
    rw [bI_1] at h6
    cases hb : bt x c
    · first | rfl | exact absurd h6 (by rw [hb]; decide)
    · first | rfl | exact absurd hb h6
theorem c_X2_bits {ks : List Nat} {S : St} {x : Int32} : Cn ks mX2_bits yX2_bits [.inl x] S (Ri (nI (pcn x)) S) := by
  refine cnS okX2_bits 2 rfl ?_
  show Ev ks mX2_bits 0 [some (.inl x), none, none] [] S _
  have loop : ∀ f k, k + f = 32 → Ev ks mX2_bits 4 [some (.inl x), some (.inl (nI (fb_ct (bt x) k))), some (.inl (nI k))] [] S (Ri (nI (pcn x)) S) := by
    intro f
    induction f with
    | zero =>
      intro k hk
      refine ev_iload_n2 dX2_bits_4 ?_
      refine ev_bipush (nI 32) kb_32 dX2_bits_5 ?_
      first | refine ev_icmp_geN 32 (by omega) (by omega) (by decide) dX2_bits_7 (fun h7 => ?_) (fun h7 => by exfalso; omega) | refine ev_icmp_ge 32 (by decide) dX2_bits_7 (fun h7 => ?_) (fun h7 => by exfalso; omega)
      refine ev_iload_n1 dX2_bits_32 ?_
      refine ev_ireturn rfl dX2_bits_33 ?_
      obtain rfl : k = 32 := by omega
      exact ⟨rfl, rfl⟩
    | succ f ih =>
      intro k hk
      have hs := fb_ct_succ (bt x) k
      refine ev_iload_n2 dX2_bits_4 ?_
      refine ev_bipush (nI 32) kb_32 dX2_bits_5 ?_
      first | refine ev_icmp_geN 32 (by omega) (by omega) (by decide) dX2_bits_7 (fun h7 => by exfalso; omega) (fun h7 => ?_) | refine ev_icmp_ge 32 (by decide) dX2_bits_7 (fun h7 => by exfalso; omega) (fun h7 => ?_)
      refine ev_iload_n1 dX2_bits_10 ?_
      refine ev_iload_n0 dX2_bits_11 ?_
      refine ev_iload_n2 dX2_bits_12 ?_
      refine ev_cS2f okX2_has lkX2_39 (Nat.le_of_ble_eq_true rfl) (Nat.le_of_ble_eq_true rfl) (c_X2_has (by omega)) dX2_bits_13 ?_
      first | refine ev_if_eqB 23 (by decide) dX2_bits_16 (fun h16 => ?_) (fun h16 => ?_)
      · refine ev_c0 dX2_bits_23 ?_
        first | refine ev_iaddN dX2_bits_24 ?_ | refine ev_iadd dX2_bits_24 ?_
        refine ev_istore_n1 dX2_bits_25 ?_
        refine ev_iinc2 dX2_bits_26 ?_
        refine ev_goto 4 (by decide) dX2_bits_29 ?_
        rw [h16] at hs
        simp only [if_true, Bool.false_eq_true, if_false] at hs
        rw [← hs]
        exact ih (k + 1) (by omega)
      · refine ev_c1 dX2_bits_19 ?_
        refine ev_goto 24 (by decide) dX2_bits_20 ?_
        first | refine ev_iaddN dX2_bits_24 ?_ | refine ev_iadd dX2_bits_24 ?_
        refine ev_istore_n1 dX2_bits_25 ?_
        refine ev_iinc2 dX2_bits_26 ?_
        refine ev_goto 4 (by decide) dX2_bits_29 ?_
        rw [h16] at hs
        simp only [if_true, Bool.false_eq_true, if_false] at hs
        rw [← hs]
        exact ih (k + 1) (by omega)
  refine ev_c0 dX2_bits_0 ?_
  refine ev_istore_n1 dX2_bits_1 ?_
  refine ev_c0 dX2_bits_2 ?_
  refine ev_istore_n2 dX2_bits_3 ?_
  exact loop 32 0 rfl
theorem c_X2_start {ks : List Nat} (hM : InM ks) {S : St} {a b : Int32} : Cn ks mX2_start yX2_start [.inr 103, .inl a, .inl b] S (Rv (sr S 104 (fun i => if i = 0 then a else if i = 1 then b else 0))) := by
  refine cnV okX2_start 1 rfl ?_
  show Ev ks mX2_start 0 [some (.inr 103), some (.inl a), some (.inl b), none] [] S _
  have loop : ∀ f k, k + f = 1263 → Ev ks mX2_start 2 [some (.inr 103), some (.inl a), some (.inl b), some (.inl (nI k))] [] (sr S 104 (fun i => if i < k then 0 else S 104 i)) (Rv (sr S 104 (fun i => if i = 0 then a else if i = 1 then b else 0))) := by
    intro f
    induction f with
    | zero =>
      intro k hk
      refine ev_iload_n3 dX2_start_2 ?_
      refine ev_sipush (nI 1263) kh_1263 dX2_start_3 ?_
      first | refine ev_icmp_geN 22 (by omega) (by omega) (by decide) dX2_start_6 (fun h6 => ?_) (fun h6 => by exfalso; omega) | refine ev_icmp_ge 22 (by decide) dX2_start_6 (fun h6 => ?_) (fun h6 => by exfalso; omega)
      refine ev_aload_n0 dX2_start_22 ?_
      refine gfX2_7 rfl (hM 103 rfl) dX2_start_23 ?_
      refine ev_c0 dX2_start_26 ?_
      refine ev_iload_n1 dX2_start_27 ?_
      refine ev_iast 1263 rfl rfl (hM 104 rfl) (by omega) dX2_start_28 ?_
      rw [st_sr]
      refine ev_aload_n0 dX2_start_29 ?_
      refine gfX2_7 rfl (hM 103 rfl) dX2_start_30 ?_
      refine ev_c1 dX2_start_33 ?_
      refine ev_iload_n2 dX2_start_34 ?_
      refine ev_iast 1263 rfl rfl (hM 104 rfl) (by omega) dX2_start_35 ?_
      rw [st_sr]
      obtain rfl : k = 1263 := by omega
      refine ev_cong (S' := sr S 104 (fun i => if i = 0 then a else if i = 1 then b else 0)) (fun q hq i hi => ?_) ?_
      · by_cases h : q = 104
        · subst h
          have hi : i < 1263 := hi
          rw [sr_s, sr_s]
          unfold upd
          by_cases h1 : i = 1
          · simp [h1]
          · by_cases h0 : i = 0
            · simp [h0]
            · simp [h1, h0, hi]
        · rw [sr_n h, sr_n h]
      refine ev_return rfl dX2_start_36 ?_
      exact ⟨rfl, rfl⟩
    | succ f ih =>
      intro k hk
      refine ev_iload_n3 dX2_start_2 ?_
      refine ev_sipush (nI 1263) kh_1263 dX2_start_3 ?_
      first | refine ev_icmp_geN 22 (by omega) (by omega) (by decide) dX2_start_6 (fun h6 => by exfalso; omega) (fun h6 => ?_) | refine ev_icmp_ge 22 (by decide) dX2_start_6 (fun h6 => by exfalso; omega) (fun h6 => ?_)
      refine ev_aload_n0 dX2_start_9 ?_
      refine gfX2_7 rfl (hM 103 rfl) dX2_start_10 ?_
      refine ev_iload_n3 dX2_start_13 ?_
      refine ev_c0 dX2_start_14 ?_
      refine ev_iast 1263 rfl rfl (hM 104 rfl) (by omega) dX2_start_15 ?_
      refine ev_iinc3 dX2_start_16 ?_
      refine ev_goto 2 (by decide) dX2_start_19 ?_
      rw [st_sr]
      have e : upd (fun i => if i < k then 0 else S 104 i) k (nI 0) = (fun i => if i < k + 1 then 0 else S 104 i) := by
        funext i
        unfold upd
        by_cases h : i = k
        · rw [if_pos h, if_pos (by omega), nI_0]
        · rw [if_neg h]
          dsimp only
          by_cases h2 : i < k
          · rw [if_pos h2, if_pos (by omega)]
          · rw [if_neg h2, if_neg (by omega)]
      rw [e]
      exact ih (k + 1) (by omega)
  refine ev_c0 dX2_start_0 ?_
  refine ev_istore_n3 dX2_start_1 ?_
  have h := loop 1263 0 rfl
  have e : sr S 104 (fun i => if i < 0 then 0 else S 104 i) = S := by
    have : (fun i => if i < 0 then 0 else S 104 i) = S 104 := by funext i; rw [if_neg (by omega)]
    rw [this, sr_self]
  rw [e] at h
  exact h
theorem c_X2_many {ks : List Nat} (hM : InM ks) {S : St} {n : Nat} (hn : S 104 0 = nI n) : Cn ks mX2_many yX2_many [.inr 103] S (Ri (nI n) S) := by
  refine cnV okX2_many 0 rfl ?_
  show Ev ks mX2_many 0 [some (.inr 103)] [] S _
  refine ev_aload_n0 dX2_many_0 ?_
  refine gfX2_7 rfl (hM 103 rfl) dX2_many_1 ?_
  refine ev_c0 dX2_many_4 ?_
  refine ev_iald 1263 rfl rfl (hM 104 rfl) (by omega) dX2_many_5 ?_
  rw [hn]
  refine ev_ireturn rfl dX2_many_6 ?_
  exact ⟨rfl, rfl⟩
theorem c_X2_isSite {ks : List Nat} (hM : InM ks) {S : St} {n : Nat} (hn : S 104 0 = nI n) (h2 : 2 ≤ n) (h4 : n ≤ 4) {q : Int32} : Cn ks mX2_isSite yX2_isSite [.inr 103, .inl q] S (Ri (bI (isS n q)) S) := by
  refine cnV okX2_isSite 0 rfl ?_
  show Ev ks mX2_isSite 0 [some (.inr 103), some (.inl q)] [] S _
  refine ev_iload_n1 dX2_isSite_0 ?_
  refine ev_c0 dX2_isSite_1 ?_
  refine ev_aload_n0 dX2_isSite_2 ?_
  refine gfX2_7 rfl (hM 103 rfl) dX2_isSite_3 ?_
  refine ev_c0 dX2_isSite_6 ?_
  refine ev_iald 1263 rfl rfl (hM 104 rfl) (by omega) dX2_isSite_7 ?_
  rw [hn]
  refine ev_c1 dX2_isSite_8 ?_
  first | refine ev_isubN (by omega) dX2_isSite_9 ?_ | refine ev_isub dX2_isSite_9 ?_
  refine ev_cS3f okX2_in lkX2_43 (Nat.le_of_ble_eq_true rfl) (Nat.le_of_ble_eq_true rfl) c_X2_in dX2_isSite_10 ?_
  rw [isS_le (by omega) (by omega)]
  refine ev_zreturn (bI_01 _) rfl dX2_isSite_13 ?_
  exact ⟨rfl, rfl⟩
theorem c_X2_isDown {ks : List Nat} (hM : InM ks) {S : St} {q : Nat} (hq : q < 32) : Cn ks mX2_isDown yX2_isDown [.inr 103, .inl (nI q)] S (Ri (bI (bt (S 104 2) q)) S) := by
  refine cnV okX2_isDown 0 rfl ?_
  show Ev ks mX2_isDown 0 [some (.inr 103), some (.inl (nI q))] [] S _
  refine ev_aload_n0 dX2_isDown_0 ?_
  refine gfX2_7 rfl (hM 103 rfl) dX2_isDown_1 ?_
  refine ev_c2 dX2_isDown_4 ?_
  refine ev_iald 1263 rfl rfl (hM 104 rfl) (by omega) dX2_isDown_5 ?_
  refine ev_iload_n1 dX2_isDown_6 ?_
  refine ev_cS2f okX2_has lkX2_39 (Nat.le_of_ble_eq_true rfl) (Nat.le_of_ble_eq_true rfl) (c_X2_has (by omega)) dX2_isDown_7 ?_
  refine ev_zreturn (bI_01 _) rfl dX2_isDown_10 ?_
  exact ⟨rfl, rfl⟩
theorem c_X2_receipts {ks : List Nat} (hM : InM ks) {S : St} {q : Nat} (hq : q < 4) : Cn ks mX2_receipts yX2_receipts [.inr 103, .inl (nI q)] S (Ri (S 104 (3 + q)) S) := by
  refine cnV okX2_receipts 0 rfl ?_
  show Ev ks mX2_receipts 0 [some (.inr 103), some (.inl (nI q))] [] S _
  refine ev_aload_n0 dX2_receipts_0 ?_
  refine gfX2_7 rfl (hM 103 rfl) dX2_receipts_1 ?_
  refine ev_c3 dX2_receipts_4 ?_
  refine ev_iload_n1 dX2_receipts_5 ?_
  first | refine ev_iaddN dX2_receipts_6 ?_ | refine ev_iadd dX2_receipts_6 ?_
  refine ev_iald 1263 rfl rfl (hM 104 rfl) (by omega) dX2_receipts_7 ?_
  refine ev_ireturn rfl dX2_receipts_8 ?_
  exact ⟨rfl, rfl⟩
theorem c_X2_ofReceipt {ks : List Nat} (hM : InM ks) {S : St} {q r a : Nat} (hq : q < 4) (hr : r < 8) (ha : a < 3) : Cn ks mX2_ofReceipt yX2_ofReceipt [.inr 103, .inl (nI q), .inl (nI r), .inl (nI a)] S (Ri (S 104 (7 + 24 * q + 3 * r + a)) S) := by
  refine cnV okX2_ofReceipt 0 rfl ?_
  show Ev ks mX2_ofReceipt 0 [some (.inr 103), some (.inl (nI q)), some (.inl (nI r)), some (.inl (nI a))] [] S _
  refine ev_aload_n0 dX2_ofReceipt_0 ?_
  refine gfX2_7 rfl (hM 103 rfl) dX2_ofReceipt_1 ?_
  refine ev_bipush (nI 7) kb_7 dX2_ofReceipt_4 ?_
  refine ev_bipush (nI 24) kb_24 dX2_ofReceipt_6 ?_
  refine ev_iload_n1 dX2_ofReceipt_8 ?_
  first | refine ev_imulN dX2_ofReceipt_9 ?_ | refine ev_imul dX2_ofReceipt_9 ?_
  first | refine ev_iaddN dX2_ofReceipt_10 ?_ | refine ev_iadd dX2_ofReceipt_10 ?_
  refine ev_c3 dX2_ofReceipt_11 ?_
  refine ev_iload_n2 dX2_ofReceipt_12 ?_
  first | refine ev_imulN dX2_ofReceipt_13 ?_ | refine ev_imul dX2_ofReceipt_13 ?_
  first | refine ev_iaddN dX2_ofReceipt_14 ?_ | refine ev_iadd dX2_ofReceipt_14 ?_
  refine ev_iload_n3 dX2_ofReceipt_15 ?_
  first | refine ev_iaddN dX2_ofReceipt_16 ?_ | refine ev_iadd dX2_ofReceipt_16 ?_
  refine ev_iald 1263 rfl rfl (hM 104 rfl) (by omega) dX2_ofReceipt_17 ?_
  refine ev_ireturn rfl dX2_ofReceipt_18 ?_
  exact ⟨rfl, rfl⟩
theorem c_X2_stateOf {ks : List Nat} (hM : InM ks) {S : St} {q r : Nat} (hq : q < 4) (hr : S 104 (3 + q) = nI r) (h8 : r ≤ 8) : Cn ks mX2_stateOf yX2_stateOf [.inr 103, .inl (nI q)] S (Ri (if r = 0 then nI (q + 1) else S 104 (7 + 24 * q + 3 * (r - 1) + 2)) S) := by
  refine cnV okX2_stateOf 0 rfl ?_
  show Ev ks mX2_stateOf 0 [some (.inr 103), some (.inl (nI q))] [] S _
  refine ev_aload_n0 dX2_stateOf_0 ?_
  refine ev_iload_n1 dX2_stateOf_1 ?_
  refine ev_cV1f okX2_receipts lkX2_47 (Nat.le_of_ble_eq_true rfl) (Nat.le_of_ble_eq_true rfl) (hM 103 rfl) isO_103 (c_X2_receipts hM (by omega)) dX2_stateOf_2 ?_
  rw [hr]
  first | refine ev_if_neN 14 (by omega) (by decide) dX2_stateOf_5 (fun h5 => ?_) (fun h5 => ?_) | refine ev_if_ne 14 (by decide) dX2_stateOf_5 (fun h5 => ?_) (fun h5 => ?_)
  · refine ev_aload_n0 dX2_stateOf_14 ?_
    refine ev_iload_n1 dX2_stateOf_15 ?_
    refine ev_aload_n0 dX2_stateOf_16 ?_
    refine ev_iload_n1 dX2_stateOf_17 ?_
    refine ev_cV1f okX2_receipts lkX2_47 (Nat.le_of_ble_eq_true rfl) (Nat.le_of_ble_eq_true rfl) (hM 103 rfl) isO_103 (c_X2_receipts hM (by omega)) dX2_stateOf_18 ?_
    rw [hr]
    refine ev_c1 dX2_stateOf_21 ?_
    first | refine ev_isubN (by omega) dX2_stateOf_22 ?_ | refine ev_isub dX2_stateOf_22 ?_
    refine ev_c2 dX2_stateOf_23 ?_
    refine ev_cV3f okX2_ofReceipt lkX2_51 (Nat.le_of_ble_eq_true rfl) (Nat.le_of_ble_eq_true rfl) (hM 103 rfl) isO_103 (c_X2_ofReceipt hM (by omega) (by omega) (by omega)) dX2_stateOf_24 ?_
    refine ev_ireturn rfl dX2_stateOf_27 ?_
    refine ⟨?_, rfl⟩
    first | rw [if_pos h5] | rw [if_neg (by omega)]
  · refine ev_iload_n1 dX2_stateOf_8 ?_
    refine ev_c1 dX2_stateOf_9 ?_
    first | refine ev_iaddN dX2_stateOf_10 ?_ | refine ev_iadd dX2_stateOf_10 ?_
    refine ev_goto 27 (by decide) dX2_stateOf_11 ?_
    refine ev_ireturn rfl dX2_stateOf_27 ?_
    refine ⟨?_, rfl⟩
    first | rw [if_pos h5] | rw [if_neg (by omega)]
theorem c_X2_way {ks : List Nat} {S : St} {x y : Nat} : Cn ks mX2_way yX2_way [.inl (nI x), .inl (nI y)] S (Ri (nI (4 * x + y)) S) := by
  refine cnS okX2_way 0 rfl ?_
  show Ev ks mX2_way 0 [some (.inl (nI x)), some (.inl (nI y))] [] S _
  refine ev_c4 dX2_way_0 ?_
  refine ev_iload_n0 dX2_way_1 ?_
  first | refine ev_imulN dX2_way_2 ?_ | refine ev_imul dX2_way_2 ?_
  refine ev_iload_n1 dX2_way_3 ?_
  first | refine ev_iaddN dX2_way_4 ?_ | refine ev_iadd dX2_way_4 ?_
  refine ev_ireturn rfl dX2_way_5 ?_
  exact ⟨rfl, rfl⟩
theorem c_X2_letters {ks : List Nat} (hM : InM ks) {S : St} {x y : Nat} (hx : x < 5) (hy : y < 4) : Cn ks mX2_letters yX2_letters [.inr 103, .inl (nI x), .inl (nI y)] S (Ri (S 104 (123 + (4 * x + y))) S) := by
  refine cnV okX2_letters 0 rfl ?_
  show Ev ks mX2_letters 0 [some (.inr 103), some (.inl (nI x)), some (.inl (nI y))] [] S _
  refine ev_aload_n0 dX2_letters_0 ?_
  refine gfX2_7 rfl (hM 103 rfl) dX2_letters_1 ?_
  refine ev_bipush (nI 123) kb_123 dX2_letters_4 ?_
  refine ev_iload_n1 dX2_letters_6 ?_
  refine ev_iload_n2 dX2_letters_7 ?_
  refine ev_cS2f okX2_way lkX2_55 (Nat.le_of_ble_eq_true rfl) (Nat.le_of_ble_eq_true rfl) c_X2_way dX2_letters_8 ?_
  first | refine ev_iaddN dX2_letters_11 ?_ | refine ev_iadd dX2_letters_11 ?_
  refine ev_iald 1263 rfl rfl (hM 104 rfl) (by omega) dX2_letters_12 ?_
  refine ev_ireturn rfl dX2_letters_13 ?_
  exact ⟨rfl, rfl⟩
theorem c_X2_letterAt {ks : List Nat} {S : St} {x y k : Nat} : Cn ks mX2_letterAt yX2_letterAt [.inl (nI x), .inl (nI y), .inl (nI k)] S (Ri (nI (143 + 7 * (8 * (4 * x + y) + k))) S) := by
  refine cnS okX2_letterAt 0 rfl ?_
  show Ev ks mX2_letterAt 0 [some (.inl (nI x)), some (.inl (nI y)), some (.inl (nI k))] [] S _
  refine ev_sipush (nI 143) kh_143 dX2_letterAt_0 ?_
  refine ev_bipush (nI 7) kb_7 dX2_letterAt_3 ?_
  refine ev_bipush (nI 8) kb_8 dX2_letterAt_5 ?_
  refine ev_iload_n0 dX2_letterAt_7 ?_
  refine ev_iload_n1 dX2_letterAt_8 ?_
  refine ev_cS2f okX2_way lkX2_55 (Nat.le_of_ble_eq_true rfl) (Nat.le_of_ble_eq_true rfl) c_X2_way dX2_letterAt_9 ?_
  first | refine ev_imulN dX2_letterAt_12 ?_ | refine ev_imul dX2_letterAt_12 ?_
  refine ev_iload_n2 dX2_letterAt_13 ?_
  first | refine ev_iaddN dX2_letterAt_14 ?_ | refine ev_iadd dX2_letterAt_14 ?_
  first | refine ev_imulN dX2_letterAt_15 ?_ | refine ev_imul dX2_letterAt_15 ?_
  first | refine ev_iaddN dX2_letterAt_16 ?_ | refine ev_iadd dX2_letterAt_16 ?_
  refine ev_ireturn rfl dX2_letterAt_17 ?_
  exact ⟨rfl, rfl⟩
/-- four bits of a word -/
def kni (w : Int32) (c : Nat) : Int32 := (w >>> (nI (4 * (c % 8)) &&& 31)) &&& nI 15
theorem c_X2_knownIn {ks : List Nat} {S : St} {w : Int32} {c : Nat} (hc : c < 32) : Cn ks mX2_knownIn yX2_knownIn [.inl w, .inl (nI c)] S (Ri (kni w c) S) := by
  refine cnS okX2_knownIn 0 rfl ?_
  show Ev ks mX2_knownIn 0 [some (.inl w), some (.inl (nI c))] [] S _
  refine ev_iload_n0 dX2_knownIn_0 ?_
  refine ev_c4 dX2_knownIn_1 ?_
  refine ev_iload_n1 dX2_knownIn_2 ?_
  refine ev_bipush (nI 8) kb_8 dX2_knownIn_3 ?_
  refine ev_iremN (by omega) (by omega) (by omega) dX2_knownIn_5 ?_
  first | refine ev_imulN dX2_knownIn_6 ?_ | refine ev_imul dX2_knownIn_6 ?_
  refine ev_ishr dX2_knownIn_7 ?_
  refine ev_bipush (nI 15) kb_15 dX2_knownIn_8 ?_
  refine ev_iand dX2_knownIn_10 ?_
  refine ev_ireturn rfl dX2_knownIn_11 ?_
  exact ⟨rfl, rfl⟩
theorem c_X2_knownBy {ks : List Nat} (hM : InM ks) {S : St} {q c : Nat} (hq : q < 4) (hc : c < 32) : Cn ks mX2_knownBy yX2_knownBy [.inr 103, .inl (nI q), .inl (nI c)] S (Ri (kni (S 104 (107 + 4 * q + c / 8)) c) S) := by
  refine cnV okX2_knownBy 0 rfl ?_
  show Ev ks mX2_knownBy 0 [some (.inr 103), some (.inl (nI q)), some (.inl (nI c))] [] S _
  refine ev_aload_n0 dX2_knownBy_0 ?_
  refine gfX2_7 rfl (hM 103 rfl) dX2_knownBy_1 ?_
  refine ev_bipush (nI 107) kb_107 dX2_knownBy_4 ?_
  refine ev_c4 dX2_knownBy_6 ?_
  refine ev_iload_n1 dX2_knownBy_7 ?_
  first | refine ev_imulN dX2_knownBy_8 ?_ | refine ev_imul dX2_knownBy_8 ?_
  first | refine ev_iaddN dX2_knownBy_9 ?_ | refine ev_iadd dX2_knownBy_9 ?_
  refine ev_iload_n2 dX2_knownBy_10 ?_
  refine ev_bipush (nI 8) kb_8 dX2_knownBy_11 ?_
  refine ev_idivN (by omega) (by omega) (by omega) dX2_knownBy_13 ?_
  first | refine ev_iaddN dX2_knownBy_14 ?_ | refine ev_iadd dX2_knownBy_14 ?_
  refine ev_iald 1263 rfl rfl (hM 104 rfl) (by omega) dX2_knownBy_15 ?_
  refine ev_iload_n2 dX2_knownBy_16 ?_
  refine ev_cS2f okX2_knownIn lkX2_59 (Nat.le_of_ble_eq_true rfl) (Nat.le_of_ble_eq_true rfl) (c_X2_knownIn (by omega)) dX2_knownBy_17 ?_
  refine ev_ireturn rfl dX2_knownBy_20 ?_
  exact ⟨rfl, rfl⟩
/-- the reference's row behind know(q, c, sites) -/
def knowR (m : Nat → Int32) (q c : Nat) (s : Int32) : Nat → Int32 :=
  let m1 := upd m (107 + 4 * q + c / 8) (m (107 + 4 * q + c / 8) &&& ((nI 15 <<< (nI (4 * (c % 8)) &&& 31)) ^^^ (-1)) ||| s <<< (nI (4 * (c % 8)) &&& 31))
  upd m1 (103 + q) (if s = 0 then m1 (103 + q) &&& ((nI 1 <<< (nI c &&& 31)) ^^^ (-1)) else m1 (103 + q) ||| nI 1 <<< (nI c &&& 31))
theorem c_X2_know {ks : List Nat} (hM : InM ks) {S : St} {q c : Nat} {s : Int32} (hq : q < 4) (hc : c < 32) : Cn ks mX2_know yX2_know [.inr 103, .inl (nI q), .inl (nI c), .inl s] S (Rv (sr S 104 (knowR (S 104) q c s))) := by
  refine cnV okX2_know 2 rfl ?_
  show Ev ks mX2_know 0 [some (.inr 103), some (.inl (nI q)), some (.inl (nI c)), some (.inl s), none, none] [] S _
  refine ev_bipush (nI 107) kb_107 dX2_know_0 ?_
  refine ev_c4 dX2_know_2 ?_
  refine ev_iload_n1 dX2_know_3 ?_
  first | refine ev_imulN dX2_know_4 ?_ | refine ev_imul dX2_know_4 ?_
  first | refine ev_iaddN dX2_know_5 ?_ | refine ev_iadd dX2_know_5 ?_
  refine ev_iload_n2 dX2_know_6 ?_
  refine ev_bipush (nI 8) kb_8 dX2_know_7 ?_
  refine ev_idivN (by omega) (by omega) (by omega) dX2_know_9 ?_
  first | refine ev_iaddN dX2_know_10 ?_ | refine ev_iadd dX2_know_10 ?_
  refine ev_istore4 dX2_know_11 ?_
  refine ev_c4 dX2_know_13 ?_
  refine ev_iload_n2 dX2_know_14 ?_
  refine ev_bipush (nI 8) kb_8 dX2_know_15 ?_
  refine ev_iremN (by omega) (by omega) (by omega) dX2_know_17 ?_
  first | refine ev_imulN dX2_know_18 ?_ | refine ev_imul dX2_know_18 ?_
  refine ev_istore5 dX2_know_19 ?_
  refine ev_aload_n0 dX2_know_21 ?_
  refine gfX2_7 rfl (hM 103 rfl) dX2_know_22 ?_
  refine ev_iload4 dX2_know_25 ?_
  refine ev_aload_n0 dX2_know_27 ?_
  refine gfX2_7 rfl (hM 103 rfl) dX2_know_28 ?_
  refine ev_iload4 dX2_know_31 ?_
  refine ev_iald 1263 rfl rfl (hM 104 rfl) (by omega) dX2_know_33 ?_
  refine ev_bipush (nI 15) kb_15 dX2_know_34 ?_
  refine ev_iload5 dX2_know_36 ?_
  refine ev_ishl dX2_know_38 ?_
  refine ev_cm1 dX2_know_39 ?_
  refine ev_ixor dX2_know_40 ?_
  refine ev_iand dX2_know_41 ?_
  refine ev_iload_n3 dX2_know_42 ?_
  refine ev_iload5 dX2_know_43 ?_
  refine ev_ishl dX2_know_45 ?_
  refine ev_ior dX2_know_46 ?_
  refine ev_iast 1263 rfl rfl (hM 104 rfl) (by omega) dX2_know_47 ?_
  rw [st_n]
  refine ev_aload_n0 dX2_know_48 ?_
  refine gfX2_7 rfl (hM 103 rfl) dX2_know_49 ?_
  refine ev_bipush (nI 103) kb_103 dX2_know_52 ?_
  refine ev_iload_n1 dX2_know_54 ?_
  first | refine ev_iaddN dX2_know_55 ?_ | refine ev_iadd dX2_know_55 ?_
  refine ev_iload_n3 dX2_know_56 ?_
  first | refine ev_if_neN 78 (by omega) (by decide) dX2_know_57 (fun h57 => ?_) (fun h57 => ?_) | refine ev_if_ne 78 (by decide) dX2_know_57 (fun h57 => ?_) (fun h57 => ?_)
  · refine ev_aload_n0 dX2_know_78 ?_
    refine gfX2_7 rfl (hM 103 rfl) dX2_know_79 ?_
    refine ev_bipush (nI 103) kb_103 dX2_know_82 ?_
    refine ev_iload_n1 dX2_know_84 ?_
    first | refine ev_iaddN dX2_know_85 ?_ | refine ev_iadd dX2_know_85 ?_
    refine ev_iald 1263 rfl rfl (hM 104 rfl) (by omega) dX2_know_86 ?_
    refine ev_c1 dX2_know_87 ?_
    refine ev_iload_n2 dX2_know_88 ?_
    refine ev_ishl dX2_know_89 ?_
    refine ev_ior dX2_know_90 ?_
    refine ev_iast 1263 rfl rfl (hM 104 rfl) (by omega) dX2_know_91 ?_
    refine ev_return rfl dX2_know_92 ?_
    rw [st_sr, sr_s]
    refine ⟨rfl, ?_⟩
    unfold knowR
    dsimp only
    first | rw [if_pos h57] | rw [if_neg h57]
  · refine ev_aload_n0 dX2_know_60 ?_
    refine gfX2_7 rfl (hM 103 rfl) dX2_know_61 ?_
    refine ev_bipush (nI 103) kb_103 dX2_know_64 ?_
    refine ev_iload_n1 dX2_know_66 ?_
    first | refine ev_iaddN dX2_know_67 ?_ | refine ev_iadd dX2_know_67 ?_
    refine ev_iald 1263 rfl rfl (hM 104 rfl) (by omega) dX2_know_68 ?_
    refine ev_c1 dX2_know_69 ?_
    refine ev_iload_n2 dX2_know_70 ?_
    refine ev_ishl dX2_know_71 ?_
    refine ev_cm1 dX2_know_72 ?_
    refine ev_ixor dX2_know_73 ?_
    refine ev_iand dX2_know_74 ?_
    refine ev_goto 91 (by decide) dX2_know_75 ?_
    refine ev_iast 1263 rfl rfl (hM 104 rfl) (by omega) dX2_know_91 ?_
    refine ev_return rfl dX2_know_92 ?_
    rw [st_sr, sr_s]
    refine ⟨rfl, ?_⟩
    unfold knowR
    dsimp only
    first | rw [if_pos h57] | rw [if_neg h57]
theorem c_X2_isWay {ks : List Nat} (hM : InM ks) {S : St} {n : Nat} (hn : S 104 0 = nI n) (h2 : 2 ≤ n) (h4 : n ≤ 4) {x y : Int32} : Cn ks mX2_isWay yX2_isWay [.inr 103, .inl x, .inl y] S (Ri (bI (isW n x y)) S) := by
  refine cnV okX2_isWay 0 rfl ?_
  show Ev ks mX2_isWay 0 [some (.inr 103), some (.inl x), some (.inl y)] [] S _
  refine ev_aload_n0 dX2_isWay_0 ?_
  refine ev_iload_n2 dX2_isWay_1 ?_
  refine ev_cV1f okX2_isSite lkX2_78 (Nat.le_of_ble_eq_true rfl) (Nat.le_of_ble_eq_true rfl) (hM 103 rfl) isO_103 (c_X2_isSite hM hn (by omega) (by omega)) dX2_isWay_2 ?_
  first | refine ev_if_eqB 29 (by decide) dX2_isWay_5 (fun h5 => ?_) (fun h5 => ?_)
  · refine ev_c0 dX2_isWay_29 ?_
    refine ev_zreturn zr0 rfl dX2_isWay_30 ?_
    refine ⟨?_, rfl⟩
    unfold isW
    rw [h5]
    first | rfl | (rw [h17]; first | done | rfl | (rw [decide_eq_true h22]; done) | (rw [decide_eq_true h22]; rfl) | (rw [decide_eq_false (fun z => z h22)]; done) | (rw [decide_eq_false (fun z => z h22)]; rfl))
  · refine ev_iload_n1 dX2_isWay_8 ?_
    refine ev_c0 dX2_isWay_9 ?_
    refine ev_aload_n0 dX2_isWay_10 ?_
    refine ev_cV0f okX2_many lkX2_82 (Nat.le_of_ble_eq_true rfl) (Nat.le_of_ble_eq_true rfl) (hM 103 rfl) isO_103 (c_X2_many hM hn) dX2_isWay_11 ?_
    refine ev_cS3f okX2_in lkX2_43 (Nat.le_of_ble_eq_true rfl) (Nat.le_of_ble_eq_true rfl) c_X2_in dX2_isWay_14 ?_
    rw [isS_in (by omega)]
    first | refine ev_if_eqB 29 (by decide) dX2_isWay_17 (fun h17 => ?_) (fun h17 => ?_)
    · refine ev_c0 dX2_isWay_29 ?_
      refine ev_zreturn zr0 rfl dX2_isWay_30 ?_
      refine ⟨?_, rfl⟩
      unfold isW
      rw [h5]
      first | rfl | (rw [h17]; first | done | rfl | (rw [decide_eq_true h22]; done) | (rw [decide_eq_true h22]; rfl) | (rw [decide_eq_false (fun z => z h22)]; done) | (rw [decide_eq_false (fun z => z h22)]; rfl))
    · refine ev_iload_n1 dX2_isWay_20 ?_
      refine ev_iload_n2 dX2_isWay_21 ?_
      first | refine ev_icmp_eq 29 (by decide) dX2_isWay_22 (fun h22 => ?_) (fun h22 => ?_)
      · refine ev_c0 dX2_isWay_29 ?_
        refine ev_zreturn zr0 rfl dX2_isWay_30 ?_
        refine ⟨?_, rfl⟩
        unfold isW
        rw [h5]
        first | rfl | (rw [h17]; first | done | rfl | (rw [decide_eq_true h22]; done) | (rw [decide_eq_true h22]; rfl) | (rw [decide_eq_false (fun z => z h22)]; done) | (rw [decide_eq_false (fun z => z h22)]; rfl))
      · refine ev_c1 dX2_isWay_25 ?_
        refine ev_goto 30 (by decide) dX2_isWay_26 ?_
        refine ev_zreturn zr1 rfl dX2_isWay_30 ?_
        refine ⟨?_, rfl⟩
        unfold isW
        rw [h5]
        first | rfl | (rw [h17]; first | done | rfl | (rw [decide_eq_true h22]; done) | (rw [decide_eq_true h22]; rfl) | (rw [decide_eq_false (fun z => z h22)]; done) | (rw [decide_eq_false (fun z => z h22)]; rfl))
theorem c_X2_isKeptCode_none {ks : List Nat} (hM : InM ks) {S : St} : Cn ks mX2_isKeptCode yX2_isKeptCode [.inr 103, .inl (-9)] S (Ri (bI true) S) := by
  refine cnV okX2_isKeptCode 0 rfl ?_
  show Ev ks mX2_isKeptCode 0 [some (.inr 103), some (.inl (-9))] [] S _
  refine ev_iload_n1 dX2_isKeptCode_0 ?_
  refine ev_bipush (-9 : Int32) kb_m9 dX2_isKeptCode_1 ?_
  first | refine ev_icmp_eq 22 (by decide) dX2_isKeptCode_3 (fun h3 => ?_) (fun h3 => by exact absurd rfl h3)
  refine ev_c1 dX2_isKeptCode_22 ?_
  refine ev_goto 27 (by decide) dX2_isKeptCode_23 ?_
  refine ev_zreturn zr1 rfl dX2_isKeptCode_27 ?_
  exact ⟨rfl, rfl⟩
theorem c_X2_isKeptCode {ks : List Nat} (hM : InM ks) {S : St} {c k : Nat} (hc : c < 32) (hk : S 110 (c / 8) = nI k) (h8 : k ≤ 8) : Cn ks mX2_isKeptCode yX2_isKeptCode [.inr 103, .inl (nI c)] S (Ri (bI (decide (c % 8 < k))) S) := by
  refine cnV okX2_isKeptCode 0 rfl ?_
  show Ev ks mX2_isKeptCode 0 [some (.inr 103), some (.inl (nI c))] [] S _
  refine ev_iload_n1 dX2_isKeptCode_0 ?_
  refine ev_bipush (-9 : Int32) kb_m9 dX2_isKeptCode_1 ?_
  first | refine ev_icmp_eq 22 (by decide) dX2_isKeptCode_3 (fun h3 => by exact absurd h3 (nI_neg (by omega) m9_neg)) (fun h3 => ?_)
  refine ev_iload_n1 dX2_isKeptCode_6 ?_
  refine ev_bipush (nI 8) kb_8 dX2_isKeptCode_7 ?_
  refine ev_iremN (by omega) (by omega) (by omega) dX2_isKeptCode_9 ?_
  refine ev_aload_n0 dX2_isKeptCode_10 ?_
  refine gfX2_29 rfl (hM 103 rfl) dX2_isKeptCode_11 ?_
  refine ev_iload_n1 dX2_isKeptCode_14 ?_
  refine ev_bipush (nI 8) kb_8 dX2_isKeptCode_15 ?_
  refine ev_idivN (by omega) (by omega) (by omega) dX2_isKeptCode_17 ?_
  refine ev_iald 4 rfl rfl (hM 110 rfl) (by omega) dX2_isKeptCode_18 ?_
  rw [hk]
  first | refine ev_icmp_geN 26 (by omega) (by omega) (by decide) dX2_isKeptCode_19 (fun h19 => ?_) (fun h19 => ?_) | refine ev_icmp_ge 26 (by decide) dX2_isKeptCode_19 (fun h19 => ?_) (fun h19 => ?_)
  · refine ev_c0 dX2_isKeptCode_26 ?_
    refine ev_zreturn zr0 rfl dX2_isKeptCode_27 ?_
    refine ⟨?_, rfl⟩
    first | (rw [decide_eq_true h19]; rfl) | (rw [decide_eq_false (by omega)]; rfl)
  · refine ev_c1 dX2_isKeptCode_22 ?_
    refine ev_goto 27 (by decide) dX2_isKeptCode_23 ?_
    refine ev_zreturn zr1 rfl dX2_isKeptCode_27 ?_
    refine ⟨?_, rfl⟩
    first | (rw [decide_eq_true h19]; rfl) | (rw [decide_eq_false (by omega)]; rfl)
theorem c_X2_birthOf {ks : List Nat} (hM : InM ks) {S : St} {q r x k : Nat} (hq : q < 4) (hr : r < 8) (hx : S 104 (7 + 24 * q + 3 * r + 0) = nI x) (hk : S 104 (7 + 24 * q + 3 * r + 1) = nI k) (hx5 : x < 5) (hk8 : k < 8) : Cn ks mX2_birthOf yX2_birthOf [.inr 103, .inl (nI q), .inl (nI r)] S (Ri (S 104 (143 + 7 * (8 * (4 * x + q) + k) + 1)) S) := by
  refine cnV okX2_birthOf 1 rfl ?_
  show Ev ks mX2_birthOf 0 [some (.inr 103), some (.inl (nI q)), some (.inl (nI r)), none] [] S _
  refine ev_aload_n0 dX2_birthOf_0 ?_
  refine ev_iload_n1 dX2_birthOf_1 ?_
  refine ev_iload_n2 dX2_birthOf_2 ?_
  refine ev_c0 dX2_birthOf_3 ?_
  refine ev_cV3f okX2_ofReceipt lkX2_51 (Nat.le_of_ble_eq_true rfl) (Nat.le_of_ble_eq_true rfl) (hM 103 rfl) isO_103 (c_X2_ofReceipt hM (by omega) (by omega) (by omega)) dX2_birthOf_4 ?_
  rw [hx]
  refine ev_istore_n3 dX2_birthOf_7 ?_
  refine ev_aload_n0 dX2_birthOf_8 ?_
  refine gfX2_7 rfl (hM 103 rfl) dX2_birthOf_9 ?_
  refine ev_iload_n3 dX2_birthOf_12 ?_
  refine ev_iload_n1 dX2_birthOf_13 ?_
  refine ev_aload_n0 dX2_birthOf_14 ?_
  refine ev_iload_n1 dX2_birthOf_15 ?_
  refine ev_iload_n2 dX2_birthOf_16 ?_
  refine ev_c1 dX2_birthOf_17 ?_
  refine ev_cV3f okX2_ofReceipt lkX2_51 (Nat.le_of_ble_eq_true rfl) (Nat.le_of_ble_eq_true rfl) (hM 103 rfl) isO_103 (c_X2_ofReceipt hM (by omega) (by omega) (by omega)) dX2_birthOf_18 ?_
  rw [hk]
  refine ev_cS3f okX2_letterAt lkX2_65 (Nat.le_of_ble_eq_true rfl) (Nat.le_of_ble_eq_true rfl) c_X2_letterAt dX2_birthOf_21 ?_
  refine ev_c1 dX2_birthOf_24 ?_
  first | refine ev_iaddN dX2_birthOf_25 ?_ | refine ev_iadd dX2_birthOf_25 ?_
  refine ev_iald 1263 rfl rfl (hM 104 rfl) (by omega) dX2_birthOf_26 ?_
  refine ev_ireturn rfl dX2_birthOf_27 ?_
  exact ⟨rfl, rfl⟩
