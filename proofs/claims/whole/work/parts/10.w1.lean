set_option maxRecDepth 4000 in
theorem c_J7_fill {ks : List Nat} {k : Nat} (hk : k ∈ ks) (ha : isA k = true) {S : St} {x : Int32} : Cn ks mJ7_fill_53178 yJ7_fill_53178 [.inr k, .inl x] S (Rv (sr S k (fun _ => x))) := by
  refine cnS okJ7_fill_53178 2 rfl ?_
  show Ev ks mJ7_fill_53178 0 [some (.inr k), some (.inl x), none, none] [] S _
  have hle := alen_le k
  have loop : ∀ f j, j + f = alen k → Ev ks mJ7_fill_53178 5 [some (.inr k), some (.inl x), some (.inl (nI j)), some (.inl (nI (alen k)))] [] (sr S k (fun i => if i < j then x else S k i)) (Rv (sr S k (fun _ => x))) := by
    intro f
    induction f with
    | zero =>
      intro j hj
      refine ev_iload_n2 dJ7_fill_53178_5 ?_
      refine ev_iload_n3 dJ7_fill_53178_6 ?_
      refine ev_icmp_geN 20 (by omega) (by omega) (by decide) dJ7_fill_53178_7 (fun h7 => ?_) (fun h7 => by exfalso; omega)
      refine ev_cong (S' := sr S k (fun _ => x)) (fun q hq i hi => ?_) ?_
      · by_cases h : q = k
        · subst h
          rw [sr_s, sr_s]
          have hi : i < alen q := by unfold wid at hi; rw [ha] at hi; exact hi
          rw [if_pos (by omega)]
        · rw [sr_n h, sr_n h]
      · exact ev_return rfl dJ7_fill_53178_20 ⟨rfl, rfl⟩
    | succ f ih =>
      intro j hj
      refine ev_iload_n2 dJ7_fill_53178_5 ?_
      refine ev_iload_n3 dJ7_fill_53178_6 ?_
      refine ev_icmp_geN 20 (by omega) (by omega) (by decide) dJ7_fill_53178_7 (fun h7 => by exfalso; omega) (fun h7 => ?_)
      refine ev_aload_n0 dJ7_fill_53178_10 ?_
      refine ev_iload_n2 dJ7_fill_53178_11 ?_
      refine ev_iload_n1 dJ7_fill_53178_12 ?_
      refine ev_iast (alen k) rfl ha hk (by omega) dJ7_fill_53178_13 ?_
      refine ev_iinc2 dJ7_fill_53178_14 ?_
      refine ev_goto 5 (by decide) dJ7_fill_53178_17 ?_
      rw [st_sr]
      have e : upd (fun i => if i < j then x else S k i) j x = (fun i => if i < j + 1 then x else S k i) := by
        funext i
        unfold upd
        by_cases h : i = j
        · rw [if_pos h, if_pos (by omega)]
        · rw [if_neg h]
          dsimp only
          by_cases h2 : i < j
          · rw [if_pos h2, if_pos (by omega)]
          · rw [if_neg h2, if_neg (by omega)]
      rw [e]
      exact ih (j + 1) (by omega)
  refine ev_c0 dJ7_fill_53178_0 ?_
  refine ev_istore_n2 dJ7_fill_53178_1 ?_
  refine ev_aload_n0 dJ7_fill_53178_2 ?_
  refine ev_alen (alen k) rfl ha hk dJ7_fill_53178_3 ?_
  refine ev_istore_n3 dJ7_fill_53178_4 ?_
  have h := loop (alen k) 0 (by omega)
  have e : sr S k (fun i => if i < 0 then x else S k i) = S := by
    have : (fun i => if i < 0 then x else S k i) = S k := by funext i; rw [if_neg (by omega)]
    rw [this, sr_self]
  rw [e] at h
  exact h
theorem c_J6_bitCount_0f7a4 {ks : List Nat} {S : St} {x : Int32} : Cn ks mJ6_bitCount_0f7a4 yJ6_bitCount_0f7a4 [.inl x] S (Ri (nI (pcn x)) S) := by
  refine cnS okJ6_bitCount_0f7a4 0 rfl ?_
  show Ev ks mJ6_bitCount_0f7a4 0 [some (.inl x)] [] S _
  refine ev_iload_n0 dJ6_bitCount_0f7a4_0 ?_
  refine ev_iload_n0 dJ6_bitCount_0f7a4_1 ?_
  refine ev_c1 dJ6_bitCount_0f7a4_2 ?_
  refine ev_iushr dJ6_bitCount_0f7a4_3 ?_
  refine ev_ldcw _ kw_265 dJ6_bitCount_0f7a4_4 ?_
  refine ev_iand dJ6_bitCount_0f7a4_7 ?_
  refine ev_isub dJ6_bitCount_0f7a4_8 ?_
  refine ev_istore_n0 dJ6_bitCount_0f7a4_9 ?_
  generalize e1 : x - (ush x (nI 1) &&& 1431655765) = i1
  refine ev_iload_n0 dJ6_bitCount_0f7a4_10 ?_
  refine ev_ldcw _ kw_266 dJ6_bitCount_0f7a4_11 ?_
  refine ev_iand dJ6_bitCount_0f7a4_14 ?_
  refine ev_iload_n0 dJ6_bitCount_0f7a4_15 ?_
  refine ev_c2 dJ6_bitCount_0f7a4_16 ?_
  refine ev_iushr dJ6_bitCount_0f7a4_17 ?_
  refine ev_ldcw _ kw_266 dJ6_bitCount_0f7a4_18 ?_
  refine ev_iand dJ6_bitCount_0f7a4_21 ?_
  refine ev_iadd dJ6_bitCount_0f7a4_22 ?_
  refine ev_istore_n0 dJ6_bitCount_0f7a4_23 ?_
  generalize e2 : (i1 &&& 858993459) + (ush i1 (nI 2) &&& 858993459) = i2
  refine ev_iload_n0 dJ6_bitCount_0f7a4_24 ?_
  refine ev_iload_n0 dJ6_bitCount_0f7a4_25 ?_
  refine ev_c4 dJ6_bitCount_0f7a4_26 ?_
  refine ev_iushr dJ6_bitCount_0f7a4_27 ?_
  refine ev_iadd dJ6_bitCount_0f7a4_28 ?_
  refine ev_ldcw _ kw_267 dJ6_bitCount_0f7a4_29 ?_
  refine ev_iand dJ6_bitCount_0f7a4_32 ?_
  refine ev_istore_n0 dJ6_bitCount_0f7a4_33 ?_
  generalize e3 : (i2 + ush i2 (nI 4)) &&& 252645135 = i3
  refine ev_iload_n0 dJ6_bitCount_0f7a4_34 ?_
  refine ev_iload_n0 dJ6_bitCount_0f7a4_35 ?_
  refine ev_bipush (nI 8) kb_8 dJ6_bitCount_0f7a4_36 ?_
  refine ev_iushr dJ6_bitCount_0f7a4_38 ?_
  refine ev_iadd dJ6_bitCount_0f7a4_39 ?_
  refine ev_istore_n0 dJ6_bitCount_0f7a4_40 ?_
  generalize e4 : i3 + ush i3 (nI 8) = i4
  refine ev_iload_n0 dJ6_bitCount_0f7a4_41 ?_
  refine ev_iload_n0 dJ6_bitCount_0f7a4_42 ?_
  refine ev_bipush (nI 16) kb_16 dJ6_bitCount_0f7a4_43 ?_
  refine ev_iushr dJ6_bitCount_0f7a4_45 ?_
  refine ev_iadd dJ6_bitCount_0f7a4_46 ?_
  refine ev_istore_n0 dJ6_bitCount_0f7a4_47 ?_
  generalize e5 : i4 + ush i4 (nI 16) = i5
  refine ev_iload_n0 dJ6_bitCount_0f7a4_48 ?_
  refine ev_bipush (nI 63) kb_63 dJ6_bitCount_0f7a4_49 ?_
  refine ev_iand dJ6_bitCount_0f7a4_51 ?_
  refine ev_ireturn rfl dJ6_bitCount_0f7a4_52 ?_
  exact ⟨by rw [popcount x i1 i2 i3 i4 i5 e1.symm e2.symm e3.symm e4.symm e5.symm], rfl⟩
/-- a world begun anew -/
def startW (S : St) (a b : Int32) : St := sr (sr (sr (st (st (st S 0 0 a) 0 1 b) 0 2 0) 1 (fun _ => 0)) 6 (fun _ => 0)) 11 (fun _ => 0)
theorem c_X0_start {ks : List Nat} (hW : InW ks) {S : St} {a b : Int32} : Cn ks mX0_start yX0_start [.inr 0, .inl a, .inl b] S (Rv (startW S a b)) := by
  refine cnV okX0_start 0 rfl ?_
  show Ev ks mX0_start 0 [some (.inr 0), some (.inl a), some (.inl b)] [] S _
  refine ev_aload_n0 dX0_start_0 ?_
  refine ev_iload_n1 dX0_start_1 ?_
  refine pfX0_49 rfl (hW 0 rfl) dX0_start_2 ?_
  refine ev_aload_n0 dX0_start_5 ?_
  refine ev_iload_n2 dX0_start_6 ?_
  refine pfX0_53 rfl (hW 0 rfl) dX0_start_7 ?_
  refine ev_aload_n0 dX0_start_10 ?_
  refine ev_c0 dX0_start_11 ?_
  refine pfX0_56 rfl (hW 0 rfl) dX0_start_12 ?_
  refine ev_aload_n0 dX0_start_15 ?_
  refine gfX0_9 rfl (hW 0 rfl) dX0_start_16 ?_
  refine ev_c0 dX0_start_19 ?_
  refine ev_fill okJ7_fill_53178 lkX0_59 (Nat.le_of_ble_eq_true rfl) (Nat.le_of_ble_eq_true rfl) (c_J7_fill (hW 1 rfl) rfl) dX0_start_20 ?_
  refine ev_aload_n0 dX0_start_23 ?_
  refine gfX0_27 rfl (hW 0 rfl) dX0_start_24 ?_
  refine ev_c0 dX0_start_27 ?_
  refine ev_fill okJ7_fill_53178 lkX0_59 (Nat.le_of_ble_eq_true rfl) (Nat.le_of_ble_eq_true rfl) (c_J7_fill (hW 6 rfl) rfl) dX0_start_28 ?_
  refine ev_aload_n0 dX0_start_31 ?_
  refine gfX0_42 rfl (hW 0 rfl) dX0_start_32 ?_
  refine ev_c0 dX0_start_35 ?_
  refine ev_fill okJ7_fill_53178 lkX0_59 (Nat.le_of_ble_eq_true rfl) (Nat.le_of_ble_eq_true rfl) (c_J7_fill (hW 11 rfl) rfl) dX0_start_36 ?_
  refine ev_return rfl dX0_start_39 ?_
  exact ⟨rfl, by rw [nI_0]; rfl⟩
theorem c_X0_codeOf {ks : List Nat} {S : St} {q r : Nat} : Cn ks mX0_codeOf yX0_codeOf [.inl (nI q), .inl (nI r)] S (Ri (nI (q * 8 + r)) S) := by
  refine cnS okX0_codeOf 0 rfl ?_
  show Ev ks mX0_codeOf 0 [some (.inl (nI q)), some (.inl (nI r))] [] S _
  refine ev_iload_n0 dX0_codeOf_0 ?_
  refine ev_bipush (nI 8) kb_8 dX0_codeOf_1 ?_
  first | refine ev_imulN dX0_codeOf_3 ?_ | refine ev_imul dX0_codeOf_3 ?_
  refine ev_iload_n1 dX0_codeOf_4 ?_
  first | refine ev_iaddN dX0_codeOf_5 ?_ | refine ev_iadd dX0_codeOf_5 ?_
  refine ev_ireturn rfl dX0_codeOf_6 ?_
  exact ⟨rfl, rfl⟩
theorem c_X0_codesOf {ks : List Nat} {S : St} {q : Nat} : Cn ks mX0_codesOf yX0_codesOf [.inl (nI q)] S (Ri (nI 255 <<< (nI (q * 8) &&& 31)) S) := by
  refine cnS okX0_codesOf 0 rfl ?_
  show Ev ks mX0_codesOf 0 [some (.inl (nI q))] [] S _
  refine ev_sipush (nI 255) kh_255 dX0_codesOf_0 ?_
  refine ev_iload_n0 dX0_codesOf_3 ?_
  refine ev_bipush (nI 8) kb_8 dX0_codesOf_4 ?_
  first | refine ev_imulN dX0_codesOf_6 ?_ | refine ev_imul dX0_codesOf_6 ?_
  refine ev_ishl dX0_codesOf_7 ?_
  refine ev_ireturn rfl dX0_codesOf_8 ?_
  exact ⟨rfl, rfl⟩
theorem c_X0_receiptsIn {ks : List Nat} {S : St} {x : Int32} {q : Nat} : Cn ks mX0_receiptsIn yX0_receiptsIn [.inl x, .inl (nI q)] S (Ri (nI (pcn (x &&& (nI 255 <<< (nI (q * 8) &&& 31))))) S) := by
  refine cnS okX0_receiptsIn 0 rfl ?_
  show Ev ks mX0_receiptsIn 0 [some (.inl x), some (.inl (nI q))] [] S _
  refine ev_iload_n0 dX0_receiptsIn_0 ?_
  refine ev_iload_n1 dX0_receiptsIn_1 ?_
  refine ev_cS1f okX0_codesOf lkX0_71 (Nat.le_of_ble_eq_true rfl) (Nat.le_of_ble_eq_true rfl) c_X0_codesOf dX0_receiptsIn_2 ?_
  refine ev_iand dX0_receiptsIn_5 ?_
  refine ev_cS1f okJ6_bitCount_0f7a4 lkX0_75 (Nat.le_of_ble_eq_true rfl) (Nat.le_of_ble_eq_true rfl) c_J6_bitCount_0f7a4 dX0_receiptsIn_6 ?_
  refine ev_ireturn rfl dX0_receiptsIn_9 ?_
  exact ⟨rfl, rfl⟩
theorem c_X0_wayOf {ks : List Nat} {S : St} {x y : Nat} : Cn ks mX0_wayOf yX0_wayOf [.inl (nI x), .inl (nI y)] S (Ri (nI (x * 4 + y)) S) := by
  refine cnS okX0_wayOf 0 rfl ?_
  show Ev ks mX0_wayOf 0 [some (.inl (nI x)), some (.inl (nI y))] [] S _
  refine ev_iload_n0 dX0_wayOf_0 ?_
  refine ev_c4 dX0_wayOf_1 ?_
  first | refine ev_imulN dX0_wayOf_2 ?_ | refine ev_imul dX0_wayOf_2 ?_
  refine ev_iload_n1 dX0_wayOf_3 ?_
  first | refine ev_iaddN dX0_wayOf_4 ?_ | refine ev_iadd dX0_wayOf_4 ?_
  refine ev_ireturn rfl dX0_wayOf_5 ?_
  exact ⟨rfl, rfl⟩
theorem c_X0_letterOn {ks : List Nat} {S : St} {x y k : Nat} : Cn ks mX0_letterOn yX0_letterOn [.inl (nI x), .inl (nI y), .inl (nI k)] S (Ri (nI ((x * 4 + y) * 8 + k)) S) := by
  refine cnS okX0_letterOn 0 rfl ?_
  show Ev ks mX0_letterOn 0 [some (.inl (nI x)), some (.inl (nI y)), some (.inl (nI k))] [] S _
  refine ev_iload_n0 dX0_letterOn_0 ?_
  refine ev_iload_n1 dX0_letterOn_1 ?_
  refine ev_cS2f okX0_wayOf lkX0_80 (Nat.le_of_ble_eq_true rfl) (Nat.le_of_ble_eq_true rfl) c_X0_wayOf dX0_letterOn_2 ?_
  refine ev_bipush (nI 8) kb_8 dX0_letterOn_5 ?_
  first | refine ev_imulN dX0_letterOn_7 ?_ | refine ev_imul dX0_letterOn_7 ?_
  refine ev_iload_n2 dX0_letterOn_8 ?_
  first | refine ev_iaddN dX0_letterOn_9 ?_ | refine ev_iadd dX0_letterOn_9 ?_
  refine ev_ireturn rfl dX0_letterOn_10 ?_
  exact ⟨rfl, rfl⟩
theorem c_X0_isSite {ks : List Nat} (hW : InW ks) {S : St} {n : Nat} (hn : S 0 0 = nI n) {q : Int32} : Cn ks mX0_isSite yX0_isSite [.inr 0, .inl q] S (Ri (bI (isS n q)) S) := by
  refine cnV okX0_isSite 0 rfl ?_
  show Ev ks mX0_isSite 0 [some (.inr 0), some (.inl q)] [] S _
  refine ev_iload_n1 dX0_isSite_0 ?_
  first | refine ev_if_lt 16 (by decide) dX0_isSite_1 (fun h1 => ?_) (fun h1 => ?_)
  · refine ev_c0 dX0_isSite_16 ?_
    refine ev_zreturn zr0 rfl dX0_isSite_17 ?_
    refine ⟨?_, rfl⟩
    unfold isS
    first | (rw [decide_eq_false (Int32.not_le.mpr h1)]; rfl) | (rw [decide_eq_true (Int32.not_lt.mp h1)]; first | (rw [decide_eq_false (Int32.not_lt.mpr h9)]; rfl) | (rw [decide_eq_true (Int32.not_le.mp h9)]; rfl))
  · refine ev_iload_n1 dX0_isSite_4 ?_
    refine ev_aload_n0 dX0_isSite_5 ?_
    refine gfX0_49 rfl (hW 0 rfl) dX0_isSite_6 ?_
    rw [hn]
    first | refine ev_icmp_ge 16 (by decide) dX0_isSite_9 (fun h9 => ?_) (fun h9 => ?_)
    · refine ev_c0 dX0_isSite_16 ?_
      refine ev_zreturn zr0 rfl dX0_isSite_17 ?_
      refine ⟨?_, rfl⟩
      unfold isS
      first | (rw [decide_eq_false (Int32.not_le.mpr h1)]; rfl) | (rw [decide_eq_true (Int32.not_lt.mp h1)]; first | (rw [decide_eq_false (Int32.not_lt.mpr h9)]; rfl) | (rw [decide_eq_true (Int32.not_le.mp h9)]; rfl))
    · refine ev_c1 dX0_isSite_12 ?_
      refine ev_goto 17 (by decide) dX0_isSite_13 ?_
      refine ev_zreturn zr1 rfl dX0_isSite_17 ?_
      refine ⟨?_, rfl⟩
      unfold isS
      first | (rw [decide_eq_false (Int32.not_le.mpr h1)]; rfl) | (rw [decide_eq_true (Int32.not_lt.mp h1)]; first | (rw [decide_eq_false (Int32.not_lt.mpr h9)]; rfl) | (rw [decide_eq_true (Int32.not_le.mp h9)]; rfl))
theorem c_X0_isWay {ks : List Nat} (hW : InW ks) {S : St} {n : Nat} (hn : S 0 0 = nI n) (h4 : n ≤ 4) {x y : Int32} : Cn ks mX0_isWay yX0_isWay [.inr 0, .inl x, .inl y] S (Ri (bI (isW n x y)) S) := by
  refine cnV okX0_isWay 0 rfl ?_
  show Ev ks mX0_isWay 0 [some (.inr 0), some (.inl x), some (.inl y)] [] S _
  have e : isS (n + 1) x = (decide (0 ≤ x) && decide (x ≤ nI n)) := by rw [← isS_in (by omega), nI_0]
  refine ev_iload_n1 dX0_isWay_0 ?_
  first | refine ev_if_lt 29 (by decide) dX0_isWay_1 (fun h1 => ?_) (fun h1 => ?_)
  · refine ev_c0 dX0_isWay_29 ?_
    refine ev_zreturn zr0 rfl dX0_isWay_30 ?_
    refine ⟨?_, rfl⟩
    unfold isW
    rw [e]
    first | (rw [decide_eq_false (Int32.not_le.mpr h1), Bool.false_and, Bool.and_false]; rfl) | (rw [decide_eq_true (Int32.not_lt.mp h1)]; first | (rw [decide_eq_false (Int32.not_le.mpr h9), Bool.and_false, Bool.and_false]; rfl) | (rw [decide_eq_true (Int32.not_lt.mp h9), h17]; first | done | rfl | (rw [decide_eq_true h22]; first | done | rfl) | (rw [decide_eq_false (fun z => z h22)]; first | done | rfl)))
  · refine ev_iload_n1 dX0_isWay_4 ?_
    refine ev_aload_n0 dX0_isWay_5 ?_
    refine gfX0_49 rfl (hW 0 rfl) dX0_isWay_6 ?_
    rw [hn]
    first | refine ev_icmp_gt 29 (by decide) dX0_isWay_9 (fun h9 => ?_) (fun h9 => ?_)
    · refine ev_c0 dX0_isWay_29 ?_
      refine ev_zreturn zr0 rfl dX0_isWay_30 ?_
      refine ⟨?_, rfl⟩
      unfold isW
      rw [e]
      first | (rw [decide_eq_false (Int32.not_le.mpr h1), Bool.false_and, Bool.and_false]; rfl) | (rw [decide_eq_true (Int32.not_lt.mp h1)]; first | (rw [decide_eq_false (Int32.not_le.mpr h9), Bool.and_false, Bool.and_false]; rfl) | (rw [decide_eq_true (Int32.not_lt.mp h9), h17]; first | done | rfl | (rw [decide_eq_true h22]; first | done | rfl) | (rw [decide_eq_false (fun z => z h22)]; first | done | rfl)))
    · refine ev_aload_n0 dX0_isWay_12 ?_
      refine ev_iload_n2 dX0_isWay_13 ?_
      refine ev_cV1f okX0_isSite lkX0_84 (Nat.le_of_ble_eq_true rfl) (Nat.le_of_ble_eq_true rfl) (hW 0 rfl) isO_0 (c_X0_isSite hW hn) dX0_isWay_14 ?_
      first | refine ev_if_eqB 29 (by decide) dX0_isWay_17 (fun h17 => ?_) (fun h17 => ?_)
      · refine ev_c0 dX0_isWay_29 ?_
        refine ev_zreturn zr0 rfl dX0_isWay_30 ?_
        refine ⟨?_, rfl⟩
        unfold isW
        rw [e]
        first | (rw [decide_eq_false (Int32.not_le.mpr h1), Bool.false_and, Bool.and_false]; rfl) | (rw [decide_eq_true (Int32.not_lt.mp h1)]; first | (rw [decide_eq_false (Int32.not_le.mpr h9), Bool.and_false, Bool.and_false]; rfl) | (rw [decide_eq_true (Int32.not_lt.mp h9), h17]; first | done | rfl | (rw [decide_eq_true h22]; first | done | rfl) | (rw [decide_eq_false (fun z => z h22)]; first | done | rfl)))
      · refine ev_iload_n1 dX0_isWay_20 ?_
        refine ev_iload_n2 dX0_isWay_21 ?_
        first | refine ev_icmp_eq 29 (by decide) dX0_isWay_22 (fun h22 => ?_) (fun h22 => ?_)
        · refine ev_c0 dX0_isWay_29 ?_
          refine ev_zreturn zr0 rfl dX0_isWay_30 ?_
          refine ⟨?_, rfl⟩
          unfold isW
          rw [e]
          first | (rw [decide_eq_false (Int32.not_le.mpr h1), Bool.false_and, Bool.and_false]; rfl) | (rw [decide_eq_true (Int32.not_lt.mp h1)]; first | (rw [decide_eq_false (Int32.not_le.mpr h9), Bool.and_false, Bool.and_false]; rfl) | (rw [decide_eq_true (Int32.not_lt.mp h9), h17]; first | done | rfl | (rw [decide_eq_true h22]; first | done | rfl) | (rw [decide_eq_false (fun z => z h22)]; first | done | rfl)))
        · refine ev_c1 dX0_isWay_25 ?_
          refine ev_goto 30 (by decide) dX0_isWay_26 ?_
          refine ev_zreturn zr1 rfl dX0_isWay_30 ?_
          refine ⟨?_, rfl⟩
          unfold isW
          rw [e]
          first | (rw [decide_eq_false (Int32.not_le.mpr h1), Bool.false_and, Bool.and_false]; rfl) | (rw [decide_eq_true (Int32.not_lt.mp h1)]; first | (rw [decide_eq_false (Int32.not_le.mpr h9), Bool.and_false, Bool.and_false]; rfl) | (rw [decide_eq_true (Int32.not_lt.mp h9), h17]; first | done | rfl | (rw [decide_eq_true h22]; first | done | rfl) | (rw [decide_eq_false (fun z => z h22)]; first | done | rfl)))
theorem c_X0_isDown {ks : List Nat} (hW : InW ks) {S : St} {q : Nat} (hq : q < 32) : Cn ks mX0_isDown yX0_isDown [.inr 0, .inl (nI q)] S (Ri (bI (bt (S 0 2) q)) S) := by
  refine cnV okX0_isDown 0 rfl ?_
  show Ev ks mX0_isDown 0 [some (.inr 0), some (.inl (nI q))] [] S _
  refine ev_aload_n0 dX0_isDown_0 ?_
  refine gfX0_56 rfl (hW 0 rfl) dX0_isDown_1 ?_
  refine ev_iload_n1 dX0_isDown_4 ?_
  refine ev_ishr dX0_isDown_5 ?_
  refine ev_c1 dX0_isDown_6 ?_
  rw [nI_lit1]
  refine ev_iand dX0_isDown_7 ?_
  rw [x_bit _ q hq]
  first | refine ev_if_eq 15 (by decide) dX0_isDown_8 (fun h8 => ?_) (fun h8 => ?_)
  · refine ev_c0 dX0_isDown_15 ?_
    refine ev_zreturn zr0 rfl dX0_isDown_16 ?_
    refine ⟨?_, rfl⟩
    rw [bI_0] at h8
    cases hb : bt (S 0 2) q
    · first | rfl | exact absurd hb h8
    · first | rfl | exact absurd (hb.symm.trans h8) (by decide)
  · refine ev_c1 dX0_isDown_11 ?_
    refine ev_goto 16 (by decide) dX0_isDown_12 ?_
    refine ev_zreturn zr1 rfl dX0_isDown_16 ?_
    refine ⟨?_, rfl⟩
    rw [bI_0] at h8
    cases hb : bt (S 0 2) q
    · first | rfl | exact absurd hb h8
    · first | rfl | exact absurd (hb.symm.trans h8) (by decide)
theorem c_X0_allSites {ks : List Nat} (hW : InW ks) {S : St} {n : Nat} (hn : S 0 0 = nI n) (h2 : 2 ≤ n) (h4 : n ≤ 4) : Cn ks mX0_allSites yX0_allSites [.inr 0] S (Ri (nI (2 ^ n - 1)) S) := by
  refine cnV okX0_allSites 0 rfl ?_
  show Ev ks mX0_allSites 0 [some (.inr 0)] [] S _
  refine ev_c1 dX0_allSites_0 ?_
  refine ev_aload_n0 dX0_allSites_1 ?_
  refine gfX0_49 rfl (hW 0 rfl) dX0_allSites_2 ?_
  rw [hn]
  refine ev_ishl dX0_allSites_5 ?_
  refine ev_c1 dX0_allSites_6 ?_
  refine ev_isub dX0_allSites_7 ?_
  refine ev_ireturn rfl dX0_allSites_8 ?_
  exact ⟨by rw [pow_all h2 h4], rfl⟩
theorem c_X0_stateOf {ks : List Nat} (hW : InW ks) {S : St} {q r : Nat} (hq : q < 4) (hr : S 1 q = nI r) (h8 : r ≤ 8) : Cn ks mX0_stateOf yX0_stateOf [.inr 0, .inl (nI q)] S (Ri (if r = 0 then nI (q + 1) else S 4 (q * 8 + (r - 1))) S) := by
  refine cnV okX0_stateOf 0 rfl ?_
  show Ev ks mX0_stateOf 0 [some (.inr 0), some (.inl (nI q))] [] S _
  refine ev_aload_n0 dX0_stateOf_0 ?_
  refine gfX0_9 rfl (hW 0 rfl) dX0_stateOf_1 ?_
  refine ev_iload_n1 dX0_stateOf_4 ?_
  refine ev_iald 4 rfl rfl (hW 1 rfl) (by omega) dX0_stateOf_5 ?_
  rw [hr]
  first | refine ev_if_neN 15 (by omega) (by decide) dX0_stateOf_6 (fun h6 => ?_) (fun h6 => ?_) | refine ev_if_ne 15 (by decide) dX0_stateOf_6 (fun h6 => ?_) (fun h6 => ?_)
  · refine ev_aload_n0 dX0_stateOf_15 ?_
    refine gfX0_21 rfl (hW 0 rfl) dX0_stateOf_16 ?_
    refine ev_iload_n1 dX0_stateOf_19 ?_
    refine ev_aload_n0 dX0_stateOf_20 ?_
    refine gfX0_9 rfl (hW 0 rfl) dX0_stateOf_21 ?_
    refine ev_iload_n1 dX0_stateOf_24 ?_
    refine ev_iald 4 rfl rfl (hW 1 rfl) (by omega) dX0_stateOf_25 ?_
    rw [hr]
    refine ev_c1 dX0_stateOf_26 ?_
    first | refine ev_isubN (by omega) dX0_stateOf_27 ?_ | refine ev_isub dX0_stateOf_27 ?_
    refine ev_cS2f okX0_codeOf lkX0_88 (Nat.le_of_ble_eq_true rfl) (Nat.le_of_ble_eq_true rfl) c_X0_codeOf dX0_stateOf_28 ?_
    refine ev_iald 32 rfl rfl (hW 4 rfl) (by omega) dX0_stateOf_31 ?_
    refine ev_ireturn rfl dX0_stateOf_32 ?_
    refine ⟨?_, rfl⟩
    first | rw [if_pos h6] | rw [if_neg (by omega)]
  · refine ev_iload_n1 dX0_stateOf_9 ?_
    refine ev_c1 dX0_stateOf_10 ?_
    first | refine ev_iaddN dX0_stateOf_11 ?_ | refine ev_iadd dX0_stateOf_11 ?_
    refine ev_goto 32 (by decide) dX0_stateOf_12 ?_
    refine ev_ireturn rfl dX0_stateOf_32 ?_
    refine ⟨?_, rfl⟩
    first | rw [if_pos h6] | rw [if_neg (by omega)]
theorem c_X0_lettersOn {ks : List Nat} (hW : InW ks) {S : St} {x y : Nat} (hx : x < 5) (hy : y < 4) : Cn ks mX0_lettersOn yX0_lettersOn [.inr 0, .inl (nI x), .inl (nI y)] S (Ri (S 6 (x * 4 + y)) S) := by
  refine cnV okX0_lettersOn 0 rfl ?_
  show Ev ks mX0_lettersOn 0 [some (.inr 0), some (.inl (nI x)), some (.inl (nI y))] [] S _
  refine ev_aload_n0 dX0_lettersOn_0 ?_
  refine gfX0_27 rfl (hW 0 rfl) dX0_lettersOn_1 ?_
  refine ev_iload_n1 dX0_lettersOn_4 ?_
  refine ev_iload_n2 dX0_lettersOn_5 ?_
  refine ev_cS2f okX0_wayOf lkX0_80 (Nat.le_of_ble_eq_true rfl) (Nat.le_of_ble_eq_true rfl) c_X0_wayOf dX0_lettersOn_6 ?_
  refine ev_iald 20 rfl rfl (hW 6 rfl) (by omega) dX0_lettersOn_9 ?_
  refine ev_ireturn rfl dX0_lettersOn_10 ?_
  exact ⟨rfl, rfl⟩
theorem c_X0_heldBy {ks : List Nat} (hW : InW ks) {S : St} {p : Nat} (hp : p < 4) : Cn ks mX0_heldBy yX0_heldBy [.inr 0, .inl (nI p)] S (Ri (S 11 (p * 4 + p)) S) := by
  refine cnV okX0_heldBy 0 rfl ?_
  show Ev ks mX0_heldBy 0 [some (.inr 0), some (.inl (nI p))] [] S _
  refine ev_aload_n0 dX0_heldBy_0 ?_
  refine gfX0_42 rfl (hW 0 rfl) dX0_heldBy_1 ?_
  refine ev_iload_n1 dX0_heldBy_4 ?_
  refine ev_c4 dX0_heldBy_5 ?_
  first | refine ev_imulN dX0_heldBy_6 ?_ | refine ev_imul dX0_heldBy_6 ?_
  refine ev_iload_n1 dX0_heldBy_7 ?_
  first | refine ev_iaddN dX0_heldBy_8 ?_ | refine ev_iadd dX0_heldBy_8 ?_
  refine ev_iald 16 rfl rfl (hW 11 rfl) (by omega) dX0_heldBy_9 ?_
  refine ev_ireturn rfl dX0_heldBy_10 ?_
  exact ⟨rfl, rfl⟩
theorem c_X0_allReceipts {ks : List Nat} (hW : InW ks) {S : St} {n : Nat} {r : Nat → Nat} (hn : S 0 0 = nI n) (h4 : n ≤ 4) (hr : ∀ q, q < n → S 1 q = nI (r q)) : Cn ks mX0_allReceipts yX0_allReceipts [.inr 0] S (Ri (nI (fb_sm r n)) S) := by
  refine cnV okX0_allReceipts 2 rfl ?_
  show Ev ks mX0_allReceipts 0 [some (.inr 0), none, none] [] S _
  have loop : ∀ f k, k + f = n → Ev ks mX0_allReceipts 4 [some (.inr 0), some (.inl (nI (fb_sm r k))), some (.inl (nI k))] [] S (Ri (nI (fb_sm r n)) S) := by
    intro f
    induction f with
    | zero =>
      intro k hk
      refine ev_iload_n2 dX0_allReceipts_4 ?_
      refine ev_aload_n0 dX0_allReceipts_5 ?_
      refine gfX0_49 rfl (hW 0 rfl) dX0_allReceipts_6 ?_
      rw [hn]
      first | refine ev_icmp_geN 27 (by omega) (by omega) (by decide) dX0_allReceipts_9 (fun h9 => ?_) (fun h9 => by exfalso; omega) | refine ev_icmp_ge 27 (by decide) dX0_allReceipts_9 (fun h9 => ?_) (fun h9 => by exfalso; omega)
      refine ev_iload_n1 dX0_allReceipts_27 ?_
      refine ev_ireturn rfl dX0_allReceipts_28 ?_
      obtain rfl : k = n := by omega
      exact ⟨rfl, rfl⟩
    | succ f ih =>
      intro k hk
      refine ev_iload_n2 dX0_allReceipts_4 ?_
      refine ev_aload_n0 dX0_allReceipts_5 ?_
      refine gfX0_49 rfl (hW 0 rfl) dX0_allReceipts_6 ?_
      rw [hn]
      first | refine ev_icmp_geN 27 (by omega) (by omega) (by decide) dX0_allReceipts_9 (fun h9 => by exfalso; omega) (fun h9 => ?_) | refine ev_icmp_ge 27 (by decide) dX0_allReceipts_9 (fun h9 => by exfalso; omega) (fun h9 => ?_)
      refine ev_iload_n1 dX0_allReceipts_12 ?_
      refine ev_aload_n0 dX0_allReceipts_13 ?_
      refine gfX0_9 rfl (hW 0 rfl) dX0_allReceipts_14 ?_
      refine ev_iload_n2 dX0_allReceipts_17 ?_
      refine ev_iald 4 rfl rfl (hW 1 rfl) (by omega) dX0_allReceipts_18 ?_
      rw [hr k (by omega)]
      first | refine ev_iaddN dX0_allReceipts_19 ?_ | refine ev_iadd dX0_allReceipts_19 ?_
      refine ev_istore_n1 dX0_allReceipts_20 ?_
      refine ev_iinc2 dX0_allReceipts_21 ?_
      refine ev_goto 4 (by decide) dX0_allReceipts_24 ?_
      exact ih (k + 1) (by omega)
  refine ev_c0 dX0_allReceipts_0 ?_
  refine ev_istore_n1 dX0_allReceipts_1 ?_
  refine ev_c0 dX0_allReceipts_2 ?_
  refine ev_istore_n2 dX0_allReceipts_3 ?_
  exact loop n 0 (by omega)
theorem c_X0_lettersBy {ks : List Nat} (hW : InW ks) {S : St} {n x : Nat} {r : Nat → Nat} (hn : S 0 0 = nI n) (h4 : n ≤ 4) (hx : x < 5) (hr : ∀ q, q < n → S 6 (x * 4 + q) = nI (r q)) : Cn ks mX0_lettersBy yX0_lettersBy [.inr 0, .inl (nI x)] S (Ri (nI (fb_sm r n)) S) := by
  refine cnV okX0_lettersBy 2 rfl ?_
  show Ev ks mX0_lettersBy 0 [some (.inr 0), some (.inl (nI x)), none, none] [] S _
  have loop : ∀ f k, k + f = n → Ev ks mX0_lettersBy 4 [some (.inr 0), some (.inl (nI x)), some (.inl (nI (fb_sm r k))), some (.inl (nI k))] [] S (Ri (nI (fb_sm r n)) S) := by
    intro f
    induction f with
    | zero =>
      intro k hk
      refine ev_iload_n3 dX0_lettersBy_4 ?_
      refine ev_aload_n0 dX0_lettersBy_5 ?_
      refine gfX0_49 rfl (hW 0 rfl) dX0_lettersBy_6 ?_
      rw [hn]
      first | refine ev_icmp_geN 27 (by omega) (by omega) (by decide) dX0_lettersBy_9 (fun h9 => ?_) (fun h9 => by exfalso; omega) | refine ev_icmp_ge 27 (by decide) dX0_lettersBy_9 (fun h9 => ?_) (fun h9 => by exfalso; omega)
      refine ev_iload_n2 dX0_lettersBy_27 ?_
      refine ev_ireturn rfl dX0_lettersBy_28 ?_
      obtain rfl : k = n := by omega
      exact ⟨rfl, rfl⟩
    | succ f ih =>
      intro k hk
      refine ev_iload_n3 dX0_lettersBy_4 ?_
      refine ev_aload_n0 dX0_lettersBy_5 ?_
      refine gfX0_49 rfl (hW 0 rfl) dX0_lettersBy_6 ?_
      rw [hn]
      first | refine ev_icmp_geN 27 (by omega) (by omega) (by decide) dX0_lettersBy_9 (fun h9 => by exfalso; omega) (fun h9 => ?_) | refine ev_icmp_ge 27 (by decide) dX0_lettersBy_9 (fun h9 => by exfalso; omega) (fun h9 => ?_)
      refine ev_iload_n2 dX0_lettersBy_12 ?_
      refine ev_aload_n0 dX0_lettersBy_13 ?_
      refine ev_iload_n1 dX0_lettersBy_14 ?_
      refine ev_iload_n3 dX0_lettersBy_15 ?_
      refine ev_cV2f okX0_lettersOn lkX0_91 (Nat.le_of_ble_eq_true rfl) (Nat.le_of_ble_eq_true rfl) (hW 0 rfl) isO_0 (c_X0_lettersOn hW (by omega) (by omega)) dX0_lettersBy_16 ?_
      rw [hr k (by omega)]
      first | refine ev_iaddN dX0_lettersBy_19 ?_ | refine ev_iadd dX0_lettersBy_19 ?_
      refine ev_istore_n2 dX0_lettersBy_20 ?_
      refine ev_iinc3 dX0_lettersBy_21 ?_
      refine ev_goto 4 (by decide) dX0_lettersBy_24 ?_
      exact ih (k + 1) (by omega)
  refine ev_c0 dX0_lettersBy_0 ?_
  refine ev_istore_n2 dX0_lettersBy_1 ?_
  refine ev_c0 dX0_lettersBy_2 ?_
  refine ev_istore_n3 dX0_lettersBy_3 ?_
  exact loop n 0 (by omega)
theorem c_X0_allLetters {ks : List Nat} (hW : InW ks) {S : St} {n : Nat} {r : Nat → Nat → Nat} (hn : S 0 0 = nI n) (h4 : n ≤ 4) (hr : ∀ x q, x ≤ n → q < n → S 6 (x * 4 + q) = nI (r x q)) : Cn ks mX0_allLetters yX0_allLetters [.inr 0] S (Ri (nI (fb_sm (fun x => fb_sm (r x) n) (n + 1))) S) := by
  refine cnV okX0_allLetters 2 rfl ?_
  show Ev ks mX0_allLetters 0 [some (.inr 0), none, none] [] S _
  have loop : ∀ f k, k + f = n + 1 → Ev ks mX0_allLetters 4 [some (.inr 0), some (.inl (nI (fb_sm (fun x => fb_sm (r x) n) k))), some (.inl (nI k))] [] S (Ri (nI (fb_sm (fun x => fb_sm (r x) n) (n + 1))) S) := by
    intro f
    induction f with
    | zero =>
      intro k hk
      refine ev_iload_n2 dX0_allLetters_4 ?_
      refine ev_aload_n0 dX0_allLetters_5 ?_
      refine gfX0_49 rfl (hW 0 rfl) dX0_allLetters_6 ?_
      rw [hn]
      first | refine ev_icmp_gtN 26 (by omega) (by omega) (by decide) dX0_allLetters_9 (fun h9 => ?_) (fun h9 => by exfalso; omega) | refine ev_icmp_gt 26 (by decide) dX0_allLetters_9 (fun h9 => ?_) (fun h9 => by exfalso; omega)
      refine ev_iload_n1 dX0_allLetters_26 ?_
      refine ev_ireturn rfl dX0_allLetters_27 ?_
      obtain rfl : k = n + 1 := by omega
      exact ⟨rfl, rfl⟩
    | succ f ih =>
      intro k hk
      refine ev_iload_n2 dX0_allLetters_4 ?_
      refine ev_aload_n0 dX0_allLetters_5 ?_
      refine gfX0_49 rfl (hW 0 rfl) dX0_allLetters_6 ?_
      rw [hn]
      first | refine ev_icmp_gtN 26 (by omega) (by omega) (by decide) dX0_allLetters_9 (fun h9 => by exfalso; omega) (fun h9 => ?_) | refine ev_icmp_gt 26 (by decide) dX0_allLetters_9 (fun h9 => by exfalso; omega) (fun h9 => ?_)
      refine ev_iload_n1 dX0_allLetters_12 ?_
      refine ev_aload_n0 dX0_allLetters_13 ?_
      refine ev_iload_n2 dX0_allLetters_14 ?_
      refine ev_cV1f okX0_lettersBy lkX0_94 (Nat.le_of_ble_eq_true rfl) (Nat.le_of_ble_eq_true rfl) (hW 0 rfl) isO_0 (c_X0_lettersBy hW hn h4 (by omega) (fun q hq => hr k q (by omega) hq)) dX0_allLetters_15 ?_
      first | refine ev_iaddN dX0_allLetters_18 ?_ | refine ev_iadd dX0_allLetters_18 ?_
      refine ev_istore_n1 dX0_allLetters_19 ?_
      refine ev_iinc2 dX0_allLetters_20 ?_
      refine ev_goto 4 (by decide) dX0_allLetters_23 ?_
      exact ih (k + 1) (by omega)
  refine ev_c0 dX0_allLetters_0 ?_
  refine ev_istore_n1 dX0_allLetters_1 ?_
  refine ev_c0 dX0_allLetters_2 ?_
  refine ev_istore_n2 dX0_allLetters_3 ?_
  exact loop (n + 1) 0 (by omega)
theorem c_X0_carriedOn {ks : List Nat} (hW : InW ks) {S : St} {x y L : Nat} (hx : x < 5) (hy : y < 4) (hL : S 6 (x * 4 + y) = nI L) (h8 : L ≤ 8) : Cn ks mX0_carriedOn yX0_carriedOn [.inr 0, .inl (nI x), .inl (nI y)] S (Ri (nI (fb_sm (fun k => pcn (S 9 ((x * 4 + y) * 8 + k))) L)) S) := by
  refine cnV okX0_carriedOn 3 rfl ?_
  show Ev ks mX0_carriedOn 0 [some (.inr 0), some (.inl (nI x)), some (.inl (nI y)), none, none, none] [] S _
  have loop : ∀ f k, k + f = L → Ev ks mX0_carriedOn 13 [some (.inr 0), some (.inl (nI x)), some (.inl (nI y)), some (.inl (nI (fb_sm (fun k => pcn (S 9 ((x * 4 + y) * 8 + k))) k))), some (.inl (nI L)), some (.inl (nI k))] [] S (Ri (nI (fb_sm (fun k => pcn (S 9 ((x * 4 + y) * 8 + k))) L)) S) := by
    intro f
    induction f with
    | zero =>
      intro k hk
      refine ev_iload5 dX0_carriedOn_13 ?_
      refine ev_iload4 dX0_carriedOn_15 ?_
      first | refine ev_icmp_geN 44 (by omega) (by omega) (by decide) dX0_carriedOn_17 (fun h17 => ?_) (fun h17 => by exfalso; omega) | refine ev_icmp_ge 44 (by decide) dX0_carriedOn_17 (fun h17 => ?_) (fun h17 => by exfalso; omega)
      refine ev_iload_n3 dX0_carriedOn_44 ?_
      refine ev_ireturn rfl dX0_carriedOn_45 ?_
      obtain rfl : k = L := by omega
      exact ⟨rfl, rfl⟩
    | succ f ih =>
      intro k hk
      refine ev_iload5 dX0_carriedOn_13 ?_
      refine ev_iload4 dX0_carriedOn_15 ?_
      first | refine ev_icmp_geN 44 (by omega) (by omega) (by decide) dX0_carriedOn_17 (fun h17 => by exfalso; omega) (fun h17 => ?_) | refine ev_icmp_ge 44 (by decide) dX0_carriedOn_17 (fun h17 => by exfalso; omega) (fun h17 => ?_)
      refine ev_iload_n3 dX0_carriedOn_20 ?_
      refine ev_aload_n0 dX0_carriedOn_21 ?_
      refine gfX0_36 rfl (hW 0 rfl) dX0_carriedOn_22 ?_
      refine ev_iload_n1 dX0_carriedOn_25 ?_
      refine ev_iload_n2 dX0_carriedOn_26 ?_
      refine ev_iload5 dX0_carriedOn_27 ?_
      refine ev_cS3f okX0_letterOn lkX0_100 (Nat.le_of_ble_eq_true rfl) (Nat.le_of_ble_eq_true rfl) c_X0_letterOn dX0_carriedOn_29 ?_
      refine ev_iald 160 rfl rfl (hW 9 rfl) (by omega) dX0_carriedOn_32 ?_
      refine ev_cS1f okJ6_bitCount_0f7a4 lkX0_75 (Nat.le_of_ble_eq_true rfl) (Nat.le_of_ble_eq_true rfl) c_J6_bitCount_0f7a4 dX0_carriedOn_33 ?_
      first | refine ev_iaddN dX0_carriedOn_36 ?_ | refine ev_iadd dX0_carriedOn_36 ?_
      refine ev_istore_n3 dX0_carriedOn_37 ?_
      refine ev_iinc5 dX0_carriedOn_38 ?_
      refine ev_goto 13 (by decide) dX0_carriedOn_41 ?_
      exact ih (k + 1) (by omega)
  refine ev_c0 dX0_carriedOn_0 ?_
  refine ev_istore_n3 dX0_carriedOn_1 ?_
  refine ev_aload_n0 dX0_carriedOn_2 ?_
  refine ev_iload_n1 dX0_carriedOn_3 ?_
  refine ev_iload_n2 dX0_carriedOn_4 ?_
  refine ev_cV2f okX0_lettersOn lkX0_91 (Nat.le_of_ble_eq_true rfl) (Nat.le_of_ble_eq_true rfl) (hW 0 rfl) isO_0 (c_X0_lettersOn hW (by omega) (by omega)) dX0_carriedOn_5 ?_
  rw [hL]
  refine ev_istore4 dX0_carriedOn_8 ?_
  refine ev_c0 dX0_carriedOn_10 ?_
  refine ev_istore5 dX0_carriedOn_11 ?_
  exact loop L 0 (by omega)
theorem c_X0_allCarried {ks : List Nat} (hW : InW ks) {S : St} {n : Nat} {r : Nat → Nat → Nat} (hn : S 0 0 = nI n) (h4 : n ≤ 4) (hr : ∀ x q, x < n → q < n → S 6 (x * 4 + q) = nI (r x q) ∧ r x q ≤ 8) : Cn ks mX0_allCarried yX0_allCarried [.inr 0] S (Ri (nI (fb_sm (fun x => fb_sm (fun y => fb_sm (fun k => pcn (S 9 ((x * 4 + y) * 8 + k))) (r x y)) n) n)) S) := by
  refine cnV okX0_allCarried 3 rfl ?_
  show Ev ks mX0_allCarried 0 [some (.inr 0), none, none, none] [] S _
  generalize hF : (fun x => fb_sm (fun y => fb_sm (fun k => pcn (S 9 ((x * 4 + y) * 8 + k))) (r x y)) n) = F
  have loop2 : ∀ z x, x < n → (Ev ks mX0_allCarried 4 [some (.inr 0), some (.inl (nI (fb_sm F (x + 1)))), some (.inl (nI (x + 1))), some (.inl (nI n))] [] S (Ri (nI (fb_sm F n)) S)) → ∀ k, k + z = n → Ev ks mX0_allCarried 14 [some (.inr 0), some (.inl (nI (fb_sm F x + fb_sm (fun y => fb_sm (fun k => pcn (S 9 ((x * 4 + y) * 8 + k))) (r x y)) k))), some (.inl (nI x)), some (.inl (nI k))] [] S (Ri (nI (fb_sm F n)) S) := by
    intro z x hx hk4
    induction z with
    | zero =>
      intro k hk
      obtain rfl : k = n := by omega
      refine ev_iload_n3 dX0_allCarried_14 ?_
      refine ev_aload_n0 dX0_allCarried_15 ?_
      refine gfX0_49 rfl (hW 0 rfl) dX0_allCarried_16 ?_
      rw [hn]
      first | refine ev_icmp_geN 37 (by omega) (by omega) (by decide) dX0_allCarried_19 (fun h19 => ?_) (fun h19 => by exfalso; omega) | refine ev_icmp_ge 37 (by decide) dX0_allCarried_19 (fun h19 => ?_) (fun h19 => by exfalso; omega)
      refine ev_iinc2 dX0_allCarried_37 ?_
      refine ev_goto 4 (by decide) dX0_allCarried_40 ?_
      have e : fb_sm F (x + 1) = fb_sm F x + fb_sm (fun y => fb_sm (fun k => pcn (S 9 ((x * 4 + y) * 8 + k))) (r x y)) k := by rw [fb_sm_succ, ← hF]
      rw [← e]
      exact hk4
    | succ z ih =>
      intro k hk
      refine ev_iload_n3 dX0_allCarried_14 ?_
      refine ev_aload_n0 dX0_allCarried_15 ?_
      refine gfX0_49 rfl (hW 0 rfl) dX0_allCarried_16 ?_
      rw [hn]
      first | refine ev_icmp_geN 37 (by omega) (by omega) (by decide) dX0_allCarried_19 (fun h19 => by exfalso; omega) (fun h19 => ?_) | refine ev_icmp_ge 37 (by decide) dX0_allCarried_19 (fun h19 => by exfalso; omega) (fun h19 => ?_)
      refine ev_iload_n1 dX0_allCarried_22 ?_
      refine ev_aload_n0 dX0_allCarried_23 ?_
      refine ev_iload_n2 dX0_allCarried_24 ?_
      refine ev_iload_n3 dX0_allCarried_25 ?_
      refine ev_cV2f okX0_carriedOn lkX0_97 (Nat.le_of_ble_eq_true rfl) (Nat.le_of_ble_eq_true rfl) (hW 0 rfl) isO_0 (c_X0_carriedOn hW (by omega) (by omega) (hr x k hx (by omega)).1 (hr x k hx (by omega)).2) dX0_allCarried_26 ?_
      first | refine ev_iaddN dX0_allCarried_29 ?_ | refine ev_iadd dX0_allCarried_29 ?_
      refine ev_istore_n1 dX0_allCarried_30 ?_
      refine ev_iinc3 dX0_allCarried_31 ?_
      refine ev_goto 14 (by decide) dX0_allCarried_34 ?_
      rw [Nat.add_assoc, ← fb_sm_succ (fun y => fb_sm (fun k => pcn (S 9 ((x * 4 + y) * 8 + k))) (r x y)) k]
      exact ih (k + 1) (by omega)
  have loop : ∀ f x v, x + f = n → Ev ks mX0_allCarried 4 [some (.inr 0), some (.inl (nI (fb_sm F x))), some (.inl (nI x)), v] [] S (Ri (nI (fb_sm F n)) S) := by
    intro f
    induction f with
    | zero =>
      intro x v hx
      refine ev_iload_n2 dX0_allCarried_4 ?_
      refine ev_aload_n0 dX0_allCarried_5 ?_
      refine gfX0_49 rfl (hW 0 rfl) dX0_allCarried_6 ?_
      rw [hn]
      first | refine ev_icmp_geN 43 (by omega) (by omega) (by decide) dX0_allCarried_9 (fun h9 => ?_) (fun h9 => by exfalso; omega) | refine ev_icmp_ge 43 (by decide) dX0_allCarried_9 (fun h9 => ?_) (fun h9 => by exfalso; omega)
      refine ev_iload_n1 dX0_allCarried_43 ?_
      refine ev_ireturn rfl dX0_allCarried_44 ?_
      obtain rfl : x = n := by omega
      exact ⟨rfl, rfl⟩
    | succ f ih =>
      intro x v hx
      refine ev_iload_n2 dX0_allCarried_4 ?_
      refine ev_aload_n0 dX0_allCarried_5 ?_
      refine gfX0_49 rfl (hW 0 rfl) dX0_allCarried_6 ?_
      rw [hn]
      first | refine ev_icmp_geN 43 (by omega) (by omega) (by decide) dX0_allCarried_9 (fun h9 => by exfalso; omega) (fun h9 => ?_) | refine ev_icmp_ge 43 (by decide) dX0_allCarried_9 (fun h9 => by exfalso; omega) (fun h9 => ?_)
      refine ev_c0 dX0_allCarried_12 ?_
      refine ev_istore_n3 dX0_allCarried_13 ?_
      exact loop2 n x (by omega) (ih (x + 1) _ (by omega)) 0 (by omega)
  refine ev_c0 dX0_allCarried_0 ?_
  refine ev_istore_n1 dX0_allCarried_1 ?_
  refine ev_c0 dX0_allCarried_2 ?_
  refine ev_istore_n2 dX0_allCarried_3 ?_
  exact loop n 0 none (by omega)
theorem c_X0_takenFrom {ks : List Nat} (hW : InW ks) {S : St} {y r : Nat} {x : Int32} (hy : y < 4) (hr : S 1 y = nI r) (h8 : r ≤ 8) : Cn ks mX0_takenFrom yX0_takenFrom [.inr 0, .inl x, .inl (nI y)] S (Ri (nI (fb_ct (fun j => decide (S 2 (y * 8 + j) = x)) r)) S) := by
  refine cnV okX0_takenFrom 2 rfl ?_
  show Ev ks mX0_takenFrom 0 [some (.inr 0), some (.inl x), some (.inl (nI y)), none, none] [] S _
  have loop : ∀ f k, k + f = r → Ev ks mX0_takenFrom 5 [some (.inr 0), some (.inl x), some (.inl (nI y)), some (.inl (nI (fb_ct (fun j => decide (S 2 (y * 8 + j) = x)) k))), some (.inl (nI k))] [] S (Ri (nI (fb_ct (fun j => decide (S 2 (y * 8 + j) = x)) r)) S) := by
    intro f
    induction f with
    | zero =>
      intro k hk
      refine ev_iload4 dX0_takenFrom_5 ?_
      refine ev_aload_n0 dX0_takenFrom_7 ?_
      refine gfX0_9 rfl (hW 0 rfl) dX0_takenFrom_8 ?_
      refine ev_iload_n2 dX0_takenFrom_11 ?_
      refine ev_iald 4 rfl rfl (hW 1 rfl) (by omega) dX0_takenFrom_12 ?_
      rw [hr]
      first | refine ev_icmp_geN 40 (by omega) (by omega) (by decide) dX0_takenFrom_13 (fun h13 => ?_) (fun h13 => by exfalso; omega) | refine ev_icmp_ge 40 (by decide) dX0_takenFrom_13 (fun h13 => ?_) (fun h13 => by exfalso; omega)
      refine ev_iload_n3 dX0_takenFrom_40 ?_
      refine ev_ireturn rfl dX0_takenFrom_41 ?_
      obtain rfl : k = r := by omega
      exact ⟨rfl, rfl⟩
    | succ f ih =>
      intro k hk
      have hs := fb_ct_succ (fun j => decide (S 2 (y * 8 + j) = x)) k
      refine ev_iload4 dX0_takenFrom_5 ?_
      refine ev_aload_n0 dX0_takenFrom_7 ?_
      refine gfX0_9 rfl (hW 0 rfl) dX0_takenFrom_8 ?_
      refine ev_iload_n2 dX0_takenFrom_11 ?_
      refine ev_iald 4 rfl rfl (hW 1 rfl) (by omega) dX0_takenFrom_12 ?_
      rw [hr]
      first | refine ev_icmp_geN 40 (by omega) (by omega) (by decide) dX0_takenFrom_13 (fun h13 => by exfalso; omega) (fun h13 => ?_) | refine ev_icmp_ge 40 (by decide) dX0_takenFrom_13 (fun h13 => by exfalso; omega) (fun h13 => ?_)
      refine ev_aload_n0 dX0_takenFrom_16 ?_
      refine gfX0_15 rfl (hW 0 rfl) dX0_takenFrom_17 ?_
      refine ev_iload_n2 dX0_takenFrom_20 ?_
      refine ev_iload4 dX0_takenFrom_21 ?_
      refine ev_cS2f okX0_codeOf lkX0_88 (Nat.le_of_ble_eq_true rfl) (Nat.le_of_ble_eq_true rfl) c_X0_codeOf dX0_takenFrom_23 ?_
      refine ev_iald 32 rfl rfl (hW 2 rfl) (by omega) dX0_takenFrom_26 ?_
      refine ev_iload_n1 dX0_takenFrom_27 ?_
      first | refine ev_icmp_ne 34 (by decide) dX0_takenFrom_28 (fun h28 => ?_) (fun h28 => ?_)
      · refine ev_iinc4 dX0_takenFrom_34 ?_
        refine ev_goto 5 (by decide) dX0_takenFrom_37 ?_
        simp only [h28, decide_true, decide_false, if_true, Bool.false_eq_true, if_false, Nat.add_zero] at hs
        first | rw [← hs] | skip
        exact ih (k + 1) (by omega)
      · refine ev_iinc3 dX0_takenFrom_31 ?_
        refine ev_iinc4 dX0_takenFrom_34 ?_
        refine ev_goto 5 (by decide) dX0_takenFrom_37 ?_
        simp only [h28, decide_true, decide_false, if_true, Bool.false_eq_true, if_false, Nat.add_zero] at hs
        first | rw [← hs] | skip
        exact ih (k + 1) (by omega)
  refine ev_c0 dX0_takenFrom_0 ?_
  refine ev_istore_n3 dX0_takenFrom_1 ?_
  refine ev_c0 dX0_takenFrom_2 ?_
  refine ev_istore4 dX0_takenFrom_3 ?_
  exact loop r 0 (by omega)
theorem c_X0_holdersOf {ks : List Nat} (hW : InW ks) {S : St} {n c : Nat} (hn : S 0 0 = nI n) (h4 : n ≤ 4) (hc : c < 32) : Cn ks mX0_holdersOf yX0_holdersOf [.inr 0, .inl (nI c)] S (Ri (mk (fun p => bt (S 11 (p * 4 + p)) c) n) S) := by
  refine cnV okX0_holdersOf 2 rfl ?_
  show Ev ks mX0_holdersOf 0 [some (.inr 0), some (.inl (nI c)), none, none] [] S _
  have loop : ∀ f k, k + f = n → Ev ks mX0_holdersOf 4 [some (.inr 0), some (.inl (nI c)), some (.inl (mk (fun p => bt (S 11 (p * 4 + p)) c) k)), some (.inl (nI k))] [] S (Ri (mk (fun p => bt (S 11 (p * 4 + p)) c) n) S) := by
    intro f
    induction f with
    | zero =>
      intro k hk
      refine ev_iload_n3 dX0_holdersOf_4 ?_
      refine ev_aload_n0 dX0_holdersOf_5 ?_
      refine gfX0_49 rfl (hW 0 rfl) dX0_holdersOf_6 ?_
      rw [hn]
      first | refine ev_icmp_geN 32 (by omega) (by omega) (by decide) dX0_holdersOf_9 (fun h9 => ?_) (fun h9 => by exfalso; omega) | refine ev_icmp_ge 32 (by decide) dX0_holdersOf_9 (fun h9 => ?_) (fun h9 => by exfalso; omega)
      refine ev_iload_n2 dX0_holdersOf_32 ?_
      refine ev_ireturn rfl dX0_holdersOf_33 ?_
      obtain rfl : k = n := by omega
      exact ⟨rfl, rfl⟩
    | succ f ih =>
      intro k hk
      refine ev_iload_n3 dX0_holdersOf_4 ?_
      refine ev_aload_n0 dX0_holdersOf_5 ?_
      refine gfX0_49 rfl (hW 0 rfl) dX0_holdersOf_6 ?_
      rw [hn]
      first | refine ev_icmp_geN 32 (by omega) (by omega) (by decide) dX0_holdersOf_9 (fun h9 => by exfalso; omega) (fun h9 => ?_) | refine ev_icmp_ge 32 (by decide) dX0_holdersOf_9 (fun h9 => by exfalso; omega) (fun h9 => ?_)
      refine ev_iload_n2 dX0_holdersOf_12 ?_
      refine ev_aload_n0 dX0_holdersOf_13 ?_
      refine ev_iload_n3 dX0_holdersOf_14 ?_
      refine ev_cV1f okX0_heldBy lkX0_104 (Nat.le_of_ble_eq_true rfl) (Nat.le_of_ble_eq_true rfl) (hW 0 rfl) isO_0 (c_X0_heldBy hW (by omega)) dX0_holdersOf_15 ?_
      refine ev_iload_n1 dX0_holdersOf_18 ?_
      refine ev_iushr dX0_holdersOf_19 ?_
      refine ev_c1 dX0_holdersOf_20 ?_
      rw [nI_lit1]
      refine ev_iand dX0_holdersOf_21 ?_
      rw [u_bit _ c hc]
      refine ev_iload_n3 dX0_holdersOf_22 ?_
      refine ev_ishl dX0_holdersOf_23 ?_
      rw [bI_shl]
      refine ev_ior dX0_holdersOf_24 ?_
      refine ev_istore_n2 dX0_holdersOf_25 ?_
      refine ev_iinc3 dX0_holdersOf_26 ?_
      refine ev_goto 4 (by decide) dX0_holdersOf_29 ?_
      exact ih (k + 1) (by omega)
  refine ev_c0 dX0_holdersOf_0 ?_
  refine ev_istore_n2 dX0_holdersOf_1 ?_
  refine ev_c0 dX0_holdersOf_2 ?_
  refine ev_istore_n3 dX0_holdersOf_3 ?_
  exact loop n 0 (by omega)
theorem c_X0_holdersKnown {ks : List Nat} (hW : InW ks) {S : St} {n p c : Nat} (hn : S 0 0 = nI n) (h4 : n ≤ 4) (hp : p < 4) (hc : c < 32) : Cn ks mX0_holdersKnown yX0_holdersKnown [.inr 0, .inl (nI p), .inl (nI c)] S (Ri (mk (fun s => bt (S 11 (p * 4 + s)) c) n) S) := by
  refine cnV okX0_holdersKnown 2 rfl ?_
  show Ev ks mX0_holdersKnown 0 [some (.inr 0), some (.inl (nI p)), some (.inl (nI c)), none, none] [] S _
  have loop : ∀ f k, k + f = n → Ev ks mX0_holdersKnown 5 [some (.inr 0), some (.inl (nI p)), some (.inl (nI c)), some (.inl (mk (fun s => bt (S 11 (p * 4 + s)) c) k)), some (.inl (nI k))] [] S (Ri (mk (fun s => bt (S 11 (p * 4 + s)) c) n) S) := by
    intro f
    induction f with
    | zero =>
      intro k hk
      refine ev_iload4 dX0_holdersKnown_5 ?_
      refine ev_aload_n0 dX0_holdersKnown_7 ?_
      refine gfX0_49 rfl (hW 0 rfl) dX0_holdersKnown_8 ?_
      rw [hn]
      first | refine ev_icmp_geN 41 (by omega) (by omega) (by decide) dX0_holdersKnown_11 (fun h11 => ?_) (fun h11 => by exfalso; omega) | refine ev_icmp_ge 41 (by decide) dX0_holdersKnown_11 (fun h11 => ?_) (fun h11 => by exfalso; omega)
      refine ev_iload_n3 dX0_holdersKnown_41 ?_
      refine ev_ireturn rfl dX0_holdersKnown_42 ?_
      obtain rfl : k = n := by omega
      exact ⟨rfl, rfl⟩
    | succ f ih =>
      intro k hk
      refine ev_iload4 dX0_holdersKnown_5 ?_
      refine ev_aload_n0 dX0_holdersKnown_7 ?_
      refine gfX0_49 rfl (hW 0 rfl) dX0_holdersKnown_8 ?_
      rw [hn]
      first | refine ev_icmp_geN 41 (by omega) (by omega) (by decide) dX0_holdersKnown_11 (fun h11 => by exfalso; omega) (fun h11 => ?_) | refine ev_icmp_ge 41 (by decide) dX0_holdersKnown_11 (fun h11 => by exfalso; omega) (fun h11 => ?_)
      refine ev_iload_n3 dX0_holdersKnown_14 ?_
      refine ev_aload_n0 dX0_holdersKnown_15 ?_
      refine gfX0_42 rfl (hW 0 rfl) dX0_holdersKnown_16 ?_
      refine ev_iload_n1 dX0_holdersKnown_19 ?_
      refine ev_c4 dX0_holdersKnown_20 ?_
      first | refine ev_imulN dX0_holdersKnown_21 ?_ | refine ev_imul dX0_holdersKnown_21 ?_
      refine ev_iload4 dX0_holdersKnown_22 ?_
      first | refine ev_iaddN dX0_holdersKnown_24 ?_ | refine ev_iadd dX0_holdersKnown_24 ?_
      refine ev_iald 16 rfl rfl (hW 11 rfl) (by omega) dX0_holdersKnown_25 ?_
      refine ev_iload_n2 dX0_holdersKnown_26 ?_
      refine ev_iushr dX0_holdersKnown_27 ?_
      refine ev_c1 dX0_holdersKnown_28 ?_
      rw [nI_lit1]
      refine ev_iand dX0_holdersKnown_29 ?_
      rw [u_bit _ c hc]
      refine ev_iload4 dX0_holdersKnown_30 ?_
      refine ev_ishl dX0_holdersKnown_32 ?_
      rw [bI_shl]
      refine ev_ior dX0_holdersKnown_33 ?_
      refine ev_istore_n3 dX0_holdersKnown_34 ?_
      refine ev_iinc4 dX0_holdersKnown_35 ?_
      refine ev_goto 5 (by decide) dX0_holdersKnown_38 ?_
      exact ih (k + 1) (by omega)
  refine ev_c0 dX0_holdersKnown_0 ?_
  rw [nI_0]
  refine ev_istore_n3 dX0_holdersKnown_1 ?_
  refine ev_c0 dX0_holdersKnown_2 ?_
  refine ev_istore4 dX0_holdersKnown_3 ?_
  exact loop n 0 (by omega)
theorem c_X0_isSafe {ks : List Nat} (hW : InW ks) {S : St} {n e c : Nat} (hn : S 0 0 = nI n) (h4 : n ≤ 4) (he : S 0 1 = nI e) (he4 : e ≤ 4) (hc : c < 32) : Cn ks mX0_isSafe yX0_isSafe [.inr 0, .inl (nI c)] S (Ri (bI (decide (e ≤ pcn (mk (fun p => bt (S 11 (p * 4 + p)) c) n)))) S) := by
  refine cnV okX0_isSafe 0 rfl ?_
  show Ev ks mX0_isSafe 0 [some (.inr 0), some (.inl (nI c))] [] S _
  have hp := pcn_le (mk (fun p => bt (S 11 (p * 4 + p)) c) n)
  refine ev_aload_n0 dX0_isSafe_0 ?_
  refine ev_iload_n1 dX0_isSafe_1 ?_
  refine ev_cV1f okX0_holdersOf lkX0_107 (Nat.le_of_ble_eq_true rfl) (Nat.le_of_ble_eq_true rfl) (hW 0 rfl) isO_0 (c_X0_holdersOf hW hn (by omega) (by omega)) dX0_isSafe_2 ?_
  refine ev_cS1f okJ6_bitCount_0f7a4 lkX0_75 (Nat.le_of_ble_eq_true rfl) (Nat.le_of_ble_eq_true rfl) c_J6_bitCount_0f7a4 dX0_isSafe_5 ?_
  refine ev_aload_n0 dX0_isSafe_8 ?_
  refine gfX0_53 rfl (hW 0 rfl) dX0_isSafe_9 ?_
  rw [he]
  first | refine ev_icmp_ltN 19 (by omega) (by omega) (by decide) dX0_isSafe_12 (fun h12 => ?_) (fun h12 => ?_) | refine ev_icmp_lt 19 (by decide) dX0_isSafe_12 (fun h12 => ?_) (fun h12 => ?_)
  · refine ev_c0 dX0_isSafe_19 ?_
    refine ev_zreturn zr0 rfl dX0_isSafe_20 ?_
    refine ⟨?_, rfl⟩
    first | (rw [decide_eq_false (by omega)]; rfl) | (rw [decide_eq_true (by omega)]; rfl)
  · refine ev_c1 dX0_isSafe_15 ?_
    refine ev_goto 20 (by decide) dX0_isSafe_16 ?_
    refine ev_zreturn zr1 rfl dX0_isSafe_20 ?_
    refine ⟨?_, rfl⟩
    first | (rw [decide_eq_false (by omega)]; rfl) | (rw [decide_eq_true (by omega)]; rfl)
