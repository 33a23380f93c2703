/-- a receipt's own entries -/
def recW (S : St) (x y r t v : Nat) (p : Int32) : St := st (st (st (st (st S 2 (y * 8 + r) (nI x)) 3 (y * 8 + r) (nI t)) 4 (y * 8 + r) (nI v)) 5 (y * 8 + r) p) 1 y (nI (r + 1))
def pstW (S : St) (x y r t : Nat) : Int32 := ((nI 1 <<< (nI (y * 8 + r) &&& 31)) ||| (if r = 0 then 0 else S 5 (y * 8 + (r - 1)))) ||| (if S 8 ((x * 4 + y) * 8 + t) = -9 then 0 else S 5 (tn (S 8 ((x * 4 + y) * 8 + t))))
/-- a receipt, with what is learnt by it -/
def rclW (S : St) (n x y r t v : Nat) (p : Int32) : St := sr (recW S x y r t v p) 11 (lrn (recW S x y r t v p) n y (y * 8 + r) ((x * 4 + y) * 8 + t))
def takeW (S : St) (n e x y r t v : Nat) : St := ansW (rclW S n x y r t v (pstW S x y r t)) n e y (y * 8 + r) v
theorem c_X0_take {ks : List Nat} (hW : InW ks) {S : St} {n e x y r t sv co : Nat} (hn : S 0 0 = nI n) (h2 : 2 ≤ n) (h4 : n ≤ 4) (he : S 0 1 = nI e) (he4 : e ≤ 4) (hx : x ≤ n) (hy : y < n) (hr : S 1 y = nI r) (hr8 : r < 8) (ht : fb_ct (fun j => decide (S 2 (y * 8 + j) = nI x)) r = t) (ht8 : t < 8) (hsv : (if r = 0 then nI (y + 1) else S 4 (y * 8 + (r - 1))) = nI sv) (hs9 : sv < 997) (hco : S 7 ((x * 4 + y) * 8 + t) = nI co) (hc9 : co ≤ 99) (hb : S 8 ((x * 4 + y) * 8 + t) = -9 ∨ ∃ b, b < 32 ∧ S 8 ((x * 4 + y) * 8 + t) = nI b) (hL : ∀ z, z < n → ∃ L, L ≤ 8 ∧ S 6 (y * 4 + z) = nI L) : Cn ks mX0_take yX0_take [.inr 0, .inl (nI x), .inl (nI y)] S (Rv (takeW S n e x y r t ((31 * sv + co + x + 1) % 997))) := by
  refine cnV okX0_take 3 rfl ?_
  show Ev ks mX0_take 0 [some (.inr 0), some (.inl (nI x)), some (.inl (nI y)), none, none, none] [] S _
  have hv9 : (31 * sv + co + x + 1) % 997 < 997 := Nat.mod_lt _ (by omega)
  generalize hv : (31 * sv + co + x + 1) % 997 = v at hv9
  have hmod : v % n < n := Nat.mod_lt _ (by omega)
  obtain ⟨L, hL8, hLv⟩ := hL (v % n) hmod
  unfold takeW rclW recW
  have hpp : pstW S x y r t = ((nI 1 <<< (nI (y * 8 + r) &&& 31)) ||| (if r = 0 then 0 else S 5 (y * 8 + (r - 1)))) ||| (if S 8 ((x * 4 + y) * 8 + t) = -9 then 0 else S 5 (tn (S 8 ((x * 4 + y) * 8 + t)))) := rfl
  generalize pstW S x y r t = pp at hpp
  obtain ⟨Z1, hZ1⟩ : ∃ Z, Z = st (st S 2 (y * 8 + r) (nI x)) 3 (y * 8 + r) (nI t) := ⟨_, rfl⟩
  have z1 : Z1 1 = S 1 ∧ Z1 4 = S 4 ∧ Z1 5 = S 5 ∧ Z1 6 = S 6 ∧ Z1 7 = S 7 ∧ Z1 8 = S 8 ∧ Z1 0 = S 0 := by rw [hZ1]; exact ⟨rfl, rfl, rfl, rfl, rfl, rfl, rfl⟩
  obtain ⟨Z2, hZ2⟩ : ∃ Z, Z = st Z1 4 (y * 8 + r) (nI v) := ⟨_, rfl⟩
  have z2 : Z2 1 = S 1 ∧ Z2 5 = S 5 ∧ Z2 8 = S 8 := by rw [hZ2]; exact ⟨z1.1, z1.2.2.1, z1.2.2.2.2.2.1⟩
  obtain ⟨Z3, hZ3⟩ : ∃ Z, Z = st Z2 5 (y * 8 + r) pp := ⟨_, rfl⟩
  have z3 : Z3 1 = S 1 := by rw [hZ3]; exact z2.1
  obtain ⟨Z4, hZ4⟩ : ∃ Z, Z = st Z3 1 y (nI (r + 1)) := ⟨_, rfl⟩
  have z4 : Z4 0 = S 0 ∧ Z4 6 = S 6 ∧ Z4 4 (y * 8 + r) = nI v := by
    rw [hZ4, hZ3, hZ2]
    refine ⟨z1.2.2.2.2.2.2, z1.2.2.2.1, ?_⟩
    show upd (Z1 4) (y * 8 + r) (nI v) (y * 8 + r) = nI v
    exact upd_s _ _ _
  rw [← hZ1, ← hZ2, ← hZ3, ← hZ4]
  have hr1 : Z1 1 y = nI r := by rw [z1.1]; exact hr
  have hr2 : Z2 1 y = nI r := by rw [z2.1]; exact hr
  have hsv1 : (if r = 0 then nI (y + 1) else Z1 4 (y * 8 + (r - 1))) = nI sv := by rw [z1.2.1]; exact hsv
  have hco1 : Z1 7 ((x * 4 + y) * 8 + t) = nI co := by rw [z1.2.2.2.2.1]; exact hco
  have hb2 : Z2 8 ((x * 4 + y) * 8 + t) = -9 ∨ ∃ b, b < 32 ∧ Z2 8 ((x * 4 + y) * 8 + t) = nI b := by rw [z2.2.2]; exact hb
  have hpp2 : ((nI 1 <<< (nI (y * 8 + r) &&& 31)) ||| (if r = 0 then 0 else Z2 5 (y * 8 + (r - 1)))) ||| (if Z2 8 ((x * 4 + y) * 8 + t) = -9 then 0 else Z2 5 (tn (Z2 8 ((x * 4 + y) * 8 + t)))) = pp := by rw [z2.2.1, z2.2.2]; exact hpp.symm
  have hr3 : Z3 1 y = nI r := by rw [z3]; exact hr
  have hn4 : Z4 0 0 = nI n := by rw [z4.1]; exact hn
  have hn5 : ∀ R, sr Z4 11 R 0 0 = nI n := fun R => hn4
  have he5 : ∀ R, sr Z4 11 R 0 1 = nI e := fun R => by show Z4 0 1 = nI e; rw [z4.1]; exact he
  have hv5 : ∀ R, sr Z4 11 R 4 (y * 8 + r) = nI v := fun R => z4.2.2
  have hL5 : ∀ R, sr Z4 11 R 6 (y * 4 + v % n) = nI L := fun R => by show Z4 6 _ = nI L; rw [z4.2.1]; exact hLv
  refine ev_aload_n0 dX0_take_0 ?_
  refine ev_iload_n1 dX0_take_1 ?_
  refine ev_iload_n2 dX0_take_2 ?_
  refine ev_cV2f okX0_takenFrom lkX0_116 (Nat.le_of_ble_eq_true rfl) (Nat.le_of_ble_eq_true rfl) (hW 0 rfl) isO_0 (c_X0_takenFrom hW (by omega) (by assumption) (by omega)) dX0_take_3 ?_
  rw [ht]
  refine ev_istore_n3 dX0_take_6 ?_
  refine ev_iload_n1 dX0_take_7 ?_
  refine ev_iload_n2 dX0_take_8 ?_
  refine ev_iload_n3 dX0_take_9 ?_
  refine ev_cS3f okX0_letterOn lkX0_100 (Nat.le_of_ble_eq_true rfl) (Nat.le_of_ble_eq_true rfl) c_X0_letterOn dX0_take_10 ?_
  refine ev_istore4 dX0_take_13 ?_
  refine ev_iload_n2 dX0_take_15 ?_
  refine ev_aload_n0 dX0_take_16 ?_
  refine gfX0_9 rfl (hW 0 rfl) dX0_take_17 ?_
  refine ev_iload_n2 dX0_take_20 ?_
  refine ev_iald 4 rfl rfl (hW 1 rfl) (by omega) dX0_take_21 ?_
  rw [hr]
  refine ev_cS2f okX0_codeOf lkX0_88 (Nat.le_of_ble_eq_true rfl) (Nat.le_of_ble_eq_true rfl) c_X0_codeOf dX0_take_22 ?_
  refine ev_istore5 dX0_take_25 ?_
  refine ev_aload_n0 dX0_take_27 ?_
  refine gfX0_15 rfl (hW 0 rfl) dX0_take_28 ?_
  refine ev_iload5 dX0_take_31 ?_
  refine ev_iload_n1 dX0_take_33 ?_
  refine ev_iast 32 rfl rfl (hW 2 rfl) (by omega) dX0_take_34 ?_
  refine ev_aload_n0 dX0_take_35 ?_
  refine gfX0_18 rfl (hW 0 rfl) dX0_take_36 ?_
  refine ev_iload5 dX0_take_39 ?_
  refine ev_iload_n3 dX0_take_41 ?_
  refine ev_iast 32 rfl rfl (hW 3 rfl) (by omega) dX0_take_42 ?_
  rw [← hZ1]
  refine ev_aload_n0 dX0_take_43 ?_
  refine gfX0_21 rfl (hW 0 rfl) dX0_take_44 ?_
  refine ev_iload5 dX0_take_47 ?_
  refine ev_bipush (nI 31) kb_31 dX0_take_49 ?_
  refine ev_aload_n0 dX0_take_51 ?_
  refine ev_iload_n2 dX0_take_52 ?_
  refine ev_cV1f okX0_stateOf lkX0_119 (Nat.le_of_ble_eq_true rfl) (Nat.le_of_ble_eq_true rfl) (hW 0 rfl) isO_0 (c_X0_stateOf hW (by omega) (by assumption) (by omega)) dX0_take_53 ?_
  rw [hsv1]
  first | refine ev_imulN dX0_take_56 ?_ | refine ev_imul dX0_take_56 ?_
  refine ev_aload_n0 dX0_take_57 ?_
  refine gfX0_30 rfl (hW 0 rfl) dX0_take_58 ?_
  refine ev_iload4 dX0_take_61 ?_
  refine ev_iald 160 rfl rfl (hW 7 rfl) (by omega) dX0_take_63 ?_
  rw [hco1]
  first | refine ev_iaddN dX0_take_64 ?_ | refine ev_iadd dX0_take_64 ?_
  refine ev_iload_n1 dX0_take_65 ?_
  first | refine ev_iaddN dX0_take_66 ?_ | refine ev_iadd dX0_take_66 ?_
  refine ev_c1 dX0_take_67 ?_
  first | refine ev_iaddN dX0_take_68 ?_ | refine ev_iadd dX0_take_68 ?_
  refine ev_sipush (nI 997) kh_997 dX0_take_69 ?_
  refine ev_iremN (by omega) (by omega) (by omega) dX0_take_72 ?_
  rw [hv]
  refine ev_iast 32 rfl rfl (hW 4 rfl) (by omega) dX0_take_73 ?_
  rw [← hZ2]
  refine ev_aload_n0 dX0_take_74 ?_
  refine gfX0_24 rfl (hW 0 rfl) dX0_take_75 ?_
  refine ev_iload5 dX0_take_78 ?_
  refine ev_c1 dX0_take_80 ?_
  refine ev_iload5 dX0_take_81 ?_
  refine ev_ishl dX0_take_83 ?_
  refine ev_aload_n0 dX0_take_84 ?_
  refine ev_iload_n2 dX0_take_85 ?_
  refine ev_cV1f okX0_pastAhead lkX0_122 (Nat.le_of_ble_eq_true rfl) (Nat.le_of_ble_eq_true rfl) (hW 0 rfl) isO_0 (c_X0_pastAhead hW (by omega) hr2 (by omega)) dX0_take_86 ?_
  refine ev_ior dX0_take_89 ?_
  refine ev_aload_n0 dX0_take_90 ?_
  refine ev_iload4 dX0_take_91 ?_
  refine ev_cV1f okX0_pastOfBirth lkX0_125 (Nat.le_of_ble_eq_true rfl) (Nat.le_of_ble_eq_true rfl) (hW 0 rfl) isO_0 (c_X0_pastOfBirth hW (by omega) hb2) dX0_take_93 ?_
  refine ev_ior dX0_take_96 ?_
  rw [hpp2]
  refine ev_iast 32 rfl rfl (hW 5 rfl) (by omega) dX0_take_97 ?_
  rw [← hZ3]
  refine ev_aload_n0 dX0_take_98 ?_
  refine gfX0_9 rfl (hW 0 rfl) dX0_take_99 ?_
  refine ev_iload_n2 dX0_take_102 ?_
  refine ev_dup2 dX0_take_103 ?_
  refine ev_iald 4 rfl rfl (hW 1 rfl) (by omega) dX0_take_104 ?_
  rw [hr3]
  refine ev_c1 dX0_take_105 ?_
  first | refine ev_iaddN dX0_take_106 ?_ | refine ev_iadd dX0_take_106 ?_
  refine ev_iast 4 rfl rfl (hW 1 rfl) (by omega) dX0_take_107 ?_
  rw [← hZ4]
  refine ev_aload_n0 dX0_take_108 ?_
  refine ev_iload_n2 dX0_take_109 ?_
  refine ev_iload5 dX0_take_110 ?_
  refine ev_iload4 dX0_take_112 ?_
  refine ev_cV3v okX0_learn lkX0_128 (Nat.le_of_ble_eq_true rfl) (Nat.le_of_ble_eq_true rfl) (hW 0 rfl) isO_0 (c_X0_learn hW (by assumption) (by omega) (by omega) (by omega)) dX0_take_114 ?_
  refine ev_aload_n0 dX0_take_117 ?_
  refine ev_iload_n2 dX0_take_118 ?_
  refine ev_iload5 dX0_take_119 ?_
  refine ev_cV2v okX0_answer lkX0_132 (Nat.le_of_ble_eq_true rfl) (Nat.le_of_ble_eq_true rfl) (hW 0 rfl) isO_0 (c_X0_answer hW (hn5 _) h2 h4 (he5 _) he4 hy (by omega) (hv5 _) hv9 (hL5 _) hL8) dX0_take_121 ?_
  refine ev_return rfl dX0_take_124 ?_
  exact ⟨rfl, rfl⟩
/-- a world becomes as another -/
def cpyW (S : St) (a b : Nat) : St := fun k => if 12 * a ≤ k ∧ k < 12 * a + 12 then S (12 * b + (k - 12 * a)) else S k
theorem isA_W {k : Nat} (h : k < 96) (h0 : ¬ k % 12 = 0) : isA k = true := by
  unfold isA
  have h1 : Nat.blt k 96 = true := by rw [Nat.blt, Nat.ble_eq]; omega
  have h2 : Nat.beq (k % 12) 0 = false := by
    cases e : Nat.beq (k % 12) 0 with
    | false => rfl
    | true => exact absurd (Nat.eq_of_beq_eq_true e) h0
  rw [h1, h2]
  rfl
theorem alen_W {k j : Nat} (h : k < 96) (hj : k % 12 = j) : alen k = wlen j := by
  subst hj
  unfold alen
  split <;> first | omega | rfl
def cpyJ (S : St) (a b j : Nat) : St := fun k => if 12 * a ≤ k ∧ k < 12 * a + j then S (12 * b + (k - 12 * a)) else S k
theorem cpy_step (S : St) {a b j : Nat} (h0 : 0 < j) (hj : j < 12) (hab : a ≠ b) : sr (cpyJ S a b j) (12 * a + j) (cpyJ S a b j (12 * b + j)) = cpyJ S a b (j + 1) := by
  have e : cpyJ S a b j (12 * b + j) = S (12 * b + j) := if_neg (by omega)
  rw [e]
  funext k
  unfold sr cpyJ
  by_cases h : k = 12 * a + j
  · rw [if_pos h, if_pos (by omega), h, Nat.add_sub_cancel_left]
  · rw [if_neg h]
    by_cases h2 : 12 * a ≤ k ∧ k < 12 * a + j
    · rw [if_pos h2, if_pos (by omega)]
    · rw [if_neg h2, if_neg (by omega)]
theorem c_X0_become {ks : List Nat} (hC : InC ks) {S : St} {a b : Nat} (ha : a < 8) (hb : b < 8) (hab : a ≠ b) : Cn ks mX0_become yX0_become [.inr (12 * a), .inr (12 * b)] S (Rv (cpyW S a b)) := by
  refine cnV okX0_become 0 rfl ?_
  show Ev ks mX0_become 0 [some (.inr (12 * a)), some (.inr (12 * b))] [] S _
  have ma : ∀ j, j < 12 → 12 * a + j ∈ ks := fun j hj => hC _ (by rw [Nat.blt, Nat.ble_eq]; omega)
  have mb : ∀ j, j < 12 → 12 * b + j ∈ ks := fun j hj => hC _ (by rw [Nat.blt, Nat.ble_eq]; omega)
  have sa : ∀ j, 0 < j → j < 12 → isA (12 * a + j) = true := fun j h0 hj => isA_W (by omega) (by omega)
  have sb : ∀ j, 0 < j → j < 12 → isA (12 * b + j) = true := fun j h0 hj => isA_W (by omega) (by omega)
  have la : ∀ j, j < 12 → alen (12 * a + j) = wlen j := fun j hj => alen_W (by omega) (by omega)
  have lb : ∀ j, j < 12 → alen (12 * b + j) = wlen j := fun j hj => alen_W (by omega) (by omega)
  refine ev_aload_n0 dX0_become_0 ?_
  refine ev_aload_n1 dX0_become_1 ?_
  refine gkX0_49 (by omega) (by omega) rfl (mb 0 (by omega)) dX0_become_2 ?_
  refine pkX0_49 (by omega) (by omega) rfl (ma 0 (by omega)) dX0_become_5 ?_
  refine ev_aload_n0 dX0_become_8 ?_
  refine ev_aload_n1 dX0_become_9 ?_
  refine gkX0_53 (by omega) (by omega) rfl (mb 0 (by omega)) dX0_become_10 ?_
  refine pkX0_53 (by omega) (by omega) rfl (ma 0 (by omega)) dX0_become_13 ?_
  refine ev_aload_n0 dX0_become_16 ?_
  refine ev_aload_n1 dX0_become_17 ?_
  refine gkX0_56 (by omega) (by omega) rfl (mb 0 (by omega)) dX0_become_18 ?_
  refine pkX0_56 (by omega) (by omega) rfl (ma 0 (by omega)) dX0_become_21 ?_
  refine ev_cong (S' := cpyJ S a b 1) (fun k hk i hi => ?_) ?_
  · have hbn : ¬ 12 * b = 12 * a := by omega
    unfold cpyJ
    by_cases h : 12 * a ≤ k ∧ k < 12 * a + 1
    · obtain rfl : k = 12 * a := by omega
      rw [if_pos h, Nat.sub_self, Nat.add_zero]
      have hi : i < 3 := by
        unfold wid at hi
        have h1 : isA (12 * a) = false := by
          have h2 := ct_W (g := (fun _ => 0, (fun _ => 0, fun _ _ => 0), 0, 0, 0)) (r := fun _ => 0) (k := 12 * a) (by omega) (by omega)
          cases h3 : isA (12 * a) with
          | false => rfl
          | true => rw [ct_A h3] at h2; cases h2
        rw [h1] at hi
        have h5 : Nat.blt (12 * a) 96 = true := by rw [Nat.blt, Nat.ble_eq]; omega
        rw [h5] at hi
        exact hi
      unfold st
      rw [if_pos rfl, if_pos rfl, if_pos rfl, if_neg hbn, if_neg hbn]
      unfold upd
      rcases (show i = 0 ∨ i = 1 ∨ i = 2 by omega) with rfl | rfl | rfl <;> simp
    · have hka : ¬ k = 12 * a := by omega
      unfold st
      rw [if_neg h, if_neg hka, if_neg hka, if_neg hka]
  refine ev_aload_n1 dX0_become_24 ?_
  refine gkX0_9 (by omega) (by omega) rfl (mb 0 (by omega)) dX0_become_25 ?_
  refine ev_c0 dX0_become_28 ?_
  refine ev_aload_n0 dX0_become_29 ?_
  refine gkX0_9 (by omega) (by omega) rfl (ma 0 (by omega)) dX0_become_30 ?_
  refine ev_c0 dX0_become_33 ?_
  refine ev_c4 dX0_become_34 ?_
  refine ev_copy 4 (lb 1 (by omega)) (la 1 (by omega)) (sb 1 (by omega) (by omega)) (sa 1 (by omega) (by omega)) (mb 1 (by omega)) (ma 1 (by omega)) lkX0_65 kp_n kp_s kp_i (by decide) (Nat.le_of_ble_eq_true rfl) dX0_become_35 ?_
  rw [cpy_step S (by omega : 0 < 1) (by omega) hab]
  refine ev_aload_n1 dX0_become_38 ?_
  refine gkX0_15 (by omega) (by omega) rfl (mb 0 (by omega)) dX0_become_39 ?_
  refine ev_c0 dX0_become_42 ?_
  refine ev_aload_n0 dX0_become_43 ?_
  refine gkX0_15 (by omega) (by omega) rfl (ma 0 (by omega)) dX0_become_44 ?_
  refine ev_c0 dX0_become_47 ?_
  refine ev_bipush (nI 32) kb_32 dX0_become_48 ?_
  refine ev_copy 32 (lb 2 (by omega)) (la 2 (by omega)) (sb 2 (by omega) (by omega)) (sa 2 (by omega) (by omega)) (mb 2 (by omega)) (ma 2 (by omega)) lkX0_65 kp_n kp_s kp_i (by decide) (Nat.le_of_ble_eq_true rfl) dX0_become_50 ?_
  rw [cpy_step S (by omega : 0 < 2) (by omega) hab]
  refine ev_aload_n1 dX0_become_53 ?_
  refine gkX0_18 (by omega) (by omega) rfl (mb 0 (by omega)) dX0_become_54 ?_
  refine ev_c0 dX0_become_57 ?_
  refine ev_aload_n0 dX0_become_58 ?_
  refine gkX0_18 (by omega) (by omega) rfl (ma 0 (by omega)) dX0_become_59 ?_
  refine ev_c0 dX0_become_62 ?_
  refine ev_bipush (nI 32) kb_32 dX0_become_63 ?_
  refine ev_copy 32 (lb 3 (by omega)) (la 3 (by omega)) (sb 3 (by omega) (by omega)) (sa 3 (by omega) (by omega)) (mb 3 (by omega)) (ma 3 (by omega)) lkX0_65 kp_n kp_s kp_i (by decide) (Nat.le_of_ble_eq_true rfl) dX0_become_65 ?_
  rw [cpy_step S (by omega : 0 < 3) (by omega) hab]
  refine ev_aload_n1 dX0_become_68 ?_
  refine gkX0_21 (by omega) (by omega) rfl (mb 0 (by omega)) dX0_become_69 ?_
  refine ev_c0 dX0_become_72 ?_
  refine ev_aload_n0 dX0_become_73 ?_
  refine gkX0_21 (by omega) (by omega) rfl (ma 0 (by omega)) dX0_become_74 ?_
  refine ev_c0 dX0_become_77 ?_
  refine ev_bipush (nI 32) kb_32 dX0_become_78 ?_
  refine ev_copy 32 (lb 4 (by omega)) (la 4 (by omega)) (sb 4 (by omega) (by omega)) (sa 4 (by omega) (by omega)) (mb 4 (by omega)) (ma 4 (by omega)) lkX0_65 kp_n kp_s kp_i (by decide) (Nat.le_of_ble_eq_true rfl) dX0_become_80 ?_
  rw [cpy_step S (by omega : 0 < 4) (by omega) hab]
  refine ev_aload_n1 dX0_become_83 ?_
  refine gkX0_24 (by omega) (by omega) rfl (mb 0 (by omega)) dX0_become_84 ?_
  refine ev_c0 dX0_become_87 ?_
  refine ev_aload_n0 dX0_become_88 ?_
  refine gkX0_24 (by omega) (by omega) rfl (ma 0 (by omega)) dX0_become_89 ?_
  refine ev_c0 dX0_become_92 ?_
  refine ev_bipush (nI 32) kb_32 dX0_become_93 ?_
  refine ev_copy 32 (lb 5 (by omega)) (la 5 (by omega)) (sb 5 (by omega) (by omega)) (sa 5 (by omega) (by omega)) (mb 5 (by omega)) (ma 5 (by omega)) lkX0_65 kp_n kp_s kp_i (by decide) (Nat.le_of_ble_eq_true rfl) dX0_become_95 ?_
  rw [cpy_step S (by omega : 0 < 5) (by omega) hab]
  refine ev_aload_n1 dX0_become_98 ?_
  refine gkX0_27 (by omega) (by omega) rfl (mb 0 (by omega)) dX0_become_99 ?_
  refine ev_c0 dX0_become_102 ?_
  refine ev_aload_n0 dX0_become_103 ?_
  refine gkX0_27 (by omega) (by omega) rfl (ma 0 (by omega)) dX0_become_104 ?_
  refine ev_c0 dX0_become_107 ?_
  refine ev_bipush (nI 20) kb_20 dX0_become_108 ?_
  refine ev_copy 20 (lb 6 (by omega)) (la 6 (by omega)) (sb 6 (by omega) (by omega)) (sa 6 (by omega) (by omega)) (mb 6 (by omega)) (ma 6 (by omega)) lkX0_65 kp_n kp_s kp_i (by decide) (Nat.le_of_ble_eq_true rfl) dX0_become_110 ?_
  rw [cpy_step S (by omega : 0 < 6) (by omega) hab]
  refine ev_aload_n1 dX0_become_113 ?_
  refine gkX0_30 (by omega) (by omega) rfl (mb 0 (by omega)) dX0_become_114 ?_
  refine ev_c0 dX0_become_117 ?_
  refine ev_aload_n0 dX0_become_118 ?_
  refine gkX0_30 (by omega) (by omega) rfl (ma 0 (by omega)) dX0_become_119 ?_
  refine ev_c0 dX0_become_122 ?_
  refine ev_sipush (nI 160) kh_160 dX0_become_123 ?_
  refine ev_copy 160 (lb 7 (by omega)) (la 7 (by omega)) (sb 7 (by omega) (by omega)) (sa 7 (by omega) (by omega)) (mb 7 (by omega)) (ma 7 (by omega)) lkX0_65 kp_n kp_s kp_i (by decide) (Nat.le_of_ble_eq_true rfl) dX0_become_126 ?_
  rw [cpy_step S (by omega : 0 < 7) (by omega) hab]
  refine ev_aload_n1 dX0_become_129 ?_
  refine gkX0_33 (by omega) (by omega) rfl (mb 0 (by omega)) dX0_become_130 ?_
  refine ev_c0 dX0_become_133 ?_
  refine ev_aload_n0 dX0_become_134 ?_
  refine gkX0_33 (by omega) (by omega) rfl (ma 0 (by omega)) dX0_become_135 ?_
  refine ev_c0 dX0_become_138 ?_
  refine ev_sipush (nI 160) kh_160 dX0_become_139 ?_
  refine ev_copy 160 (lb 8 (by omega)) (la 8 (by omega)) (sb 8 (by omega) (by omega)) (sa 8 (by omega) (by omega)) (mb 8 (by omega)) (ma 8 (by omega)) lkX0_65 kp_n kp_s kp_i (by decide) (Nat.le_of_ble_eq_true rfl) dX0_become_142 ?_
  rw [cpy_step S (by omega : 0 < 8) (by omega) hab]
  refine ev_aload_n1 dX0_become_145 ?_
  refine gkX0_36 (by omega) (by omega) rfl (mb 0 (by omega)) dX0_become_146 ?_
  refine ev_c0 dX0_become_149 ?_
  refine ev_aload_n0 dX0_become_150 ?_
  refine gkX0_36 (by omega) (by omega) rfl (ma 0 (by omega)) dX0_become_151 ?_
  refine ev_c0 dX0_become_154 ?_
  refine ev_sipush (nI 160) kh_160 dX0_become_155 ?_
  refine ev_copy 160 (lb 9 (by omega)) (la 9 (by omega)) (sb 9 (by omega) (by omega)) (sa 9 (by omega) (by omega)) (mb 9 (by omega)) (ma 9 (by omega)) lkX0_65 kp_n kp_s kp_i (by decide) (Nat.le_of_ble_eq_true rfl) dX0_become_158 ?_
  rw [cpy_step S (by omega : 0 < 9) (by omega) hab]
  refine ev_aload_n1 dX0_become_161 ?_
  refine gkX0_39 (by omega) (by omega) rfl (mb 0 (by omega)) dX0_become_162 ?_
  refine ev_c0 dX0_become_165 ?_
  refine ev_aload_n0 dX0_become_166 ?_
  refine gkX0_39 (by omega) (by omega) rfl (ma 0 (by omega)) dX0_become_167 ?_
  refine ev_c0 dX0_become_170 ?_
  refine ev_sipush (nI 640) kh_640 dX0_become_171 ?_
  refine ev_copy 640 (lb 10 (by omega)) (la 10 (by omega)) (sb 10 (by omega) (by omega)) (sa 10 (by omega) (by omega)) (mb 10 (by omega)) (ma 10 (by omega)) lkX0_65 kp_n kp_s kp_i (by decide) (Nat.le_of_ble_eq_true rfl) dX0_become_174 ?_
  rw [cpy_step S (by omega : 0 < 10) (by omega) hab]
  refine ev_aload_n1 dX0_become_177 ?_
  refine gkX0_42 (by omega) (by omega) rfl (mb 0 (by omega)) dX0_become_178 ?_
  refine ev_c0 dX0_become_181 ?_
  refine ev_aload_n0 dX0_become_182 ?_
  refine gkX0_42 (by omega) (by omega) rfl (ma 0 (by omega)) dX0_become_183 ?_
  refine ev_c0 dX0_become_186 ?_
  refine ev_bipush (nI 16) kb_16 dX0_become_187 ?_
  refine ev_copy 16 (lb 11 (by omega)) (la 11 (by omega)) (sb 11 (by omega) (by omega)) (sa 11 (by omega) (by omega)) (mb 11 (by omega)) (ma 11 (by omega)) lkX0_65 kp_n kp_s kp_i (by decide) (Nat.le_of_ble_eq_true rfl) dX0_become_189 ?_
  rw [cpy_step S (by omega : 0 < 11) (by omega) hab]
  exact ev_return rfl dX0_become_192 ⟨rfl, rfl⟩
