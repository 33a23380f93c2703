/-- a letter is written in a world -/
def wrW (S : St) (n x y L : Nat) (c b cs : Int32) : St :=
  sr (sr (sr (sr (sr S 7 (upd (S 7) ((x * 4 + y) * 8 + L) c)) 8 (upd (S 8) ((x * 4 + y) * 8 + L) b)) 9 (upd (S 9) ((x * 4 + y) * 8 + L) cs)) 10 (fun i => if ((x * 4 + y) * 8 + L) * 4 ≤ i ∧ i < ((x * 4 + y) * 8 + L) * 4 + 4 then (if x < n then S 11 (x * 4 + (i - ((x * 4 + y) * 8 + L) * 4)) &&& cs else 0) else S 10 i)) 6 (upd (S 6) (x * 4 + y) (nI (L + 1)))
theorem c_X0_write {ks : List Nat} (hW : InW ks) {S : St} {n x y L : Nat} {c b cs : Int32} (hn : S 0 0 = nI n) (h4 : n ≤ 4) (hx : x < 5) (hy : y < 4) (hL : S 6 (x * 4 + y) = nI L) (hL8 : L < 8) (hxn : x ≤ n) : Cn ks mX0_write yX0_write [.inr 0, .inl (nI x), .inl (nI y), .inl c, .inl b, .inl cs] S (Rv (wrW S n x y L c b cs)) := by
  refine cnV okX0_write 2 rfl ?_
  show Ev ks mX0_write 0 [some (.inr 0), some (.inl (nI x)), some (.inl (nI y)), some (.inl c), some (.inl b), some (.inl cs), none, none] [] S _
  unfold wrW
  generalize hl : (x * 4 + y) * 8 + L = l
  have hl160 : l < 160 := by omega
  obtain ⟨Z, hZ⟩ : ∃ Z, Z = sr (sr (sr S 7 (upd (S 7) l c)) 8 (upd (S 8) l b)) 9 (upd (S 9) l cs) := ⟨_, rfl⟩
  rw [← hZ]
  have z0 : Z 0 = S 0 := by rw [hZ]; rfl
  have z6 : Z 6 = S 6 := by rw [hZ]; rfl
  have z10 : Z 10 = S 10 := by rw [hZ]; rfl
  have z11 : Z 11 = S 11 := by rw [hZ]; rfl
  have h6 : ∀ R, sr Z 10 R 6 (x * 4 + y) = nI L := fun R => by show Z 6 _ = _; rw [z6]; exact hL
  have h0 : ∀ R, sr Z 10 R 0 0 = nI n := fun R => by show Z 0 _ = _; rw [z0]; exact hn
  have h11 : ∀ R i, sr Z 10 R 11 i = S 11 i := fun R i => by show Z 11 _ = _; rw [z11]
  have loop : ∀ f k, k + f = 4 → Ev ks mX0_write 42 [some (.inr 0), some (.inl (nI x)), some (.inl (nI y)), some (.inl c), some (.inl b), some (.inl cs), some (.inl (nI l)), some (.inl (nI k))] [] (sr Z 10 (fun i => if l * 4 ≤ i ∧ i < l * 4 + k then (if x < n then S 11 (x * 4 + (i - l * 4)) &&& cs else 0) else S 10 i)) (Rv (sr (sr Z 10 (fun i => if l * 4 ≤ i ∧ i < l * 4 + 4 then (if x < n then S 11 (x * 4 + (i - l * 4)) &&& cs else 0) else S 10 i)) 6 (upd (S 6) (x * 4 + y) (nI (L + 1))))) := by
    intro f
    induction f with
    | zero =>
      intro k hk
      obtain rfl : k = 4 := by omega
      refine ev_iload7 dX0_write_42 ?_
      refine ev_c4 dX0_write_44 ?_
      first | refine ev_icmp_geN 92 (by omega) (by omega) (by decide) dX0_write_45 (fun h45 => ?_) (fun h45 => by exfalso; omega) | refine ev_icmp_ge 92 (by decide) dX0_write_45 (fun h45 => ?_) (fun h45 => by exfalso; omega)
      refine ev_aload_n0 dX0_write_92 ?_
      refine gfX0_27 rfl (hW 0 rfl) dX0_write_93 ?_
      refine ev_iload_n1 dX0_write_96 ?_
      refine ev_iload_n2 dX0_write_97 ?_
      refine ev_cS2f okX0_wayOf lkX0_80 (Nat.le_of_ble_eq_true rfl) (Nat.le_of_ble_eq_true rfl) c_X0_wayOf dX0_write_98 ?_
      refine ev_dup2 dX0_write_101 ?_
      refine ev_iald 20 rfl rfl (hW 6 rfl) (by omega) dX0_write_102 ?_
      rw [h6]
      refine ev_c1 dX0_write_103 ?_
      first | refine ev_iaddN dX0_write_104 ?_ | refine ev_iadd dX0_write_104 ?_
      refine ev_iast 20 rfl rfl (hW 6 rfl) (by omega) dX0_write_105 ?_
      refine ev_return rfl dX0_write_106 ?_
      refine ⟨rfl, ?_⟩
      rw [st_n]
      congr 2
    | succ f ih =>
      intro k hk
      have e : ∀ v, v = (if x < n then S 11 (x * 4 + k) &&& cs else 0) → upd (fun i => if l * 4 ≤ i ∧ i < l * 4 + k then (if x < n then S 11 (x * 4 + (i - l * 4)) &&& cs else 0) else S 10 i) (l * 4 + k) v = (fun i => if l * 4 ≤ i ∧ i < l * 4 + (k + 1) then (if x < n then S 11 (x * 4 + (i - l * 4)) &&& cs else 0) else S 10 i) := by
        intro v hv
        funext i
        unfold upd
        by_cases h : i = l * 4 + k
        · rw [if_pos h, if_pos (by omega), hv, h, Nat.add_sub_cancel_left]
        · rw [if_neg h]
          dsimp only
          by_cases h2 : l * 4 ≤ i ∧ i < l * 4 + k
          · rw [if_pos h2, if_pos (show l * 4 ≤ i ∧ i < l * 4 + (k + 1) by omega)]
          · rw [if_neg h2, if_neg (show ¬ (l * 4 ≤ i ∧ i < l * 4 + (k + 1)) by omega)]
      refine ev_iload7 dX0_write_42 ?_
      refine ev_c4 dX0_write_44 ?_
      first | refine ev_icmp_geN 92 (by omega) (by omega) (by decide) dX0_write_45 (fun h45 => by exfalso; omega) (fun h45 => ?_) | refine ev_icmp_ge 92 (by decide) dX0_write_45 (fun h45 => by exfalso; omega) (fun h45 => ?_)
      refine ev_aload_n0 dX0_write_48 ?_
      refine gfX0_39 rfl (hW 0 rfl) dX0_write_49 ?_
      refine ev_iload6 dX0_write_52 ?_
      refine ev_c4 dX0_write_54 ?_
      first | refine ev_imulN dX0_write_55 ?_ | refine ev_imul dX0_write_55 ?_
      refine ev_iload7 dX0_write_56 ?_
      first | refine ev_iaddN dX0_write_58 ?_ | refine ev_iadd dX0_write_58 ?_
      refine ev_aload_n0 dX0_write_59 ?_
      refine ev_iload_n1 dX0_write_60 ?_
      refine ev_cV1f okX0_isSite lkX0_84 (Nat.le_of_ble_eq_true rfl) (Nat.le_of_ble_eq_true rfl) (hW 0 rfl) isO_0 (c_X0_isSite hW (h0 _)) dX0_write_61 ?_
      rw [isS_nat (by omega) (by omega)]
      first | refine ev_if_eqB 84 (by decide) dX0_write_64 (fun h64 => ?_) (fun h64 => ?_)
      · refine ev_c0 dX0_write_84 ?_
        refine ev_iast 640 rfl rfl (hW 10 rfl) (by omega) dX0_write_85 ?_
        refine ev_iinc7 dX0_write_86 ?_
        refine ev_goto 42 (by decide) dX0_write_89 ?_
        rw [st_sr, e _ (by first | (rw [if_pos (of_decide_eq_true h64)]; done) | (rw [if_neg (of_decide_eq_false h64), nI_0]; done))]
        exact ih (k + 1) (by omega)
      · refine ev_aload_n0 dX0_write_67 ?_
        refine gfX0_42 rfl (hW 0 rfl) dX0_write_68 ?_
        refine ev_iload_n1 dX0_write_71 ?_
        refine ev_c4 dX0_write_72 ?_
        first | refine ev_imulN dX0_write_73 ?_ | refine ev_imul dX0_write_73 ?_
        refine ev_iload7 dX0_write_74 ?_
        first | refine ev_iaddN dX0_write_76 ?_ | refine ev_iadd dX0_write_76 ?_
        refine ev_iald 16 rfl rfl (hW 11 rfl) (by have := of_decide_eq_true h64; omega) dX0_write_77 ?_
        rw [h11]
        refine ev_iload5 dX0_write_78 ?_
        refine ev_iand dX0_write_80 ?_
        refine ev_goto 85 (by decide) dX0_write_81 ?_
        refine ev_iast 640 rfl rfl (hW 10 rfl) (by omega) dX0_write_85 ?_
        refine ev_iinc7 dX0_write_86 ?_
        refine ev_goto 42 (by decide) dX0_write_89 ?_
        rw [st_sr, e _ (by first | (rw [if_pos (of_decide_eq_true h64)]; done) | (rw [if_neg (of_decide_eq_false h64), nI_0]; done))]
        exact ih (k + 1) (by omega)
  refine ev_iload_n1 dX0_write_0 ?_
  refine ev_iload_n2 dX0_write_1 ?_
  refine ev_aload_n0 dX0_write_2 ?_
  refine ev_iload_n1 dX0_write_3 ?_
  refine ev_iload_n2 dX0_write_4 ?_
  refine ev_cV2f okX0_lettersOn lkX0_91 (Nat.le_of_ble_eq_true rfl) (Nat.le_of_ble_eq_true rfl) (hW 0 rfl) isO_0 (c_X0_lettersOn hW (by omega) (by omega)) dX0_write_5 ?_
  rw [hL]
  refine ev_cS3f okX0_letterOn lkX0_100 (Nat.le_of_ble_eq_true rfl) (Nat.le_of_ble_eq_true rfl) c_X0_letterOn dX0_write_8 ?_
  rw [hl]
  refine ev_istore6 dX0_write_11 ?_
  refine ev_aload_n0 dX0_write_13 ?_
  refine gfX0_30 rfl (hW 0 rfl) dX0_write_14 ?_
  refine ev_iload6 dX0_write_17 ?_
  refine ev_iload_n3 dX0_write_19 ?_
  refine ev_iast 160 rfl rfl (hW 7 rfl) (by omega) dX0_write_20 ?_
  refine ev_aload_n0 dX0_write_21 ?_
  refine gfX0_33 rfl (hW 0 rfl) dX0_write_22 ?_
  refine ev_iload6 dX0_write_25 ?_
  refine ev_iload4 dX0_write_27 ?_
  refine ev_iast 160 rfl rfl (hW 8 rfl) (by omega) dX0_write_29 ?_
  refine ev_aload_n0 dX0_write_30 ?_
  refine gfX0_36 rfl (hW 0 rfl) dX0_write_31 ?_
  refine ev_iload6 dX0_write_34 ?_
  refine ev_iload5 dX0_write_36 ?_
  refine ev_iast 160 rfl rfl (hW 9 rfl) (by omega) dX0_write_38 ?_
  refine ev_c0 dX0_write_39 ?_
  refine ev_istore7 dX0_write_40 ?_
  have h := loop 4 0 rfl
  have e : sr Z 10 (fun i => if l * 4 ≤ i ∧ i < l * 4 + 0 then (if x < n then S 11 (x * 4 + (i - l * 4)) &&& cs else 0) else S 10 i) = Z := by
    have : (fun i => if l * 4 ≤ i ∧ i < l * 4 + 0 then (if x < n then S 11 (x * 4 + (i - l * 4)) &&& cs else 0) else S 10 i) = Z 10 := by
      rw [z10]; funext i; rw [if_neg (by omega)]
    rw [this, sr_self]
  rw [e, hZ] at h
  rw [hZ]
  exact h
theorem c_X0_pastAhead {ks : List Nat} (hW : InW ks) {S : St} {q r : Nat} (hq : q < 4) (hr : S 1 q = nI r) (h8 : r ≤ 8) : Cn ks mX0_pastAhead yX0_pastAhead [.inr 0, .inl (nI q)] S (Ri (if r = 0 then 0 else S 5 (q * 8 + (r - 1))) S) := by
  refine cnV okX0_pastAhead 0 rfl ?_
  show Ev ks mX0_pastAhead 0 [some (.inr 0), some (.inl (nI q))] [] S _
  refine ev_aload_n0 dX0_pastAhead_0 ?_
  refine gfX0_9 rfl (hW 0 rfl) dX0_pastAhead_1 ?_
  refine ev_iload_n1 dX0_pastAhead_4 ?_
  refine ev_iald 4 rfl rfl (hW 1 rfl) (by omega) dX0_pastAhead_5 ?_
  rw [hr]
  first | refine ev_if_neN 13 (by omega) (by decide) dX0_pastAhead_6 (fun h6 => ?_) (fun h6 => ?_) | refine ev_if_ne 13 (by decide) dX0_pastAhead_6 (fun h6 => ?_) (fun h6 => ?_)
  · refine ev_aload_n0 dX0_pastAhead_13 ?_
    refine gfX0_24 rfl (hW 0 rfl) dX0_pastAhead_14 ?_
    refine ev_iload_n1 dX0_pastAhead_17 ?_
    refine ev_aload_n0 dX0_pastAhead_18 ?_
    refine gfX0_9 rfl (hW 0 rfl) dX0_pastAhead_19 ?_
    refine ev_iload_n1 dX0_pastAhead_22 ?_
    refine ev_iald 4 rfl rfl (hW 1 rfl) (by omega) dX0_pastAhead_23 ?_
    rw [hr]
    refine ev_c1 dX0_pastAhead_24 ?_
    first | refine ev_isubN (by omega) dX0_pastAhead_25 ?_ | refine ev_isub dX0_pastAhead_25 ?_
    refine ev_cS2f okX0_codeOf lkX0_88 (Nat.le_of_ble_eq_true rfl) (Nat.le_of_ble_eq_true rfl) c_X0_codeOf dX0_pastAhead_26 ?_
    refine ev_iald 32 rfl rfl (hW 5 rfl) (by omega) dX0_pastAhead_29 ?_
    refine ev_ireturn rfl dX0_pastAhead_30 ?_
    refine ⟨?_, rfl⟩
    first | rw [if_pos h6, nI_0] | rw [if_neg (by omega)]
  · refine ev_c0 dX0_pastAhead_9 ?_
    refine ev_goto 30 (by decide) dX0_pastAhead_10 ?_
    refine ev_ireturn rfl dX0_pastAhead_30 ?_
    refine ⟨?_, rfl⟩
    first | rw [if_pos h6, nI_0] | rw [if_neg (by omega)]
theorem c_X0_pastOfBirth {ks : List Nat} (hW : InW ks) {S : St} {l : Nat} (hl : l < 160) (hb : S 8 l = -9 ∨ ∃ b, b < 32 ∧ S 8 l = nI b) : Cn ks mX0_pastOfBirth yX0_pastOfBirth [.inr 0, .inl (nI l)] S (Ri (if S 8 l = -9 then 0 else S 5 (tn (S 8 l))) S) := by
  refine cnV okX0_pastOfBirth 0 rfl ?_
  show Ev ks mX0_pastOfBirth 0 [some (.inr 0), some (.inl (nI l))] [] S _
  rcases hb with hb | ⟨b, hb, e⟩
  · refine ev_aload_n0 dX0_pastOfBirth_0 ?_
    refine gfX0_33 rfl (hW 0 rfl) dX0_pastOfBirth_1 ?_
    refine ev_iload_n1 dX0_pastOfBirth_4 ?_
    refine ev_iald 160 rfl rfl (hW 8 rfl) (by omega) dX0_pastOfBirth_5 ?_
    rw [hb]
    first | refine ev_if_ge 13 (by decide) dX0_pastOfBirth_6 (fun h6 => by exact absurd h6 (by decide +kernel)) (fun h6 => ?_)
    refine ev_c0 dX0_pastOfBirth_9 ?_
    refine ev_goto 24 (by decide) dX0_pastOfBirth_10 ?_
    refine ev_ireturn rfl dX0_pastOfBirth_24 ?_
    exact ⟨by rw [if_pos rfl, nI_0], rfl⟩
  · refine ev_aload_n0 dX0_pastOfBirth_0 ?_
    refine gfX0_33 rfl (hW 0 rfl) dX0_pastOfBirth_1 ?_
    refine ev_iload_n1 dX0_pastOfBirth_4 ?_
    refine ev_iald 160 rfl rfl (hW 8 rfl) (by omega) dX0_pastOfBirth_5 ?_
    rw [e]
    refine ev_if_geN 13 (by omega) (by decide) dX0_pastOfBirth_6 ?_
    refine ev_aload_n0 dX0_pastOfBirth_13 ?_
    refine gfX0_24 rfl (hW 0 rfl) dX0_pastOfBirth_14 ?_
    refine ev_aload_n0 dX0_pastOfBirth_17 ?_
    refine gfX0_33 rfl (hW 0 rfl) dX0_pastOfBirth_18 ?_
    refine ev_iload_n1 dX0_pastOfBirth_21 ?_
    refine ev_iald 160 rfl rfl (hW 8 rfl) (by omega) dX0_pastOfBirth_22 ?_
    rw [e]
    refine ev_iald 32 rfl rfl (hW 5 rfl) (by omega) dX0_pastOfBirth_23 ?_
    refine ev_ireturn rfl dX0_pastOfBirth_24 ?_
    exact ⟨by rw [if_neg (nI_neg (by omega) m9_neg), tn_nI (by omega)], rfl⟩
/-- what a site knows behind a letter -/
def lrn (S : St) (n y code l : Nat) : Nat → Int32 :=
  upd (fun i => if y * 4 ≤ i ∧ i < y * 4 + n then S 11 i ||| S 10 (l * 4 + (i - y * 4)) else S 11 i) (y * 4 + y) ((fun i => if y * 4 ≤ i ∧ i < y * 4 + n then S 11 i ||| S 10 (l * 4 + (i - y * 4)) else S 11 i) (y * 4 + y) ||| ((nI 1 <<< (nI code &&& 31)) ||| S 9 l))
theorem c_X0_learn {ks : List Nat} (hW : InW ks) {S : St} {n y code l : Nat} (hn : S 0 0 = nI n) (h4 : n ≤ 4) (hy : y < 4) (hl : l < 160) : Cn ks mX0_learn yX0_learn [.inr 0, .inl (nI y), .inl (nI code), .inl (nI l)] S (Rv (sr S 11 (lrn S n y code l))) := by
  refine cnV okX0_learn 1 rfl ?_
  show Ev ks mX0_learn 0 [some (.inr 0), some (.inl (nI y)), some (.inl (nI code)), some (.inl (nI l)), none] [] S _
  have hh0 : ∀ R, sr S 11 R 0 0 = nI n := fun R => by show S 0 _ = _; exact hn
  have hh10 : ∀ R i, sr S 11 R 10 i = S 10 i := fun R i => rfl
  have hh9 : ∀ R i, sr S 11 R 9 i = S 9 i := fun R i => rfl
  have loop : ∀ f k, k + f = n → Ev ks mX0_learn 3 [some (.inr 0), some (.inl (nI y)), some (.inl (nI code)), some (.inl (nI l)), some (.inl (nI k))] [] (sr S 11 (fun i => if y * 4 ≤ i ∧ i < y * 4 + k then S 11 i ||| S 10 (l * 4 + (i - y * 4)) else S 11 i)) (Rv (sr S 11 (lrn S n y code l))) := by
    intro f
    induction f with
    | zero =>
      intro k hk
      obtain rfl : k = n := by omega
      refine ev_iload4 dX0_learn_3 ?_
      refine ev_aload_n0 dX0_learn_5 ?_
      refine gfX0_49 rfl (hW 0 rfl) dX0_learn_6 ?_
      rw [hh0]
      first | refine ev_icmp_geN 43 (by omega) (by omega) (by decide) dX0_learn_9 (fun h9 => ?_) (fun h9 => by exfalso; omega) | refine ev_icmp_ge 43 (by decide) dX0_learn_9 (fun h9 => ?_) (fun h9 => by exfalso; omega)
      refine ev_aload_n0 dX0_learn_43 ?_
      refine gfX0_42 rfl (hW 0 rfl) dX0_learn_44 ?_
      refine ev_iload_n1 dX0_learn_47 ?_
      refine ev_c4 dX0_learn_48 ?_
      first | refine ev_imulN dX0_learn_49 ?_ | refine ev_imul dX0_learn_49 ?_
      refine ev_iload_n1 dX0_learn_50 ?_
      first | refine ev_iaddN dX0_learn_51 ?_ | refine ev_iadd dX0_learn_51 ?_
      refine ev_dup2 dX0_learn_52 ?_
      refine ev_iald 16 rfl rfl (hW 11 rfl) (by omega) dX0_learn_53 ?_
      refine ev_c1 dX0_learn_54 ?_
      refine ev_iload_n2 dX0_learn_55 ?_
      refine ev_ishl dX0_learn_56 ?_
      refine ev_aload_n0 dX0_learn_57 ?_
      refine gfX0_36 rfl (hW 0 rfl) dX0_learn_58 ?_
      refine ev_iload_n3 dX0_learn_61 ?_
      refine ev_iald 160 rfl rfl (hW 9 rfl) (by omega) dX0_learn_62 ?_
      rw [hh9]
      refine ev_ior dX0_learn_63 ?_
      refine ev_ior dX0_learn_64 ?_
      refine ev_iast 16 rfl rfl (hW 11 rfl) (by omega) dX0_learn_65 ?_
      refine ev_return rfl dX0_learn_66 ?_
      rw [st_sr, sr_s]
      exact ⟨rfl, rfl⟩
    | succ f ih =>
      intro k hk
      have e : upd (fun i => if y * 4 ≤ i ∧ i < y * 4 + k then S 11 i ||| S 10 (l * 4 + (i - y * 4)) else S 11 i) (y * 4 + k) (S 11 (y * 4 + k) ||| S 10 (l * 4 + k)) = (fun i => if y * 4 ≤ i ∧ i < y * 4 + (k + 1) then S 11 i ||| S 10 (l * 4 + (i - y * 4)) else S 11 i) := by
        funext i
        unfold upd
        by_cases h : i = y * 4 + k
        · rw [if_pos h, if_pos (by omega), h, Nat.add_sub_cancel_left]
        · rw [if_neg h]
          dsimp only
          by_cases h2 : y * 4 ≤ i ∧ i < y * 4 + k
          · rw [if_pos h2, if_pos (by omega)]
          · rw [if_neg h2, if_neg (by omega)]
      have e2 : sr S 11 (fun i => if y * 4 ≤ i ∧ i < y * 4 + k then S 11 i ||| S 10 (l * 4 + (i - y * 4)) else S 11 i) 11 (y * 4 + k) = S 11 (y * 4 + k) := by
        rw [sr_s, if_neg (by omega)]
      refine ev_iload4 dX0_learn_3 ?_
      refine ev_aload_n0 dX0_learn_5 ?_
      refine gfX0_49 rfl (hW 0 rfl) dX0_learn_6 ?_
      rw [hh0]
      first | refine ev_icmp_geN 43 (by omega) (by omega) (by decide) dX0_learn_9 (fun h9 => by exfalso; omega) (fun h9 => ?_) | refine ev_icmp_ge 43 (by decide) dX0_learn_9 (fun h9 => by exfalso; omega) (fun h9 => ?_)
      refine ev_aload_n0 dX0_learn_12 ?_
      refine gfX0_42 rfl (hW 0 rfl) dX0_learn_13 ?_
      refine ev_iload_n1 dX0_learn_16 ?_
      refine ev_c4 dX0_learn_17 ?_
      first | refine ev_imulN dX0_learn_18 ?_ | refine ev_imul dX0_learn_18 ?_
      refine ev_iload4 dX0_learn_19 ?_
      first | refine ev_iaddN dX0_learn_21 ?_ | refine ev_iadd dX0_learn_21 ?_
      refine ev_dup2 dX0_learn_22 ?_
      refine ev_iald 16 rfl rfl (hW 11 rfl) (by omega) dX0_learn_23 ?_
      rw [e2]
      refine ev_aload_n0 dX0_learn_24 ?_
      refine gfX0_39 rfl (hW 0 rfl) dX0_learn_25 ?_
      refine ev_iload_n3 dX0_learn_28 ?_
      refine ev_c4 dX0_learn_29 ?_
      first | refine ev_imulN dX0_learn_30 ?_ | refine ev_imul dX0_learn_30 ?_
      refine ev_iload4 dX0_learn_31 ?_
      first | refine ev_iaddN dX0_learn_33 ?_ | refine ev_iadd dX0_learn_33 ?_
      refine ev_iald 640 rfl rfl (hW 10 rfl) (by omega) dX0_learn_34 ?_
      rw [hh10]
      refine ev_ior dX0_learn_35 ?_
      refine ev_iast 16 rfl rfl (hW 11 rfl) (by omega) dX0_learn_36 ?_
      refine ev_iinc4 dX0_learn_37 ?_
      refine ev_goto 3 (by decide) dX0_learn_40 ?_
      rw [st_sr, e]
      exact ih (k + 1) (by omega)
  refine ev_c0 dX0_learn_0 ?_
  refine ev_istore4 dX0_learn_1 ?_
  have h := loop n 0 (by omega)
  have e : sr S 11 (fun i => if y * 4 ≤ i ∧ i < y * 4 + 0 then S 11 i ||| S 10 (l * 4 + (i - y * 4)) else S 11 i) = S := by
    have : (fun i => if y * 4 ≤ i ∧ i < y * 4 + 0 then S 11 i ||| S 10 (l * 4 + (i - y * 4)) else S 11 i) = S 11 := by
      funext i; rw [if_neg (by omega)]
    rw [this, sr_self]
  rw [e] at h
  exact h
/-- the codes that a letter of p carries on -/
def unsf (S : St) (n e p : Nat) : Int32 := mk (fun c => bt (S 11 (p * 4 + p)) c && decide (pcn (mk (fun s => bt (S 11 (p * 4 + s)) c) n) < e)) 32
/-- the letter that a site may write -/
def ansW (S : St) (n e y code v : Nat) : St := if v % 3 = 0 ∨ v % n = y ∨ 8 ≤ tn (S 6 (y * 4 + v % n)) then S else wrW S n y (v % n) (tn (S 6 (y * 4 + v % n))) (nI (v % 100)) (nI code) (unsf S n e y)
theorem c_X0_answer {ks : List Nat} (hW : InW ks) {S : St} {n e y code v L : Nat} (hn : S 0 0 = nI n) (h2 : 2 ≤ n) (h4 : n ≤ 4) (he : S 0 1 = nI e) (he4 : e ≤ 4) (hy : y < n) (hc : code < 32) (hv : S 4 code = nI v) (hv9 : v < 997) (hL : S 6 (y * 4 + v % n) = nI L) (hL8 : L ≤ 8) : Cn ks mX0_answer yX0_answer [.inr 0, .inl (nI y), .inl (nI code)] S (Rv (ansW S n e y code v)) := by
  refine cnV okX0_answer 2 rfl ?_
  show Ev ks mX0_answer 0 [some (.inr 0), some (.inl (nI y)), some (.inl (nI code)), none, none] [] S _
  have hmod : v % n < n := Nat.mod_lt _ (by omega)
  have ht : tn (S 6 (y * 4 + v % n)) = L := by rw [hL]; exact tn_nI (by omega)
  unfold ansW
  rw [ht]
  refine ev_aload_n0 dX0_answer_0 ?_
  refine gfX0_21 rfl (hW 0 rfl) dX0_answer_1 ?_
  refine ev_iload_n2 dX0_answer_4 ?_
  refine ev_iald 32 rfl rfl (hW 4 rfl) (by omega) dX0_answer_5 ?_
  rw [hv]
  refine ev_istore_n3 dX0_answer_6 ?_
  refine ev_aload_n0 dX0_answer_7 ?_
  refine gfX0_49 rfl (hW 0 rfl) dX0_answer_8 ?_
  rw [hn]
  first | refine ev_if_le 23 (by decide) dX0_answer_11 (fun h11 => by exact absurd h11 (nI_nle (by omega) (by omega))) (fun h11 => ?_)
  refine ev_iload_n3 dX0_answer_14 ?_
  refine ev_aload_n0 dX0_answer_15 ?_
  refine gfX0_49 rfl (hW 0 rfl) dX0_answer_16 ?_
  rw [hn]
  refine ev_iremN (by omega) (by omega) (by omega) dX0_answer_19 ?_
  refine ev_goto 24 (by decide) dX0_answer_20 ?_
  refine ev_istore4 dX0_answer_24 ?_
  refine ev_iload_n3 dX0_answer_26 ?_
  refine ev_c3 dX0_answer_27 ?_
  refine ev_iremN (by omega) (by omega) (by omega) dX0_answer_28 ?_
  first | refine ev_if_eqN 67 (by omega) (by decide) dX0_answer_29 (fun h29 => ?_) (fun h29 => ?_) | refine ev_if_eq 67 (by decide) dX0_answer_29 (fun h29 => ?_) (fun h29 => ?_)
  · refine ev_return rfl dX0_answer_67 ?_
    refine ⟨rfl, ?_⟩
    first | rw [if_pos (by omega)] | (rw [if_neg (by omega)]; rfl)
  · refine ev_iload4 dX0_answer_32 ?_
    refine ev_iload_n1 dX0_answer_34 ?_
    first | refine ev_icmp_eqN 67 (by omega) (by omega) (by decide) dX0_answer_35 (fun h35 => ?_) (fun h35 => ?_) | refine ev_icmp_eq 67 (by decide) dX0_answer_35 (fun h35 => ?_) (fun h35 => ?_)
    · refine ev_return rfl dX0_answer_67 ?_
      refine ⟨rfl, ?_⟩
      first | rw [if_pos (by omega)] | (rw [if_neg (by omega)]; rfl)
    · refine ev_aload_n0 dX0_answer_38 ?_
      refine ev_iload_n1 dX0_answer_39 ?_
      refine ev_iload4 dX0_answer_40 ?_
      refine ev_cV2f okX0_lettersOn lkX0_91 (Nat.le_of_ble_eq_true rfl) (Nat.le_of_ble_eq_true rfl) (hW 0 rfl) isO_0 (c_X0_lettersOn hW (by omega) (by omega)) dX0_answer_42 ?_
      rw [hL]
      refine ev_bipush (nI 8) kb_8 dX0_answer_45 ?_
      first | refine ev_icmp_geN 67 (by omega) (by omega) (by decide) dX0_answer_47 (fun h47 => ?_) (fun h47 => ?_) | refine ev_icmp_ge 67 (by decide) dX0_answer_47 (fun h47 => ?_) (fun h47 => ?_)
      · refine ev_return rfl dX0_answer_67 ?_
        refine ⟨rfl, ?_⟩
        first | rw [if_pos (by omega)] | (rw [if_neg (by omega)]; rfl)
      · refine ev_aload_n0 dX0_answer_50 ?_
        refine ev_iload_n1 dX0_answer_51 ?_
        refine ev_iload4 dX0_answer_52 ?_
        refine ev_iload_n3 dX0_answer_54 ?_
        refine ev_bipush (nI 100) kb_100 dX0_answer_55 ?_
        refine ev_iremN (by omega) (by omega) (by omega) dX0_answer_57 ?_
        refine ev_iload_n2 dX0_answer_58 ?_
        refine ev_aload_n0 dX0_answer_59 ?_
        refine ev_iload_n1 dX0_answer_60 ?_
        refine ev_cV1f okX0_unsafeFor lkX0_135 (Nat.le_of_ble_eq_true rfl) (Nat.le_of_ble_eq_true rfl) (hW 0 rfl) isO_0 (c_X0_unsafeFor hW hn (by omega) he (by omega) (by omega)) dX0_answer_61 ?_
        refine ev_cV5v okX0_write lkX0_138 (Nat.le_of_ble_eq_true rfl) (Nat.le_of_ble_eq_true rfl) (hW 0 rfl) isO_0 (c_X0_write hW hn h4 (by omega) (by omega) hL (by omega) (by omega)) dX0_answer_64 ?_
        refine ev_return rfl dX0_answer_67 ?_
        refine ⟨rfl, ?_⟩
        first | rw [if_pos (by omega)] | (rw [if_neg (by omega)]; rfl)
theorem c_X0_crash {ks : List Nat} (hW : InW ks) {S : St} {q : Nat} (hq : q < 4) : Cn ks mX0_crash yX0_crash [.inr 0, .inl (nI q)] S (Rv (sr (st S 0 2 (S 0 2 ||| nI 1 <<< (nI q &&& 31))) 11 (fun i => if q * 4 ≤ i ∧ i < q * 4 + 4 then 0 else S 11 i))) := by
  refine cnV okX0_crash 1 rfl ?_
  show Ev ks mX0_crash 0 [some (.inr 0), some (.inl (nI q)), none] [] S _
  generalize hZ : st S 0 2 (S 0 2 ||| nI 1 <<< (nI q &&& 31)) = Z
  have z11 : Z 11 = S 11 := by rw [← hZ]; rfl
  have loop : ∀ f k, k + f = 4 → Ev ks mX0_crash 14 [some (.inr 0), some (.inl (nI q)), some (.inl (nI k))] [] (sr Z 11 (fun i => if q * 4 ≤ i ∧ i < q * 4 + k then 0 else S 11 i)) (Rv (sr Z 11 (fun i => if q * 4 ≤ i ∧ i < q * 4 + 4 then 0 else S 11 i))) := by
    intro f
    induction f with
    | zero =>
      intro k hk
      obtain rfl : k = 4 := by omega
      refine ev_iload_n2 dX0_crash_14 ?_
      refine ev_c4 dX0_crash_15 ?_
      first | refine ev_icmp_geN 36 (by omega) (by omega) (by decide) dX0_crash_16 (fun h16 => ?_) (fun h16 => by exfalso; omega) | refine ev_icmp_ge 36 (by decide) dX0_crash_16 (fun h16 => ?_) (fun h16 => by exfalso; omega)
      refine ev_return rfl dX0_crash_36 ?_
      exact ⟨rfl, rfl⟩
    | succ f ih =>
      intro k hk
      have e : upd (fun i => if q * 4 ≤ i ∧ i < q * 4 + k then 0 else S 11 i) (q * 4 + k) (nI 0) = (fun i => if q * 4 ≤ i ∧ i < q * 4 + (k + 1) then 0 else S 11 i) := by
        funext i
        unfold upd
        by_cases h : i = q * 4 + k
        · rw [if_pos h, if_pos (by omega), nI_0]
        · rw [if_neg h]
          dsimp only
          by_cases h2 : q * 4 ≤ i ∧ i < q * 4 + k
          · rw [if_pos h2, if_pos (by omega)]
          · rw [if_neg h2, if_neg (by omega)]
      refine ev_iload_n2 dX0_crash_14 ?_
      refine ev_c4 dX0_crash_15 ?_
      first | refine ev_icmp_geN 36 (by omega) (by omega) (by decide) dX0_crash_16 (fun h16 => by exfalso; omega) (fun h16 => ?_) | refine ev_icmp_ge 36 (by decide) dX0_crash_16 (fun h16 => by exfalso; omega) (fun h16 => ?_)
      refine ev_aload_n0 dX0_crash_19 ?_
      refine gfX0_42 rfl (hW 0 rfl) dX0_crash_20 ?_
      refine ev_iload_n1 dX0_crash_23 ?_
      refine ev_c4 dX0_crash_24 ?_
      first | refine ev_imulN dX0_crash_25 ?_ | refine ev_imul dX0_crash_25 ?_
      refine ev_iload_n2 dX0_crash_26 ?_
      first | refine ev_iaddN dX0_crash_27 ?_ | refine ev_iadd dX0_crash_27 ?_
      refine ev_c0 dX0_crash_28 ?_
      refine ev_iast 16 rfl rfl (hW 11 rfl) (by omega) dX0_crash_29 ?_
      refine ev_iinc2 dX0_crash_30 ?_
      refine ev_goto 14 (by decide) dX0_crash_33 ?_
      rw [st_sr, e]
      exact ih (k + 1) (by omega)
  refine ev_aload_n0 dX0_crash_0 ?_
  refine ev_dup dX0_crash_1 ?_
  refine gfX0_56 rfl (hW 0 rfl) dX0_crash_2 ?_
  refine ev_c1 dX0_crash_5 ?_
  refine ev_iload_n1 dX0_crash_6 ?_
  refine ev_ishl dX0_crash_7 ?_
  refine ev_ior dX0_crash_8 ?_
  refine pfX0_56 rfl (hW 0 rfl) dX0_crash_9 ?_
  rw [hZ]
  refine ev_c0 dX0_crash_12 ?_
  refine ev_istore_n2 dX0_crash_13 ?_
  have h := loop 4 0 (by omega)
  have e : sr Z 11 (fun i => if q * 4 ≤ i ∧ i < q * 4 + 0 then 0 else S 11 i) = Z := by
    have : (fun i => if q * 4 ≤ i ∧ i < q * 4 + 0 then 0 else S 11 i) = Z 11 := by
      rw [z11]; funext i; rw [if_neg (by omega)]
    rw [this, sr_self]
  rw [e] at h
  exact h
