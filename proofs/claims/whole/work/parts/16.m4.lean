/-- what can be undone, one more of them -/
def nrow (S : St) (u : Nat) : Nat → Int32 := if u = 5 then seg (S 104) (fun i => if i < 5052 then S 105 (i + 1263) else S 105 i) 5052 1263 else seg (S 104) (S 105) (1263 * u) 1263
def nu (u : Nat) : Nat := if u = 5 then 5 else u + 1
def noteS (S : St) (u : Nat) : St := st (sr S 105 (nrow S u)) 103 2 (nI (nu u))
theorem c_X2_note {ks : List Nat} (hM : InM ks) {S : St} {u : Nat} (hu : S 103 2 = nI u) (hu5 : u ≤ 5) : Cn ks mX2_note yX2_note [.inr 103] S (Rv (noteS S u)) := by
  refine cnV okX2_note 1 rfl ?_
  show Ev ks mX2_note 0 [some (.inr 103), none] [] S _
  have loop2 : ∀ (Z : St) (w : Nat), Z 103 2 = nI w → w < 5 → (∀ v, v = st (sr Z 105 (seg (Z 104) (Z 105) (1263 * w) 1263)) 103 2 (nI (w + 1)) → v = noteS S u) → ∀ f k, k + f = 1263 → Ev ks mX2_note 51 [some (.inr 103), some (.inl (nI k))] [] (sr Z 105 (seg (Z 104) (Z 105) (1263 * w) k)) (Rv (noteS S u)) := by
    intro Z w hw hw5 hfin f
    have hw' : ∀ R, sr Z 105 R 103 2 = nI w := fun R => hw
    have h104 : ∀ R i, sr Z 105 R 104 i = Z 104 i := fun R i => rfl
    induction f with
    | zero =>
      intro k hk
      obtain rfl : k = 1263 := by omega
      refine ev_iload_n1 dX2_note_51 ?_
      refine ev_sipush (nI 1263) kh_1263 dX2_note_52 ?_
      first | refine ev_icmp_geN 85 (by omega) (by omega) (by decide) dX2_note_55 (fun h55 => ?_) (fun h55 => by exfalso; omega) | refine ev_icmp_ge 85 (by decide) dX2_note_55 (fun h55 => ?_) (fun h55 => by exfalso; omega)
      refine ev_aload_n0 dX2_note_85 ?_
      refine ev_dup dX2_note_86 ?_
      refine gfX2_68 rfl (hM 103 rfl) dX2_note_87 ?_
      rw [hw']
      refine ev_c1 dX2_note_90 ?_
      first | refine ev_iaddN dX2_note_91 ?_ | refine ev_iadd dX2_note_91 ?_
      refine pfX2_68 rfl (hM 103 rfl) dX2_note_92 ?_
      refine ev_return rfl dX2_note_95 ?_
      exact ⟨rfl, hfin _ rfl⟩
    | succ f ih =>
      intro k hk
      refine ev_iload_n1 dX2_note_51 ?_
      refine ev_sipush (nI 1263) kh_1263 dX2_note_52 ?_
      first | refine ev_icmp_geN 85 (by omega) (by omega) (by decide) dX2_note_55 (fun h55 => by exfalso; omega) (fun h55 => ?_) | refine ev_icmp_ge 85 (by decide) dX2_note_55 (fun h55 => by exfalso; omega) (fun h55 => ?_)
      refine ev_aload_n0 dX2_note_58 ?_
      refine gfX2_13 rfl (hM 103 rfl) dX2_note_59 ?_
      refine ev_sipush (nI 1263) kh_1263 dX2_note_62 ?_
      refine ev_aload_n0 dX2_note_65 ?_
      refine gfX2_68 rfl (hM 103 rfl) dX2_note_66 ?_
      rw [hw']
      first | refine ev_imulN dX2_note_69 ?_ | refine ev_imul dX2_note_69 ?_
      refine ev_iload_n1 dX2_note_70 ?_
      first | refine ev_iaddN dX2_note_71 ?_ | refine ev_iadd dX2_note_71 ?_
      refine ev_aload_n0 dX2_note_72 ?_
      refine gfX2_7 rfl (hM 103 rfl) dX2_note_73 ?_
      refine ev_iload_n1 dX2_note_76 ?_
      refine ev_iald 1263 rfl rfl (hM 104 rfl) (by omega) dX2_note_77 ?_
      rw [h104]
      refine ev_iast 6315 rfl rfl (hM 105 rfl) (by omega) dX2_note_78 ?_
      refine ev_iinc1 dX2_note_79 ?_
      refine ev_goto 51 (by decide) dX2_note_82 ?_
      rw [st_sr, seg_s _ _ _ _ rfl]
      exact ih (k + 1) (by omega)
  by_cases h5 : u = 5
  · subst h5
    have loop : ∀ f k, k + f = 5052 → Ev ks mX2_note 10 [some (.inr 103), some (.inl (nI k))] [] (sr S 105 (fun i => if i < k then S 105 (i + 1263) else S 105 i)) (Rv (noteS S 5)) := by
      intro f
      induction f with
      | zero =>
        intro k hk
        obtain rfl : k = 5052 := by omega
        have hu' : ∀ R, sr S 105 R 103 2 = nI 5 := fun R => hu
        refine ev_iload_n1 dX2_note_10 ?_
        refine ev_sipush (nI 5052) kh_5052 dX2_note_11 ?_
        first | refine ev_icmp_geN 39 (by omega) (by omega) (by decide) dX2_note_14 (fun h14 => ?_) (fun h14 => by exfalso; omega) | refine ev_icmp_ge 39 (by decide) dX2_note_14 (fun h14 => ?_) (fun h14 => by exfalso; omega)
        refine ev_aload_n0 dX2_note_39 ?_
        refine ev_dup dX2_note_40 ?_
        refine gfX2_68 rfl (hM 103 rfl) dX2_note_41 ?_
        rw [hu']
        refine ev_c1 dX2_note_44 ?_
        first | refine ev_isubN (by omega) dX2_note_45 ?_ | refine ev_isub dX2_note_45 ?_
        refine pfX2_68 rfl (hM 103 rfl) dX2_note_46 ?_
        refine ev_c0 dX2_note_49 ?_
        refine ev_istore_n1 dX2_note_50 ?_
        have h := loop2 (st (sr S 105 (fun i => if i < 5052 then S 105 (i + 1263) else S 105 i)) 103 2 (nI (5 - 1))) 4 rfl (by omega) (fun v hv => ?_) 1263 0 rfl
        · rw [seg_z, sr_self] at h
          exact h
        · rw [hv]
          unfold noteS
          rw [sr_st (by decide), st_st, sr_sr]
          rfl
      | succ f ih =>
        intro k hk
        have e1 : sr S 105 (fun i => if i < k then S 105 (i + 1263) else S 105 i) 105 (k + 1263) = S 105 (k + 1263) := by rw [sr_s, if_neg (by omega)]
        have e : upd (fun i => if i < k then S 105 (i + 1263) else S 105 i) k (S 105 (k + 1263)) = (fun i => if i < k + 1 then S 105 (i + 1263) else S 105 i) := by
          funext i
          unfold upd
          by_cases h : i = k
          · rw [if_pos h, if_pos (by omega), h]
          · rw [if_neg h]
            dsimp only
            by_cases h2 : i < k
            · rw [if_pos h2, if_pos (by omega)]
            · rw [if_neg h2, if_neg (by omega)]
        refine ev_iload_n1 dX2_note_10 ?_
        refine ev_sipush (nI 5052) kh_5052 dX2_note_11 ?_
        first | refine ev_icmp_geN 39 (by omega) (by omega) (by decide) dX2_note_14 (fun h14 => by exfalso; omega) (fun h14 => ?_) | refine ev_icmp_ge 39 (by decide) dX2_note_14 (fun h14 => by exfalso; omega) (fun h14 => ?_)
        refine ev_aload_n0 dX2_note_17 ?_
        refine gfX2_13 rfl (hM 103 rfl) dX2_note_18 ?_
        refine ev_iload_n1 dX2_note_21 ?_
        refine ev_aload_n0 dX2_note_22 ?_
        refine gfX2_13 rfl (hM 103 rfl) dX2_note_23 ?_
        refine ev_iload_n1 dX2_note_26 ?_
        refine ev_sipush (nI 1263) kh_1263 dX2_note_27 ?_
        first | refine ev_iaddN dX2_note_30 ?_ | refine ev_iadd dX2_note_30 ?_
        refine ev_iald 6315 rfl rfl (hM 105 rfl) (by omega) dX2_note_31 ?_
        rw [e1]
        refine ev_iast 6315 rfl rfl (hM 105 rfl) (by omega) dX2_note_32 ?_
        refine ev_iinc1 dX2_note_33 ?_
        refine ev_goto 10 (by decide) dX2_note_36 ?_
        rw [st_sr, e]
        exact ih (k + 1) (by omega)
    refine ev_aload_n0 dX2_note_0 ?_
    refine gfX2_68 rfl (hM 103 rfl) dX2_note_1 ?_
    rw [hu]
    refine ev_c5 dX2_note_4 ?_
    first | refine ev_icmp_neN 49 (by omega) (by omega) (by decide) dX2_note_5 (fun h5 => by exfalso; omega) (fun h5 => ?_) | refine ev_icmp_ne 49 (by decide) dX2_note_5 (fun h5 => by exfalso; omega) (fun h5 => ?_)
    refine ev_c0 dX2_note_8 ?_
    refine ev_istore_n1 dX2_note_9 ?_
    have h := loop 5052 0 rfl
    have e : sr S 105 (fun i => if i < 0 then S 105 (i + 1263) else S 105 i) = S := by
      have : (fun i => if i < 0 then S 105 (i + 1263) else S 105 i) = S 105 := by funext i; rw [if_neg (by omega)]
      rw [this, sr_self]
    rw [e] at h
    exact h
  · refine ev_aload_n0 dX2_note_0 ?_
    refine gfX2_68 rfl (hM 103 rfl) dX2_note_1 ?_
    rw [hu]
    refine ev_c5 dX2_note_4 ?_
    first | refine ev_icmp_neN 49 (by omega) (by omega) (by decide) dX2_note_5 (fun h5 => ?_) (fun h5 => by exfalso; omega) | refine ev_icmp_ne 49 (by decide) dX2_note_5 (fun h5 => ?_) (fun h5 => by exfalso; omega)
    refine ev_c0 dX2_note_49 ?_
    refine ev_istore_n1 dX2_note_50 ?_
    have h := loop2 S u hu (by omega) (fun v hv => ?_) 1263 0 rfl
    · rw [seg_z, sr_self] at h
      exact h
    · rw [hv]
      unfold noteS nrow nu
      rw [if_neg h5, if_neg h5]
/-- a letter is written in the reference's row -/
def wrM (m : Nat → Int32) (x y L : Nat) (c b cs : Int32) : Nat → Int32 :=
  upd (seg (fun k => if b = -9 then 0 else m (107 + 4 * x + k)) (upd (upd (upd m (143 + 7 * (8 * (4 * x + y) + L)) c) (143 + 7 * (8 * (4 * x + y) + L) + 1) b) (143 + 7 * (8 * (4 * x + y) + L) + 2) cs) (143 + 7 * (8 * (4 * x + y) + L) + 3) 4) (123 + (4 * x + y)) (nI (L + 1))
theorem c_X2_write {ks : List Nat} (hM : InM ks) {S : St} {x y L : Nat} {c b cs : Int32} (hx : x < 5) (hy : y < 4) (hxb : b = -9 ∨ x < 4) (hL : S 104 (123 + (4 * x + y)) = nI L) (hL8 : L < 8) : Cn ks mX2_write yX2_write [.inr 103, .inl (nI x), .inl (nI y), .inl c, .inl b, .inl cs] S (Rv (sr S 104 (wrM (S 104) x y L c b cs))) := by
  refine cnV okX2_write 2 rfl ?_
  show Ev ks mX2_write 0 [some (.inr 103), some (.inl (nI x)), some (.inl (nI y)), some (.inl c), some (.inl b), some (.inl cs), none, none] [] S _
  unfold wrM
  generalize ha : 143 + 7 * (8 * (4 * x + y) + L) = a
  have ha2 : 143 ≤ a ∧ a + 6 < 1263 := by omega
  generalize hB : upd (upd (upd (S 104) a c) (a + 1) b) (a + 2) cs = B
  have hBo : ∀ i, i < 143 → B i = S 104 i := fun i hi => by
    rw [← hB, upd_n (by omega), upd_n (by omega), upd_n (by omega)]
  have loop : ∀ f k, k + f = 4 → Ev ks mX2_write 46 [some (.inr 103), some (.inl (nI x)), some (.inl (nI y)), some (.inl c), some (.inl b), some (.inl cs), some (.inl (nI a)), some (.inl (nI k))] [] (sr S 104 (seg (fun k => if b = -9 then 0 else S 104 (107 + 4 * x + k)) B (a + 3) k)) (Rv (sr S 104 (upd (seg (fun k => if b = -9 then 0 else S 104 (107 + 4 * x + k)) B (a + 3) 4) (123 + (4 * x + y)) (nI (L + 1))))) := by
    intro f
    induction f with
    | zero =>
      intro k hk
      obtain rfl : k = 4 := by omega
      have h6 : sr S 104 (seg (fun k => if b = -9 then 0 else S 104 (107 + 4 * x + k)) B (a + 3) 4) 104 (123 + (4 * x + y)) = nI L := by rw [sr_s, seg_o (by omega), hBo _ (by omega)]; exact hL
      refine ev_iload7 dX2_write_46 ?_
      refine ev_c4 dX2_write_48 ?_
      first | refine ev_icmp_geN 95 (by omega) (by omega) (by decide) dX2_write_49 (fun h49 => ?_) (fun h49 => by exfalso; omega) | refine ev_icmp_ge 95 (by decide) dX2_write_49 (fun h49 => ?_) (fun h49 => by exfalso; omega)
      refine ev_aload_n0 dX2_write_95 ?_
      refine gfX2_7 rfl (hM 103 rfl) dX2_write_96 ?_
      refine ev_bipush (nI 123) kb_123 dX2_write_99 ?_
      refine ev_iload_n1 dX2_write_101 ?_
      refine ev_iload_n2 dX2_write_102 ?_
      refine ev_cS2f okX2_way lkX2_55 (Nat.le_of_ble_eq_true rfl) (Nat.le_of_ble_eq_true rfl) c_X2_way dX2_write_103 ?_
      first | refine ev_iaddN dX2_write_106 ?_ | refine ev_iadd dX2_write_106 ?_
      refine ev_dup2 dX2_write_107 ?_
      refine ev_iald 1263 rfl rfl (hM 104 rfl) (by omega) dX2_write_108 ?_
      rw [h6]
      refine ev_c1 dX2_write_109 ?_
      first | refine ev_iaddN dX2_write_110 ?_ | refine ev_iadd dX2_write_110 ?_
      refine ev_iast 1263 rfl rfl (hM 104 rfl) (by omega) dX2_write_111 ?_
      refine ev_return rfl dX2_write_112 ?_
      rw [st_sr]
      exact ⟨rfl, rfl⟩
    | succ f ih =>
      intro k hk
      have h6 : x < 4 → sr S 104 (seg (fun k => if b = -9 then 0 else S 104 (107 + 4 * x + k)) B (a + 3) k) 104 (107 + 4 * x + k) = S 104 (107 + 4 * x + k) := fun h => by rw [sr_s, seg_o (by omega), hBo _ (by omega)]
      refine ev_iload7 dX2_write_46 ?_
      refine ev_c4 dX2_write_48 ?_
      first | refine ev_icmp_geN 95 (by omega) (by omega) (by decide) dX2_write_49 (fun h49 => by exfalso; omega) (fun h49 => ?_) | refine ev_icmp_ge 95 (by decide) dX2_write_49 (fun h49 => by exfalso; omega) (fun h49 => ?_)
      refine ev_aload_n0 dX2_write_52 ?_
      refine gfX2_7 rfl (hM 103 rfl) dX2_write_53 ?_
      refine ev_iload6 dX2_write_56 ?_
      refine ev_c3 dX2_write_58 ?_
      first | refine ev_iaddN dX2_write_59 ?_ | refine ev_iadd dX2_write_59 ?_
      refine ev_iload7 dX2_write_60 ?_
      first | refine ev_iaddN dX2_write_62 ?_ | refine ev_iadd dX2_write_62 ?_
      refine ev_iload4 dX2_write_63 ?_
      refine ev_bipush (-9 : Int32) kb_m9 dX2_write_65 ?_
      first | refine ev_icmp_ne 74 (by decide) dX2_write_67 (fun h67 => ?_) (fun h67 => ?_)
      · refine ev_aload_n0 dX2_write_74 ?_
        refine gfX2_7 rfl (hM 103 rfl) dX2_write_75 ?_
        refine ev_bipush (nI 107) kb_107 dX2_write_78 ?_
        refine ev_c4 dX2_write_80 ?_
        refine ev_iload_n1 dX2_write_81 ?_
        first | refine ev_imulN dX2_write_82 ?_ | refine ev_imul dX2_write_82 ?_
        first | refine ev_iaddN dX2_write_83 ?_ | refine ev_iadd dX2_write_83 ?_
        refine ev_iload7 dX2_write_84 ?_
        first | refine ev_iaddN dX2_write_86 ?_ | refine ev_iadd dX2_write_86 ?_
        refine ev_iald 1263 rfl rfl (hM 104 rfl) (by rcases hxb with h | h; exact absurd h h67; omega) dX2_write_87 ?_
        first | rw [h6 (hxb.resolve_left h67)] | skip
        refine ev_iast 1263 rfl rfl (hM 104 rfl) (by omega) dX2_write_88 ?_
        refine ev_iinc7 dX2_write_89 ?_
        refine ev_goto 46 (by decide) dX2_write_92 ?_
        rw [st_sr, seg_s _ _ _ _ (by first | (rw [if_neg h67]; done) | (rw [if_pos h67, nI_0]; done))]
        exact ih (k + 1) (by omega)
      · refine ev_c0 dX2_write_70 ?_
        refine ev_goto 88 (by decide) dX2_write_71 ?_
        first | rw [h6 (hxb.resolve_left h67)] | skip
        refine ev_iast 1263 rfl rfl (hM 104 rfl) (by omega) dX2_write_88 ?_
        refine ev_iinc7 dX2_write_89 ?_
        refine ev_goto 46 (by decide) dX2_write_92 ?_
        rw [st_sr, seg_s _ _ _ _ (by first | (rw [if_neg h67]; done) | (rw [if_pos h67, nI_0]; done))]
        exact ih (k + 1) (by omega)
  refine ev_iload_n1 dX2_write_0 ?_
  refine ev_iload_n2 dX2_write_1 ?_
  refine ev_aload_n0 dX2_write_2 ?_
  refine ev_iload_n1 dX2_write_3 ?_
  refine ev_iload_n2 dX2_write_4 ?_
  refine ev_cV2f okX2_letters lkX2_62 (Nat.le_of_ble_eq_true rfl) (Nat.le_of_ble_eq_true rfl) (hM 103 rfl) isO_103 (c_X2_letters hM (by omega) (by omega)) dX2_write_5 ?_
  rw [hL]
  refine ev_cS3f okX2_letterAt lkX2_65 (Nat.le_of_ble_eq_true rfl) (Nat.le_of_ble_eq_true rfl) c_X2_letterAt dX2_write_8 ?_
  rw [ha]
  refine ev_istore6 dX2_write_11 ?_
  refine ev_aload_n0 dX2_write_13 ?_
  refine gfX2_7 rfl (hM 103 rfl) dX2_write_14 ?_
  refine ev_iload6 dX2_write_17 ?_
  refine ev_iload_n3 dX2_write_19 ?_
  refine ev_iast 1263 rfl rfl (hM 104 rfl) (by omega) dX2_write_20 ?_
  rw [st_n]
  refine ev_aload_n0 dX2_write_21 ?_
  refine gfX2_7 rfl (hM 103 rfl) dX2_write_22 ?_
  refine ev_iload6 dX2_write_25 ?_
  refine ev_c1 dX2_write_27 ?_
  first | refine ev_iaddN dX2_write_28 ?_ | refine ev_iadd dX2_write_28 ?_
  refine ev_iload4 dX2_write_29 ?_
  refine ev_iast 1263 rfl rfl (hM 104 rfl) (by omega) dX2_write_31 ?_
  rw [st_sr]
  refine ev_aload_n0 dX2_write_32 ?_
  refine gfX2_7 rfl (hM 103 rfl) dX2_write_33 ?_
  refine ev_iload6 dX2_write_36 ?_
  refine ev_c2 dX2_write_38 ?_
  first | refine ev_iaddN dX2_write_39 ?_ | refine ev_iadd dX2_write_39 ?_
  refine ev_iload5 dX2_write_40 ?_
  refine ev_iast 1263 rfl rfl (hM 104 rfl) (by omega) dX2_write_42 ?_
  rw [st_sr, hB]
  refine ev_c0 dX2_write_43 ?_
  refine ev_istore7 dX2_write_44 ?_
  have h := loop 4 0 rfl
  rw [seg_z] at h
  exact h
def unsM (m : Nat → Int32) (e y : Nat) : Int32 := mk (fun c => bt (m (103 + y)) c && decide (pcn (kni (m (107 + 4 * y + c / 8)) c) < e)) 32
def ansM (m : Nat → Int32) (n e y code v : Nat) : Nat → Int32 := if v % 3 = 0 ∨ v % n = y ∨ tn (m (123 + (4 * y + v % n))) = 8 then m else wrM m y (v % n) (tn (m (123 + (4 * y + v % n)))) (nI (v % 100)) (nI code) (unsM m e y)
theorem c_X2_answer {ks : List Nat} (hM : InM ks) {S : St} {n e y code v L : Nat} (hn : S 104 0 = nI n) (h2 : 2 ≤ n) (h4 : n ≤ 4) (he : S 104 1 = nI e) (he4 : e ≤ 4) (hy : y < n) (hc : code < 32) (hv9 : v < 997) (hL : S 104 (123 + (4 * y + v % n)) = nI L) (hL8 : L ≤ 8) : Cn ks mX2_answer yX2_answer [.inr 103, .inl (nI y), .inl (nI v), .inl (nI code)] S (Rv (sr S 104 (ansM (S 104) n e y code v))) := by
  refine cnV okX2_answer 3 rfl ?_
  show Ev ks mX2_answer 0 [some (.inr 103), some (.inl (nI y)), some (.inl (nI v)), some (.inl (nI code)), none, none, none] [] S _
  have hmod : v % n < n := Nat.mod_lt _ (by omega)
  have ht : tn (S 104 (123 + (4 * y + v % n))) = L := by rw [hL]; exact tn_nI (by omega)
  unfold ansM
  rw [ht]
  unfold unsM
  generalize hF : (fun c => bt (S 104 (103 + y)) c && decide (pcn (kni (S 104 (107 + 4 * y + c / 8)) c) < e)) = F
  have hFv : ∀ c, F c = (bt (S 104 (103 + y)) c && decide (pcn (kni (S 104 (107 + 4 * y + c / 8)) c) < e)) := fun c => by rw [← hF]
  have loop : ¬ (v % 3 = 0 ∨ v % n = y ∨ L = 8) → ∀ f c, c + f = 32 → Ev ks mX2_answer 39 [some (.inr 103), some (.inl (nI y)), some (.inl (nI v)), some (.inl (nI code)), some (.inl (nI (v % n))), some (.inl (mk F c)), some (.inl (nI c))] [] S (Rv (sr S 104 (if v % 3 = 0 ∨ v % n = y ∨ L = 8 then S 104 else wrM (S 104) y (v % n) L (nI (v % 100)) (nI code) (mk F 32)))) := by
    intro hno f
    rw [if_neg hno]
    induction f with
    | zero =>
      intro c hc
      obtain rfl : c = 32 := by omega
      refine ev_iload6 dX2_answer_39 ?_
      refine ev_bipush (nI 32) kb_32 dX2_answer_41 ?_
      first | refine ev_icmp_geN 101 (by omega) (by omega) (by decide) dX2_answer_43 (fun h43 => ?_) (fun h43 => by exfalso; omega) | refine ev_icmp_ge 101 (by decide) dX2_answer_43 (fun h43 => ?_) (fun h43 => by exfalso; omega)
      refine ev_aload_n0 dX2_answer_101 ?_
      refine ev_iload_n1 dX2_answer_102 ?_
      refine ev_iload4 dX2_answer_103 ?_
      refine ev_iload_n2 dX2_answer_105 ?_
      refine ev_bipush (nI 100) kb_100 dX2_answer_106 ?_
      refine ev_iremN (by omega) (by omega) (by omega) dX2_answer_108 ?_
      refine ev_iload_n3 dX2_answer_109 ?_
      refine ev_iload5 dX2_answer_110 ?_
      refine ev_cV5v okX2_write lkX2_86 (Nat.le_of_ble_eq_true rfl) (Nat.le_of_ble_eq_true rfl) (hM 103 rfl) isO_103 (c_X2_write hM (by omega) (by omega) (Or.inr (by omega)) hL (by omega)) dX2_answer_112 ?_
      refine ev_return rfl dX2_answer_115 ?_
      exact ⟨rfl, rfl⟩
    | succ f ih =>
      intro c hc
      have hs : mk F (c + 1) = mk F c ||| (bif F c then (1 : Int32) <<< (nI c &&& 31) else 0) := rfl
      have hle := pcn_le (kni (S 104 (107 + 4 * y + c / 8)) c)
      rw [hFv] at hs
      refine ev_iload6 dX2_answer_39 ?_
      refine ev_bipush (nI 32) kb_32 dX2_answer_41 ?_
      first | refine ev_icmp_geN 101 (by omega) (by omega) (by decide) dX2_answer_43 (fun h43 => by exfalso; omega) (fun h43 => ?_) | refine ev_icmp_ge 101 (by decide) dX2_answer_43 (fun h43 => by exfalso; omega) (fun h43 => ?_)
      refine ev_iload5 dX2_answer_46 ?_
      refine ev_aload_n0 dX2_answer_48 ?_
      refine gfX2_7 rfl (hM 103 rfl) dX2_answer_49 ?_
      refine ev_bipush (nI 103) kb_103 dX2_answer_52 ?_
      refine ev_iload_n1 dX2_answer_54 ?_
      first | refine ev_iaddN dX2_answer_55 ?_ | refine ev_iadd dX2_answer_55 ?_
      refine ev_iald 1263 rfl rfl (hM 104 rfl) (by omega) dX2_answer_56 ?_
      refine ev_iload6 dX2_answer_57 ?_
      refine ev_cS2f okX2_has lkX2_39 (Nat.le_of_ble_eq_true rfl) (Nat.le_of_ble_eq_true rfl) (c_X2_has (by omega)) dX2_answer_59 ?_
      first | refine ev_if_eqB 91 (by decide) dX2_answer_62 (fun h62 => ?_) (fun h62 => ?_)
      · refine ev_c0 dX2_answer_91 ?_
        refine ev_ior dX2_answer_92 ?_
        refine ev_istore5 dX2_answer_93 ?_
        refine ev_iinc6 dX2_answer_95 ?_
        refine ev_goto 39 (by decide) dX2_answer_98 ?_
        rw [h62] at hs
        first | rw [decide_eq_true h81] at hs | rw [decide_eq_false (Nat.not_lt.mpr h81)] at hs | skip
        simp only [Bool.true_and, Bool.false_and, cond_true, cond_false] at hs
        first | rw [nI_lit1, ← hs] | rw [nI_0, ← hs]
        exact ih (c + 1) (by omega)
      · refine ev_aload_n0 dX2_answer_65 ?_
        refine ev_iload_n1 dX2_answer_66 ?_
        refine ev_iload6 dX2_answer_67 ?_
        refine ev_cV2f okX2_knownBy lkX2_106 (Nat.le_of_ble_eq_true rfl) (Nat.le_of_ble_eq_true rfl) (hM 103 rfl) isO_103 (c_X2_knownBy hM (by omega) (by omega)) dX2_answer_69 ?_
        refine ev_cS1f okX2_bits lkX2_112 (Nat.le_of_ble_eq_true rfl) (Nat.le_of_ble_eq_true rfl) c_X2_bits dX2_answer_72 ?_
        refine ev_aload_n0 dX2_answer_75 ?_
        refine gfX2_7 rfl (hM 103 rfl) dX2_answer_76 ?_
        refine ev_c1 dX2_answer_79 ?_
        refine ev_iald 1263 rfl rfl (hM 104 rfl) (by omega) dX2_answer_80 ?_
        rw [he]
        first | refine ev_icmp_geN 91 (by omega) (by omega) (by decide) dX2_answer_81 (fun h81 => ?_) (fun h81 => ?_) | refine ev_icmp_ge 91 (by decide) dX2_answer_81 (fun h81 => ?_) (fun h81 => ?_)
        · refine ev_c0 dX2_answer_91 ?_
          refine ev_ior dX2_answer_92 ?_
          refine ev_istore5 dX2_answer_93 ?_
          refine ev_iinc6 dX2_answer_95 ?_
          refine ev_goto 39 (by decide) dX2_answer_98 ?_
          rw [h62] at hs
          first | rw [decide_eq_true h81] at hs | rw [decide_eq_false (Nat.not_lt.mpr h81)] at hs | skip
          simp only [Bool.true_and, Bool.false_and, cond_true, cond_false] at hs
          first | rw [nI_lit1, ← hs] | rw [nI_0, ← hs]
          exact ih (c + 1) (by omega)
        · refine ev_c1 dX2_answer_84 ?_
          refine ev_iload6 dX2_answer_85 ?_
          refine ev_ishl dX2_answer_87 ?_
          refine ev_goto 92 (by decide) dX2_answer_88 ?_
          refine ev_ior dX2_answer_92 ?_
          refine ev_istore5 dX2_answer_93 ?_
          refine ev_iinc6 dX2_answer_95 ?_
          refine ev_goto 39 (by decide) dX2_answer_98 ?_
          rw [h62] at hs
          first | rw [decide_eq_true h81] at hs | rw [decide_eq_false (Nat.not_lt.mpr h81)] at hs | skip
          simp only [Bool.true_and, Bool.false_and, cond_true, cond_false] at hs
          first | rw [nI_lit1, ← hs] | rw [nI_0, ← hs]
          exact ih (c + 1) (by omega)
  refine ev_iload_n2 dX2_answer_0 ?_
  refine ev_aload_n0 dX2_answer_1 ?_
  refine ev_cV0f okX2_many lkX2_82 (Nat.le_of_ble_eq_true rfl) (Nat.le_of_ble_eq_true rfl) (hM 103 rfl) isO_103 (c_X2_many hM hn) dX2_answer_2 ?_
  refine ev_iremN (by omega) (by omega) (by omega) dX2_answer_5 ?_
  refine ev_istore4 dX2_answer_6 ?_
  refine ev_iload_n2 dX2_answer_8 ?_
  refine ev_c3 dX2_answer_9 ?_
  refine ev_iremN (by omega) (by omega) (by omega) dX2_answer_10 ?_
  first | refine ev_if_eqN 32 (by omega) (by decide) dX2_answer_11 (fun h11 => ?_) (fun h11 => ?_) | refine ev_if_eq 32 (by decide) dX2_answer_11 (fun h11 => ?_) (fun h11 => ?_)
  · refine ev_return rfl dX2_answer_32 ?_
    refine ⟨rfl, ?_⟩
    rw [if_pos (by omega), sr_self]
  · refine ev_iload4 dX2_answer_14 ?_
    refine ev_iload_n1 dX2_answer_16 ?_
    first | refine ev_icmp_eqN 32 (by omega) (by omega) (by decide) dX2_answer_17 (fun h17 => ?_) (fun h17 => ?_) | refine ev_icmp_eq 32 (by decide) dX2_answer_17 (fun h17 => ?_) (fun h17 => ?_)
    · refine ev_return rfl dX2_answer_32 ?_
      refine ⟨rfl, ?_⟩
      rw [if_pos (by omega), sr_self]
    · refine ev_aload_n0 dX2_answer_20 ?_
      refine ev_iload_n1 dX2_answer_21 ?_
      refine ev_iload4 dX2_answer_22 ?_
      refine ev_cV2f okX2_letters lkX2_62 (Nat.le_of_ble_eq_true rfl) (Nat.le_of_ble_eq_true rfl) (hM 103 rfl) isO_103 (c_X2_letters hM (by omega) (by omega)) dX2_answer_24 ?_
      rw [hL]
      refine ev_bipush (nI 8) kb_8 dX2_answer_27 ?_
      first | refine ev_icmp_neN 33 (by omega) (by omega) (by decide) dX2_answer_29 (fun h29 => ?_) (fun h29 => ?_) | refine ev_icmp_ne 33 (by decide) dX2_answer_29 (fun h29 => ?_) (fun h29 => ?_)
      · refine ev_c0 dX2_answer_33 ?_
        rw [nI_0]
        refine ev_istore5 dX2_answer_34 ?_
        refine ev_c0 dX2_answer_36 ?_
        refine ev_istore6 dX2_answer_37 ?_
        exact loop (by omega) 32 0 rfl
      · refine ev_return rfl dX2_answer_32 ?_
        refine ⟨rfl, ?_⟩
        rw [if_pos (by omega), sr_self]
/-- what a site learns of a letter's codes, in the reference's row -/
def knL (m : Nat → Int32) (y a : Nat) : Nat → Nat → Int32
  | 0 => m
  | c + 1 => if bt (knL m y a c (a + 2)) c = true then knowR (knL m y a c) y c ((kni (knL m y a c (107 + 4 * y + c / 8)) c ||| kni (knL m y a c (a + 3 + c / 8)) c) ||| nI 1 <<< (nI y &&& 31)) else knL m y a c
def rcM (m : Nat → Int32) (x y r t v : Nat) : Nat → Int32 := upd (upd (upd (upd m (7 + 24 * y + 3 * r) (nI x)) (7 + 24 * y + 3 * r + 1) (nI t)) (7 + 24 * y + 3 * r + 2) (nI v)) (3 + y) (nI (r + 1))
def rclM (m : Nat → Int32) (x y r t v : Nat) : Nat → Int32 := knL (knowR (rcM m x y r t v) y (8 * y + r) (nI 1 <<< (nI y &&& 31))) y (143 + 7 * (8 * (4 * x + y) + t)) 32
def takeM (m : Nat → Int32) (n e x y r t v : Nat) : Nat → Int32 := ansM (rclM m x y r t v) n e y (8 * y + r) v
