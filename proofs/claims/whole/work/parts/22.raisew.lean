theorem st_sr_ne {S : St} {k k' i : Nat} {r : Nat → Int32} {x : Int32} (h : k ≠ k') : st (sr S k' r) k i x = sr (st S k i x) k' r := (sr_st h).symm
def klA (S : St) (lo k : Nat) (kk : Int32) : Nat → Int32 := fun i => if lo ≤ i ∧ i < lo + k then S 9 i &&& kk else S 9 i
def klB (S : St) (lo j : Nat) (kk : Int32) : Nat → Int32 := fun i => if lo * 4 ≤ i ∧ i < lo * 4 + j then S 10 i &&& kk else S 10 i
/-- letters of a way when receipts are lost -/
def klW (S : St) (x y L : Nat) (kk : Int32) : St := sr (sr (sr S 9 (klA S ((x * 4 + y) * 8) L kk)) 10 (klB S ((x * 4 + y) * 8) (4 * L) kk)) 6 (upd (S 6) (x * 4 + y) (nI (fb_ct (fun k => bt kk (tn (S 8 ((x * 4 + y) * 8 + k)))) L)))
theorem c_X0_keepLettersOn {ks : List Nat} (hW : InW ks) {S : St} {x y L : Nat} {kk : Int32} (hx : x < 5) (hy : y < 4) (hL : S 6 (x * 4 + y) = nI L) (hL8 : L ≤ 8) (hb : ∀ k, k < L → ∃ b, b < 32 ∧ S 8 ((x * 4 + y) * 8 + k) = nI b) : Cn ks mX0_keepLettersOn yX0_keepLettersOn [.inr 0, .inl (nI x), .inl (nI y), .inl kk] S (Rv (klW S x y L kk)) := by
  refine cnV okX0_keepLettersOn 5 rfl ?_
  show Ev ks mX0_keepLettersOn 0 [some (.inr 0), some (.inl (nI x)), some (.inl (nI y)), some (.inl kk), none, none, none, none, none] [] S _
  unfold klW
  generalize hlo : (x * 4 + y) * 8 = lo at hb
  have hlo2 : lo ≤ 152 := by omega
  have n6 : ∀ A B i, sr (sr S 9 A) 10 B 6 i = S 6 i := fun A B i => rfl
  have n8 : ∀ A B i, sr (sr S 9 A) 10 B 8 i = S 8 i := fun A B i => rfl
  have inner : ∀ (k : Nat), k < L → (∀ v, Ev ks mX0_keepLettersOn 14 [some (.inr 0), some (.inl (nI x)), some (.inl (nI y)), some (.inl kk), some (.inl (nI (fb_ct (fun k => bt kk (tn (S 8 (lo + k)))) (k + 1)))), some (.inl (nI L)), some (.inl (nI (k + 1))), some (.inl (nI (lo + k))), v] [] (sr (sr S 9 (klA S lo (k + 1) kk)) 10 (klB S lo (4 * (k + 1)) kk)) (Rv (sr (sr (sr S 9 (klA S lo L kk)) 10 (klB S lo (4 * L) kk)) 6 (upd (S 6) (x * 4 + y) (nI (fb_ct (fun k => bt kk (tn (S 8 (lo + k)))) L)))))) →
      ∀ f s, s + f = 4 → Ev ks mX0_keepLettersOn 61 [some (.inr 0), some (.inl (nI x)), some (.inl (nI y)), some (.inl kk), some (.inl (nI (fb_ct (fun k => bt kk (tn (S 8 (lo + k)))) (k + 1)))), some (.inl (nI L)), some (.inl (nI k)), some (.inl (nI (lo + k))), some (.inl (nI s))] [] (sr (sr S 9 (klA S lo (k + 1) kk)) 10 (klB S lo (4 * k + s) kk)) (Rv (sr (sr (sr S 9 (klA S lo L kk)) 10 (klB S lo (4 * L) kk)) 6 (upd (S 6) (x * 4 + y) (nI (fb_ct (fun k => bt kk (tn (S 8 (lo + k)))) L))))) := by
    intro k hk hnext f
    induction f with
    | zero =>
      intro s hs
      obtain rfl : s = 4 := by omega
      refine ev_iload8 dX0_keepLettersOn_61 ?_
      refine ev_c4 dX0_keepLettersOn_63 ?_
      first | refine ev_icmp_geN 89 (by omega) (by omega) (by decide) dX0_keepLettersOn_64 (fun h64 => ?_) (fun h64 => by exfalso; omega) | refine ev_icmp_ge 89 (by decide) dX0_keepLettersOn_64 (fun h64 => ?_) (fun h64 => by exfalso; omega)
      refine ev_iinc6 dX0_keepLettersOn_89 ?_
      refine ev_goto 14 (by decide) dX0_keepLettersOn_92 ?_
      exact hnext _
    | succ f ih =>
      intro s hs
      have e1 : sr (sr S 9 (klA S lo (k + 1) kk)) 10 (klB S lo (4 * k + s) kk) 10 ((lo + k) * 4 + s) = S 10 ((lo + k) * 4 + s) := by
        rw [sr_s]; unfold klB; rw [if_neg (by omega)]
      have e : upd (klB S lo (4 * k + s) kk) ((lo + k) * 4 + s) (S 10 ((lo + k) * 4 + s) &&& kk) = klB S lo (4 * k + (s + 1)) kk := by
        funext i
        unfold upd klB
        by_cases h : i = (lo + k) * 4 + s
        · rw [if_pos h, if_pos (by omega), h]
        · rw [if_neg h]
          by_cases h2 : lo * 4 ≤ i ∧ i < lo * 4 + (4 * k + s)
          · rw [if_pos h2, if_pos (by omega)]
          · rw [if_neg h2, if_neg (by omega)]
      refine ev_iload8 dX0_keepLettersOn_61 ?_
      refine ev_c4 dX0_keepLettersOn_63 ?_
      first | refine ev_icmp_geN 89 (by omega) (by omega) (by decide) dX0_keepLettersOn_64 (fun h64 => by exfalso; omega) (fun h64 => ?_) | refine ev_icmp_ge 89 (by decide) dX0_keepLettersOn_64 (fun h64 => by exfalso; omega) (fun h64 => ?_)
      refine ev_aload_n0 dX0_keepLettersOn_67 ?_
      refine gfX0_39 rfl (hW 0 rfl) dX0_keepLettersOn_68 ?_
      refine ev_iload7 dX0_keepLettersOn_71 ?_
      refine ev_c4 dX0_keepLettersOn_73 ?_
      first | refine ev_imulN dX0_keepLettersOn_74 ?_ | refine ev_imul dX0_keepLettersOn_74 ?_
      refine ev_iload8 dX0_keepLettersOn_75 ?_
      first | refine ev_iaddN dX0_keepLettersOn_77 ?_ | refine ev_iadd dX0_keepLettersOn_77 ?_
      refine ev_dup2 dX0_keepLettersOn_78 ?_
      refine ev_iald 640 rfl rfl (hW 10 rfl) (by omega) dX0_keepLettersOn_79 ?_
      rw [e1]
      refine ev_iload_n3 dX0_keepLettersOn_80 ?_
      refine ev_iand dX0_keepLettersOn_81 ?_
      refine ev_iast 640 rfl rfl (hW 10 rfl) (by omega) dX0_keepLettersOn_82 ?_
      refine ev_iinc8 dX0_keepLettersOn_83 ?_
      refine ev_goto 61 (by decide) dX0_keepLettersOn_86 ?_
      rw [st_sr, e]
      exact ih (s + 1) (by omega)
  have loop : ∀ f k v7 v8, k + f = L → Ev ks mX0_keepLettersOn 14 [some (.inr 0), some (.inl (nI x)), some (.inl (nI y)), some (.inl kk), some (.inl (nI (fb_ct (fun k => bt kk (tn (S 8 (lo + k)))) k))), some (.inl (nI L)), some (.inl (nI k)), v7, v8] [] (sr (sr S 9 (klA S lo k kk)) 10 (klB S lo (4 * k) kk)) (Rv (sr (sr (sr S 9 (klA S lo L kk)) 10 (klB S lo (4 * L) kk)) 6 (upd (S 6) (x * 4 + y) (nI (fb_ct (fun k => bt kk (tn (S 8 (lo + k)))) L))))) := by
    intro f
    induction f with
    | zero =>
      intro k v7 v8 hk
      obtain rfl : k = L := by omega
      refine ev_iload6 dX0_keepLettersOn_14 ?_
      refine ev_iload5 dX0_keepLettersOn_16 ?_
      first | refine ev_icmp_geN 95 (by omega) (by omega) (by decide) dX0_keepLettersOn_18 (fun h18 => ?_) (fun h18 => by exfalso; omega) | refine ev_icmp_ge 95 (by decide) dX0_keepLettersOn_18 (fun h18 => ?_) (fun h18 => by exfalso; omega)
      refine ev_aload_n0 dX0_keepLettersOn_95 ?_
      refine gfX0_27 rfl (hW 0 rfl) dX0_keepLettersOn_96 ?_
      refine ev_iload_n1 dX0_keepLettersOn_99 ?_
      refine ev_iload_n2 dX0_keepLettersOn_100 ?_
      refine ev_cS2f okX0_wayOf lkX0_80 (Nat.le_of_ble_eq_true rfl) (Nat.le_of_ble_eq_true rfl) c_X0_wayOf dX0_keepLettersOn_101 ?_
      refine ev_iload4 dX0_keepLettersOn_104 ?_
      refine ev_iast 20 rfl rfl (hW 6 rfl) (by omega) dX0_keepLettersOn_106 ?_
      refine ev_return rfl dX0_keepLettersOn_107 ?_
      rw [st_n]
      exact ⟨rfl, rfl⟩
    | succ f ih =>
      intro k v7 v8 hk
      obtain ⟨b, hb32, hbv⟩ := hb k (by omega)
      have hs := fb_ct_succ (fun k => bt kk (tn (S 8 (lo + k)))) k
      rw [hbv, tn_nI (by omega)] at hs
      have e1 : sr (sr S 9 (klA S lo k kk)) 10 (klB S lo (4 * k) kk) 9 (lo + k) = S 9 (lo + k) := by
        show klA S lo k kk (lo + k) = _
        unfold klA
        rw [if_neg (by omega)]
      have e : upd (klA S lo k kk) (lo + k) (S 9 (lo + k) &&& kk) = klA S lo (k + 1) kk := by
        funext i
        unfold upd klA
        by_cases h : i = lo + k
        · rw [if_pos h, if_pos (by omega), h]
        · rw [if_neg h]
          by_cases h2 : lo ≤ i ∧ i < lo + k
          · rw [if_pos h2, if_pos (by omega)]
          · rw [if_neg h2, if_neg (by omega)]
      refine ev_iload6 dX0_keepLettersOn_14 ?_
      refine ev_iload5 dX0_keepLettersOn_16 ?_
      first | refine ev_icmp_geN 95 (by omega) (by omega) (by decide) dX0_keepLettersOn_18 (fun h18 => by exfalso; omega) (fun h18 => ?_) | refine ev_icmp_ge 95 (by decide) dX0_keepLettersOn_18 (fun h18 => by exfalso; omega) (fun h18 => ?_)
      refine ev_iload_n1 dX0_keepLettersOn_21 ?_
      refine ev_iload_n2 dX0_keepLettersOn_22 ?_
      refine ev_iload6 dX0_keepLettersOn_23 ?_
      refine ev_cS3f okX0_letterOn lkX0_100 (Nat.le_of_ble_eq_true rfl) (Nat.le_of_ble_eq_true rfl) c_X0_letterOn dX0_keepLettersOn_25 ?_
      rw [hlo]
      refine ev_istore7 dX0_keepLettersOn_28 ?_
      refine ev_iload_n3 dX0_keepLettersOn_30 ?_
      refine ev_aload_n0 dX0_keepLettersOn_31 ?_
      refine gfX0_33 rfl (hW 0 rfl) dX0_keepLettersOn_32 ?_
      refine ev_iload7 dX0_keepLettersOn_35 ?_
      refine ev_iald 160 rfl rfl (hW 8 rfl) (by omega) dX0_keepLettersOn_37 ?_
      rw [n8, hbv]
      refine ev_iushr dX0_keepLettersOn_38 ?_
      refine ev_c1 dX0_keepLettersOn_39 ?_
      rw [nI_lit1]
      refine ev_iand dX0_keepLettersOn_40 ?_
      rw [u_bit kk b hb32]
      first | refine ev_if_eqB 47 (by decide) dX0_keepLettersOn_41 (fun h41 => ?_) (fun h41 => ?_)
      · refine ev_aload_n0 dX0_keepLettersOn_47 ?_
        refine gfX0_36 rfl (hW 0 rfl) dX0_keepLettersOn_48 ?_
        refine ev_iload7 dX0_keepLettersOn_51 ?_
        refine ev_dup2 dX0_keepLettersOn_53 ?_
        refine ev_iald 160 rfl rfl (hW 9 rfl) (by omega) dX0_keepLettersOn_54 ?_
        rw [e1]
        refine ev_iload_n3 dX0_keepLettersOn_55 ?_
        refine ev_iand dX0_keepLettersOn_56 ?_
        refine ev_iast 160 rfl rfl (hW 9 rfl) (by omega) dX0_keepLettersOn_57 ?_
        rw [st_sr_ne (by decide), st_sr, e]
        refine ev_c0 dX0_keepLettersOn_58 ?_
        refine ev_istore8 dX0_keepLettersOn_59 ?_
        rw [h41] at hs
        simp only [if_true, Bool.false_eq_true, if_false, Nat.add_zero] at hs
        rw [← hs]
        exact inner k (by omega) (fun v => ih (k + 1) _ v (by omega)) 4 0 rfl
      · refine ev_iinc4 dX0_keepLettersOn_44 ?_
        refine ev_aload_n0 dX0_keepLettersOn_47 ?_
        refine gfX0_36 rfl (hW 0 rfl) dX0_keepLettersOn_48 ?_
        refine ev_iload7 dX0_keepLettersOn_51 ?_
        refine ev_dup2 dX0_keepLettersOn_53 ?_
        refine ev_iald 160 rfl rfl (hW 9 rfl) (by omega) dX0_keepLettersOn_54 ?_
        rw [e1]
        refine ev_iload_n3 dX0_keepLettersOn_55 ?_
        refine ev_iand dX0_keepLettersOn_56 ?_
        refine ev_iast 160 rfl rfl (hW 9 rfl) (by omega) dX0_keepLettersOn_57 ?_
        rw [st_sr_ne (by decide), st_sr, e]
        refine ev_c0 dX0_keepLettersOn_58 ?_
        refine ev_istore8 dX0_keepLettersOn_59 ?_
        rw [h41] at hs
        simp only [if_true, Bool.false_eq_true, if_false, Nat.add_zero] at hs
        rw [← hs]
        exact inner k (by omega) (fun v => ih (k + 1) _ v (by omega)) 4 0 rfl
  refine ev_c0 dX0_keepLettersOn_0 ?_
  refine ev_istore4 dX0_keepLettersOn_1 ?_
  refine ev_aload_n0 dX0_keepLettersOn_3 ?_
  refine ev_iload_n1 dX0_keepLettersOn_4 ?_
  refine ev_iload_n2 dX0_keepLettersOn_5 ?_
  refine ev_cV2f okX0_lettersOn lkX0_91 (Nat.le_of_ble_eq_true rfl) (Nat.le_of_ble_eq_true rfl) (hW 0 rfl) isO_0 (c_X0_lettersOn hW (by omega) (by omega)) dX0_keepLettersOn_6 ?_
  rw [hL]
  refine ev_istore5 dX0_keepLettersOn_9 ?_
  refine ev_c0 dX0_keepLettersOn_11 ?_
  refine ev_istore6 dX0_keepLettersOn_12 ?_
  have h := loop L 0 none none (by omega)
  have ea : klA S lo 0 kk = S 9 := by funext i; unfold klA; rw [if_neg (by omega)]
  have eb : klB S lo (4 * 0) kk = S 10 := by funext i; unfold klB; rw [if_neg (by omega)]
  rw [ea, eb, sr_self, sr_self] at h
  exact h
theorem c_X0_learnAll {ks : List Nat} (hW : InW ks) {S : St} {n p : Nat} {held : Int32} (hn : S 0 0 = nI n) (h4 : n ≤ 4) (hp : p < n) (hd : bt (S 0 2) p = true) : Cn ks mX0_learnAll yX0_learnAll [.inr 0, .inl (nI p), .inl held] S (Rv (sr S 11 (seg (fun s => if bt (S 0 2) s = true then held else S 11 (s * 4 + s)) (S 11) (p * 4) n))) := by
  refine cnV okX0_learnAll 1 rfl ?_
  show Ev ks mX0_learnAll 0 [some (.inr 0), some (.inl (nI p)), some (.inl held), none] [] S _
  have n0 : ∀ R, sr S 11 R 0 0 = nI n := fun R => hn
  have n2 : ∀ R, sr S 11 R 0 2 = S 0 2 := fun R => rfl
  have loop : ∀ f s, s + f = n → Ev ks mX0_learnAll 2 [some (.inr 0), some (.inl (nI p)), some (.inl held), some (.inl (nI s))] [] (sr S 11 (seg (fun s => if bt (S 0 2) s = true then held else S 11 (s * 4 + s)) (S 11) (p * 4) s)) (Rv (sr S 11 (seg (fun s => if bt (S 0 2) s = true then held else S 11 (s * 4 + s)) (S 11) (p * 4) n))) := by
    intro f
    induction f with
    | zero =>
      intro s hs
      obtain rfl : s = n := by omega
      refine ev_iload_n3 dX0_learnAll_2 ?_
      refine ev_aload_n0 dX0_learnAll_3 ?_
      refine gfX0_49 rfl (hW 0 rfl) dX0_learnAll_4 ?_
      rw [n0]
      first | refine ev_icmp_geN 43 (by omega) (by omega) (by decide) dX0_learnAll_7 (fun h7 => ?_) (fun h7 => by exfalso; omega) | refine ev_icmp_ge 43 (by decide) dX0_learnAll_7 (fun h7 => ?_) (fun h7 => by exfalso; omega)
      refine ev_return rfl dX0_learnAll_43 ?_
      exact ⟨rfl, rfl⟩
    | succ f ih =>
      intro s hs
      have e1 : bt (S 0 2) s = false → sr S 11 (seg (fun s => if bt (S 0 2) s = true then held else S 11 (s * 4 + s)) (S 11) (p * 4) s) 11 (s * 4 + s) = S 11 (s * 4 + s) := fun h => by
        rw [sr_s, seg_o]
        rintro ⟨h1, h2⟩
        have : s = p := by omega
        rw [this, hd] at h
        cases h
      refine ev_iload_n3 dX0_learnAll_2 ?_
      refine ev_aload_n0 dX0_learnAll_3 ?_
      refine gfX0_49 rfl (hW 0 rfl) dX0_learnAll_4 ?_
      rw [n0]
      first | refine ev_icmp_geN 43 (by omega) (by omega) (by decide) dX0_learnAll_7 (fun h7 => by exfalso; omega) (fun h7 => ?_) | refine ev_icmp_ge 43 (by decide) dX0_learnAll_7 (fun h7 => by exfalso; omega) (fun h7 => ?_)
      refine ev_aload_n0 dX0_learnAll_10 ?_
      refine gfX0_42 rfl (hW 0 rfl) dX0_learnAll_11 ?_
      refine ev_iload_n1 dX0_learnAll_14 ?_
      refine ev_c4 dX0_learnAll_15 ?_
      first | refine ev_imulN dX0_learnAll_16 ?_ | refine ev_imul dX0_learnAll_16 ?_
      refine ev_iload_n3 dX0_learnAll_17 ?_
      first | refine ev_iaddN dX0_learnAll_18 ?_ | refine ev_iadd dX0_learnAll_18 ?_
      refine ev_aload_n0 dX0_learnAll_19 ?_
      refine ev_iload_n3 dX0_learnAll_20 ?_
      refine ev_cV1f okX0_isDown lkX0_161 (Nat.le_of_ble_eq_true rfl) (Nat.le_of_ble_eq_true rfl) (hW 0 rfl) isO_0 (c_X0_isDown hW (by omega)) dX0_learnAll_21 ?_
      rw [n2]
      first | refine ev_if_eqB 31 (by decide) dX0_learnAll_24 (fun h24 => ?_) (fun h24 => ?_)
      · refine ev_aload_n0 dX0_learnAll_31 ?_
        refine ev_iload_n3 dX0_learnAll_32 ?_
        refine ev_cV1f okX0_heldBy lkX0_104 (Nat.le_of_ble_eq_true rfl) (Nat.le_of_ble_eq_true rfl) (hW 0 rfl) isO_0 (c_X0_heldBy hW (by omega)) dX0_learnAll_33 ?_
        first | rw [e1 h24] | skip
        refine ev_iast 16 rfl rfl (hW 11 rfl) (by omega) dX0_learnAll_36 ?_
        refine ev_iinc3 dX0_learnAll_37 ?_
        refine ev_goto 2 (by decide) dX0_learnAll_40 ?_
        rw [st_sr, seg_s _ _ _ _ (by first | (rw [if_pos h24]; done) | (rw [if_neg (by rw [h24]; decide)]; done))]
        exact ih (s + 1) (by omega)
      · refine ev_iload_n2 dX0_learnAll_27 ?_
        refine ev_goto 36 (by decide) dX0_learnAll_28 ?_
        first | rw [e1 h24] | skip
        refine ev_iast 16 rfl rfl (hW 11 rfl) (by omega) dX0_learnAll_36 ?_
        refine ev_iinc3 dX0_learnAll_37 ?_
        refine ev_goto 2 (by decide) dX0_learnAll_40 ?_
        rw [st_sr, seg_s _ _ _ _ (by first | (rw [if_pos h24]; done) | (rw [if_neg (by rw [h24]; decide)]; done))]
        exact ih (s + 1) (by omega)
  refine ev_c0 dX0_learnAll_0 ?_
  refine ev_istore_n3 dX0_learnAll_1 ?_
  have h := loop n 0 (by omega)
  rw [seg_z, sr_self] at h
  exact h
/-- what the raised come to hold -/
def tellP (n : Nat) (D : Int32) (R R' : Nat → Int32) (held : Int32) (p : Nat) : Prop := ∀ p' s, p' < 4 → s < 4 → R' (p' * 4 + s) = if p' < p ∧ p' < n ∧ s < n ∧ bt D p' = true then (if bt D s = true then held else R (s * 4 + s)) else R (p' * 4 + s)
theorem c_X0_tellTheRaised {ks : List Nat} (hW : InW ks) {S : St} {n : Nat} (hn : S 0 0 = nI n) (h4 : n ≤ 4) : Cn ks mX0_tellTheRaised yX0_tellTheRaised [.inr 0] S (Gv (fun S' => ∃ R', S' = sr S 11 R' ∧ tellP n (S 0 2) (S 11) R' (orF (fun p => S 11 (p * 4 + p)) n) n)) := by
  refine cnV okX0_tellTheRaised 2 rfl ?_
  show Ev ks mX0_tellTheRaised 0 [some (.inr 0), none, none] [] S _
  have loop2 : ∀ f p R, p + f = n → tellP n (S 0 2) (S 11) R (orF (fun p => S 11 (p * 4 + p)) n) p → Ev ks mX0_tellTheRaised 28 [some (.inr 0), some (.inl (orF (fun p => S 11 (p * 4 + p)) n)), some (.inl (nI p))] [] (sr S 11 R) (Gv (fun S' => ∃ R', S' = sr S 11 R' ∧ tellP n (S 0 2) (S 11) R' (orF (fun p => S 11 (p * 4 + p)) n) n)) := by
    intro f
    induction f with
    | zero =>
      intro p R hp hR
      obtain rfl : p = n := by omega
      have n0 : sr S 11 R 0 0 = nI p := hn
      refine ev_iload_n2 dX0_tellTheRaised_28 ?_
      refine ev_aload_n0 dX0_tellTheRaised_29 ?_
      refine gfX0_49 rfl (hW 0 rfl) dX0_tellTheRaised_30 ?_
      rw [n0]
      first | refine ev_icmp_geN 56 (by omega) (by omega) (by decide) dX0_tellTheRaised_33 (fun h33 => ?_) (fun h33 => by exfalso; omega) | refine ev_icmp_ge 56 (by decide) dX0_tellTheRaised_33 (fun h33 => ?_) (fun h33 => by exfalso; omega)
      refine ev_return rfl dX0_tellTheRaised_56 ?_
      exact ⟨rfl, R, rfl, hR⟩
    | succ f ih =>
      intro p R hp hR
      have n0 : sr S 11 R 0 0 = nI n := hn
      have n2 : sr S 11 R 0 2 = S 0 2 := rfl
      by_cases hd : bt (S 0 2) p = true
      · refine ev_iload_n2 dX0_tellTheRaised_28 ?_
        refine ev_aload_n0 dX0_tellTheRaised_29 ?_
        refine gfX0_49 rfl (hW 0 rfl) dX0_tellTheRaised_30 ?_
        rw [n0]
        first | refine ev_icmp_geN 56 (by omega) (by omega) (by decide) dX0_tellTheRaised_33 (fun h33 => by exfalso; omega) (fun h33 => ?_) | refine ev_icmp_ge 56 (by decide) dX0_tellTheRaised_33 (fun h33 => by exfalso; omega) (fun h33 => ?_)
        refine ev_aload_n0 dX0_tellTheRaised_36 ?_
        refine ev_iload_n2 dX0_tellTheRaised_37 ?_
        refine ev_cV1f okX0_isDown lkX0_161 (Nat.le_of_ble_eq_true rfl) (Nat.le_of_ble_eq_true rfl) (hW 0 rfl) isO_0 (c_X0_isDown hW (by omega)) dX0_tellTheRaised_38 ?_
        rw [n2]
        first | refine ev_if_eqB 50 (by decide) dX0_tellTheRaised_41 (fun h41 => by rw [hd] at h41; cases h41) (fun h41 => ?_)
        refine ev_aload_n0 dX0_tellTheRaised_44 ?_
        refine ev_iload_n2 dX0_tellTheRaised_45 ?_
        refine ev_iload_n1 dX0_tellTheRaised_46 ?_
        refine ev_cV2v okX0_learnAll lkX0_164 (Nat.le_of_ble_eq_true rfl) (Nat.le_of_ble_eq_true rfl) (hW 0 rfl) isO_0 (c_X0_learnAll hW n0 h4 (by omega) hd) dX0_tellTheRaised_47 ?_
        refine ev_iinc2 dX0_tellTheRaised_50 ?_
        refine ev_goto 28 (by decide) dX0_tellTheRaised_53 ?_
        rw [sr_sr, sr_s]
        refine ih (p + 1) _ (by omega) (fun p' s hp' hs => ?_)
        have hRp := hR p' s hp' hs
        by_cases e : p' = p
        · subst e
          by_cases hsn : s < n
          · rw [if_pos ⟨by omega, by omega, hsn, hd⟩, seg_in hsn]
            show (if bt (S 0 2) s = true then _ else R (s * 4 + s)) = _
            by_cases hds : bt (S 0 2) s = true
            · rw [if_pos hds, if_pos hds]
            · rw [if_neg hds, if_neg hds]
              have := hR s s (by omega) hs
              rw [if_neg (fun z => hds z.2.2.2)] at this
              exact this
          · rw [if_neg (fun z => hsn z.2.2.1), seg_o (by omega), hRp, if_neg (fun z => hsn z.2.2.1)]
        · rw [seg_o (by omega), hRp]
          by_cases h : p' < p ∧ p' < n ∧ s < n ∧ bt (S 0 2) p' = true
          · rw [if_pos h, if_pos (show p' < p + 1 ∧ p' < n ∧ s < n ∧ bt (S 0 2) p' = true from ⟨by omega, h.2⟩)]
          · rw [if_neg h, if_neg (fun z => h ⟨by omega, z.2.1, z.2.2.1, z.2.2.2⟩)]
      · have hdf : bt (S 0 2) p = false := by simpa using hd
        refine ev_iload_n2 dX0_tellTheRaised_28 ?_
        refine ev_aload_n0 dX0_tellTheRaised_29 ?_
        refine gfX0_49 rfl (hW 0 rfl) dX0_tellTheRaised_30 ?_
        rw [n0]
        first | refine ev_icmp_geN 56 (by omega) (by omega) (by decide) dX0_tellTheRaised_33 (fun h33 => by exfalso; omega) (fun h33 => ?_) | refine ev_icmp_ge 56 (by decide) dX0_tellTheRaised_33 (fun h33 => by exfalso; omega) (fun h33 => ?_)
        refine ev_aload_n0 dX0_tellTheRaised_36 ?_
        refine ev_iload_n2 dX0_tellTheRaised_37 ?_
        refine ev_cV1f okX0_isDown lkX0_161 (Nat.le_of_ble_eq_true rfl) (Nat.le_of_ble_eq_true rfl) (hW 0 rfl) isO_0 (c_X0_isDown hW (by omega)) dX0_tellTheRaised_38 ?_
        rw [n2]
        first | refine ev_if_eqB 50 (by decide) dX0_tellTheRaised_41 (fun h41 => ?_) (fun h41 => by rw [hdf] at h41; cases h41)
        refine ev_iinc2 dX0_tellTheRaised_50 ?_
        refine ev_goto 28 (by decide) dX0_tellTheRaised_53 ?_
        refine ih (p + 1) R (by omega) (fun p' s hp' hs => ?_)
        have hRp := hR p' s hp' hs
        rw [hRp]
        by_cases h : p' < p ∧ p' < n ∧ s < n ∧ bt (S 0 2) p' = true
        · rw [if_pos h, if_pos (show p' < p + 1 ∧ p' < n ∧ s < n ∧ bt (S 0 2) p' = true from ⟨by omega, h.2⟩)]
        · rw [if_neg h, if_neg (fun z => h ⟨by have : p' ≠ p := fun e => hd (e ▸ z.2.2.2); omega, z.2.1, z.2.2.1, z.2.2.2⟩)]
  have loop : ∀ f p, p + f = n → Ev ks mX0_tellTheRaised 4 [some (.inr 0), some (.inl (orF (fun p => S 11 (p * 4 + p)) p)), some (.inl (nI p))] [] S (Gv (fun S' => ∃ R', S' = sr S 11 R' ∧ tellP n (S 0 2) (S 11) R' (orF (fun p => S 11 (p * 4 + p)) n) n)) := by
    intro f
    induction f with
    | zero =>
      intro p hp
      obtain rfl : p = n := by omega
      refine ev_iload_n2 dX0_tellTheRaised_4 ?_
      refine ev_aload_n0 dX0_tellTheRaised_5 ?_
      refine gfX0_49 rfl (hW 0 rfl) dX0_tellTheRaised_6 ?_
      rw [hn]
      first | refine ev_icmp_geN 26 (by omega) (by omega) (by decide) dX0_tellTheRaised_9 (fun h9 => ?_) (fun h9 => by exfalso; omega) | refine ev_icmp_ge 26 (by decide) dX0_tellTheRaised_9 (fun h9 => ?_) (fun h9 => by exfalso; omega)
      refine ev_c0 dX0_tellTheRaised_26 ?_
      refine ev_istore_n2 dX0_tellTheRaised_27 ?_
      have h := loop2 p 0 (S 11) (by omega) (fun p' s _ _ => by rw [if_neg (by omega)])
      rw [sr_self] at h
      exact h
    | succ f ih =>
      intro p hp
      refine ev_iload_n2 dX0_tellTheRaised_4 ?_
      refine ev_aload_n0 dX0_tellTheRaised_5 ?_
      refine gfX0_49 rfl (hW 0 rfl) dX0_tellTheRaised_6 ?_
      rw [hn]
      first | refine ev_icmp_geN 26 (by omega) (by omega) (by decide) dX0_tellTheRaised_9 (fun h9 => by exfalso; omega) (fun h9 => ?_) | refine ev_icmp_ge 26 (by decide) dX0_tellTheRaised_9 (fun h9 => by exfalso; omega) (fun h9 => ?_)
      refine ev_iload_n1 dX0_tellTheRaised_12 ?_
      refine ev_aload_n0 dX0_tellTheRaised_13 ?_
      refine ev_iload_n2 dX0_tellTheRaised_14 ?_
      refine ev_cV1f okX0_heldBy lkX0_104 (Nat.le_of_ble_eq_true rfl) (Nat.le_of_ble_eq_true rfl) (hW 0 rfl) isO_0 (c_X0_heldBy hW (by omega)) dX0_tellTheRaised_15 ?_
      refine ev_ior dX0_tellTheRaised_18 ?_
      refine ev_istore_n1 dX0_tellTheRaised_19 ?_
      refine ev_iinc2 dX0_tellTheRaised_20 ?_
      refine ev_goto 4 (by decide) dX0_tellTheRaised_23 ?_
      exact ih (p + 1) (by omega)
  refine ev_c0 dX0_tellTheRaised_0 ?_
  rw [nI_0]
  refine ev_istore_n1 dX0_tellTheRaised_1 ?_
  refine ev_c0 dX0_tellTheRaised_2 ?_
  refine ev_istore_n2 dX0_tellTheRaised_3 ?_
  exact loop n 0 (by omega)

/-- letters that are left of a way -/
def lfc (S : St) (kk : Int32) (x y : Nat) : Nat := fb_ct (fun k => bt kk (tn (S 8 ((x * 4 + y) * 8 + k)))) (wr S x y)
def ltS (S T : St) (x y k : Nat) : Prop := T 9 ((x * 4 + y) * 8 + k) = S 9 ((x * 4 + y) * 8 + k) ∧ ∀ s, s < 4 → T 10 (((x * 4 + y) * 8 + k) * 4 + s) = S 10 (((x * 4 + y) * 8 + k) * 4 + s)
def ltK (S T : St) (kk : Int32) (x y k : Nat) : Prop := T 9 ((x * 4 + y) * 8 + k) = S 9 ((x * 4 + y) * 8 + k) &&& kk ∧ ∀ s, s < 4 → T 10 (((x * 4 + y) * 8 + k) * 4 + s) = S 10 (((x * 4 + y) * 8 + k) * 4 + s) &&& kk
/-- the world while letters are sorted out -/
def RQ (S T : St) (n : Nat) (kk : Int32) (K : Nat → Nat) (q1 : Nat) (P : Nat → Nat → Prop) : Prop := (∀ k, k ≠ 1 → k ≠ 6 → k ≠ 9 → k ≠ 10 → T k = S k) ∧ (∀ i, i < 4 → T 1 i = if i < q1 then nI (K i) else S 1 i) ∧ (∀ x y, x < 5 → y < 4 → P x y → T 6 (x * 4 + y) = nI (lfc S kk x y) ∧ ∀ k, k < wr S x y → ltK S T kk x y k) ∧ (∀ x y, x < 5 → y < 4 → ¬ P x y → T 6 (x * 4 + y) = S 6 (x * 4 + y) ∧ ∀ k, k < 8 → ltS S T x y k)
theorem RQ_iff {S T : St} {n : Nat} {kk : Int32} {K : Nat → Nat} {q1 : Nat} {P P' : Nat → Nat → Prop} (h : ∀ x y, x < 5 → y < 4 → (P x y ↔ P' x y)) (hR : RQ S T n kk K q1 P) : RQ S T n kk K q1 P' := ⟨hR.1, hR.2.1, fun x y hx hy hp => hR.2.2.1 x y hx hy ((h x y hx hy).mpr hp), fun x y hx hy hp => hR.2.2.2 x y hx hy (fun z => hp ((h x y hx hy).mp z))⟩
theorem RQ_step {S T : St} {n : Nat} {kk : Int32} {K : Nat → Nat} {q1 : Nat} {P : Nat → Nat → Prop} {x y : Nat} (hx : x < 5) (hy : y < 4) (hw8 : ∀ x y, x < 5 → y < 4 → wr S x y ≤ 8) (hnp : ¬ P x y) (hR : RQ S T n kk K q1 P) : RQ S (klW T x y (wr S x y) kk) n kk K q1 (fun x' y' => P x' y' ∨ (x' = x ∧ y' = y)) := by
  obtain ⟨r1, r2, r3, r4⟩ := hR
  have hw := hw8 x y hx hy
  obtain ⟨o6, oL⟩ := r4 x y hx hy hnp
  generalize hT' : klW T x y (wr S x y) kk = T'
  have e6 : T' 6 = upd (T 6) (x * 4 + y) (nI (fb_ct (fun k => bt kk (tn (T 8 ((x * 4 + y) * 8 + k)))) (wr S x y))) := by rw [← hT']; rfl
  have e9 : T' 9 = klA T ((x * 4 + y) * 8) (wr S x y) kk := by rw [← hT']; rfl
  have e10 : T' 10 = klB T ((x * 4 + y) * 8) (4 * wr S x y) kk := by rw [← hT']; rfl
  have eo : ∀ k, k ≠ 6 → k ≠ 9 → k ≠ 10 → T' k = T k := fun k h1 h2 h3 => by
    rw [← hT']
    unfold klW
    rw [sr_n h1, sr_n h3, sr_n h2]
  have far : ∀ x' y' k, x' < 5 → y' < 4 → k < 8 → ¬ (x' = x ∧ y' = y) → T' 9 ((x' * 4 + y') * 8 + k) = T 9 ((x' * 4 + y') * 8 + k) ∧ ∀ s, s < 4 → T' 10 (((x' * 4 + y') * 8 + k) * 4 + s) = T 10 (((x' * 4 + y') * 8 + k) * 4 + s) := fun x' y' k hx' hy' hk hne => by
    rw [e9, e10]
    unfold klA klB
    refine ⟨if_neg (by omega), fun s hs => if_neg (by omega)⟩
  refine ⟨fun k h1 h2 h3 h4 => by rw [eo k h2 h3 h4]; exact r1 k h1 h2 h3 h4, fun i hi => by rw [eo 1 (by decide) (by decide) (by decide)]; exact r2 i hi, fun x' y' hx' hy' hp => ?_, fun x' y' hx' hy' hp => ?_⟩
  · by_cases h : x' = x ∧ y' = y
    · obtain ⟨rfl, rfl⟩ := h
      rw [e6, upd_s]
      refine ⟨by unfold lfc; rw [r1 8 (by decide) (by decide) (by decide) (by decide)], fun k hk => ?_⟩
      obtain ⟨o9, o10⟩ := oL k (by omega)
      unfold ltK
      rw [e9, e10]
      unfold klA klB
      rw [if_pos (by omega), o9]
      refine ⟨rfl, fun s hs => ?_⟩
      rw [if_pos (by omega), o10 s hs]
    · have hp' : P x' y' := hp.resolve_right h
      obtain ⟨a1, a2⟩ := r3 x' y' hx' hy' hp'
      have hw' := hw8 x' y' hx' hy'
      rw [e6, upd_n (by omega)]
      refine ⟨a1, fun k hk => ?_⟩
      obtain ⟨f1, f2⟩ := far x' y' k hx' hy' (by omega) h
      obtain ⟨b1, b2⟩ := a2 k hk
      exact ⟨by rw [f1]; exact b1, fun s hs => by rw [f2 s hs]; exact b2 s hs⟩
  · have h : ¬ (x' = x ∧ y' = y) := fun z => hp (Or.inr z)
    have hp' : ¬ P x' y' := fun z => hp (Or.inl z)
    obtain ⟨a1, a2⟩ := r4 x' y' hx' hy' hp'
    rw [e6, upd_n (by omega)]
    refine ⟨a1, fun k hk => ?_⟩
    obtain ⟨f1, f2⟩ := far x' y' k hx' hy' hk h
    obtain ⟨b1, b2⟩ := a2 k hk
    exact ⟨by rw [f1]; exact b1, fun s hs => by rw [f2 s hs]; exact b2 s hs⟩
/-- a world raised -/
def RW (S T : St) : Prop := ∃ T1 R', RQ S T1 (nn S) (kst S (S 0 2)) (kcn S (S 0 2)) (nn S) (fun x y => x < nn S ∧ y < nn S) ∧ tellP (nn S) (S 0 2) (fun i => if i < 16 then S 11 i &&& kst S (S 0 2) else S 11 i) R' (orF (fun p => S 11 (p * 4 + p) &&& kst S (S 0 2)) (nn S)) (nn S) ∧ T = st (sr T1 11 R') 0 2 0
set_option maxHeartbeats 1000000 in
theorem c_X0_raiseAll {ks : List Nat} (hW : InW ks) {S : St} (hI : Inv S) : Cn ks mX0_raiseAll yX0_raiseAll [.inr 0] S (Gi (nI (fb_sm (fun q => rc S q - kcn S (S 0 2) q) (nn S))) (RW S)) := by
  refine cnV okX0_raiseAll 4 rfl ?_
  show Ev ks mX0_raiseAll 0 [some (.inr 0), none, none, none, none] [] S _
  have hI0 := hI
  obtain ⟨ihd, irc, iwr, ire, itk, ile, iin, ikn, ipa, ils, icl⟩ := hI
  have h4 := ihd.1.2.2
  have hn := ihd.1.1
  have hr : ∀ q, q < nn S → S 1 q = nI (rc S q) ∧ rc S q ≤ 8 := fun q hq => ⟨(irc q (by omega)).1, (irc q (by omega)).2.1⟩
  have hr' : ∀ q, q < nn S → S 1 q = nI (rc S q) := fun q hq => (hr q hq).1
  have hw8 : ∀ x y, x < 5 → y < 4 → wr S x y ≤ 8 := fun x y hx hy => (iwr x y hx hy).2.1
  have hkle : ∀ q, q < nn S → kcn S (S 0 2) q ≤ rc S q := fun q _ => (kcn_le hI0 _ q).1
  have hksd : mk (kf S (rc S) (thr S (nn S) (S 0 2))) (nn S * 8) = kst S (S 0 2) := rfl
  have hlost : fb_sm (rc S) (nn S) - pcn (kst S (S 0 2)) = fb_sm (fun q => rc S q - kcn S (S 0 2) q) (nn S) := by rw [kst_pcn hI0, sm_sub hkle]
  have hple : pcn (kst S (S 0 2)) ≤ fb_sm (rc S) (nn S) := by rw [kst_pcn hI0]; exact fb_sm_le hkle
  have hin : ∀ q, q < nn S → pcn (kst S (S 0 2) &&& (nI 255 <<< (nI (q * 8) &&& 31))) = kcn S (S 0 2) q := fun q hq => kst_in hI0 _ (by omega)
  unfold RW
  generalize hK : kcn S (S 0 2) = K at hlost hin hkle
  generalize hkk : kst S (S 0 2) = kk at hlost hple hin hksd
  generalize hlv : fb_sm (fun q => rc S q - K q) (nn S) = lost at hlost
  generalize hnv : nn S = n at *
  generalize hQ : (Gi (nI lost) (fun T => ∃ T1 R', RQ S T1 n kk K n (fun x y => x < n ∧ y < n) ∧ tellP n (S 0 2) (fun i => if i < 16 then S 11 i &&& kk else S 11 i) R' (orF (fun p => S 11 (p * 4 + p) &&& kk) n) n ∧ T = st (sr T1 11 R') 0 2 0)) = Q
  -- the last part
  have last : ∀ T1, RQ S T1 n kk K n (fun x y => x < n ∧ y < n) → ∀ f k v4, k + f = 16 → Ev ks mX0_raiseAll 70 [some (.inr 0), some (.inl kk), some (.inl (nI lost)), some (.inl (nI k)), v4] [] (sr T1 11 (fun i => if i < k then S 11 i &&& kk else S 11 i)) Q := by
    intro T1 hR f
    have t0 : T1 0 = S 0 := hR.1 0 (by decide) (by decide) (by decide) (by decide)
    have t11 : T1 11 = S 11 := hR.1 11 (by decide) (by decide) (by decide) (by decide)
    induction f with
    | zero =>
      intro k v4 hk
      obtain rfl : k = 16 := by omega
      have hn' : sr T1 11 (fun i => if i < 16 then S 11 i &&& kk else S 11 i) 0 0 = nI n := by show T1 0 0 = _; rw [t0]; exact hn
      refine ev_iload_n3 dX0_raiseAll_70 ?_
      refine ev_bipush (nI 16) kb_16 dX0_raiseAll_71 ?_
      first | refine ev_icmp_geN 92 (by omega) (by omega) (by decide) dX0_raiseAll_73 (fun h73 => ?_) (fun h73 => by exfalso; omega) | refine ev_icmp_ge 92 (by decide) dX0_raiseAll_73 (fun h73 => ?_) (fun h73 => by exfalso; omega)
      refine ev_aload_n0 dX0_raiseAll_92 ?_
      refine ev_cV0q okX0_tellTheRaised lkX0_158 (Nat.le_of_ble_eq_true rfl) (Nat.le_of_ble_eq_true rfl) (hW 0 rfl) isO_0 (c_X0_tellTheRaised hW hn' h4) dX0_raiseAll_93 (fun S93 hS93 => ?_)
      obtain ⟨R', rfl, hR'⟩ := hS93
      rw [sr_sr]
      refine ev_aload_n0 dX0_raiseAll_96 ?_
      refine ev_c0 dX0_raiseAll_97 ?_
      refine pfX0_56 rfl (hW 0 rfl) dX0_raiseAll_98 ?_
      refine ev_iload_n2 dX0_raiseAll_101 ?_
      refine ev_ireturn rfl dX0_raiseAll_102 ?_
      rw [← hQ]
      refine ⟨rfl, T1, R', hR, ?_, by rw [nI_0]⟩
      have e0 : sr T1 11 (fun i => if i < 16 then S 11 i &&& kk else S 11 i) 0 2 = S 0 2 := by show T1 0 2 = _; rw [t0]
      rw [e0, sr_s] at hR'
      have e1 : orF (fun p => (fun i => if i < 16 then S 11 i &&& kk else S 11 i) (p * 4 + p)) n = orF (fun p => S 11 (p * 4 + p) &&& kk) n := by
        have : ∀ m, m ≤ n → orF (fun p => (fun i => if i < 16 then S 11 i &&& kk else S 11 i) (p * 4 + p)) m = orF (fun p => S 11 (p * 4 + p) &&& kk) m := by
          intro m
          induction m with
          | zero => intro _; rfl
          | succ m ih => intro hm; rw [orF, orF, ih (by omega)]; congr 1; exact if_pos (by omega)
        exact this n (Nat.le_refl _)
      rw [e1] at hR'
      exact hR'
    | succ f ih =>
      intro k v4 hk
      have e1 : sr T1 11 (fun i => if i < k then S 11 i &&& kk else S 11 i) 11 k = S 11 k := by rw [sr_s, if_neg (by omega)]
      have e : upd (fun i => if i < k then S 11 i &&& kk else S 11 i) k (S 11 k &&& kk) = (fun i => if i < k + 1 then S 11 i &&& kk else S 11 i) := by
        funext i
        unfold upd
        by_cases h : i = k
        · rw [if_pos h, if_pos (by omega), h]
        · rw [if_neg h]
          try dsimp only
          by_cases h2 : i < k
          · rw [if_pos h2, if_pos (by omega)]
          · rw [if_neg h2, if_neg (by omega)]
      refine ev_iload_n3 dX0_raiseAll_70 ?_
      refine ev_bipush (nI 16) kb_16 dX0_raiseAll_71 ?_
      first | refine ev_icmp_geN 92 (by omega) (by omega) (by decide) dX0_raiseAll_73 (fun h73 => by exfalso; omega) (fun h73 => ?_) | refine ev_icmp_ge 92 (by decide) dX0_raiseAll_73 (fun h73 => by exfalso; omega) (fun h73 => ?_)
      refine ev_aload_n0 dX0_raiseAll_76 ?_
      refine gfX0_42 rfl (hW 0 rfl) dX0_raiseAll_77 ?_
      refine ev_iload_n3 dX0_raiseAll_80 ?_
      refine ev_dup2 dX0_raiseAll_81 ?_
      refine ev_iald 16 rfl rfl (hW 11 rfl) (by omega) dX0_raiseAll_82 ?_
      rw [e1]
      refine ev_iload_n1 dX0_raiseAll_83 ?_
      refine ev_iand dX0_raiseAll_84 ?_
      refine ev_iast 16 rfl rfl (hW 11 rfl) (by omega) dX0_raiseAll_85 ?_
      refine ev_iinc3 dX0_raiseAll_86 ?_
      refine ev_goto 70 (by decide) dX0_raiseAll_89 ?_
      rw [st_sr, e]
      exact ih (k + 1) _ (by omega)
  have outer : ∀ f q v4 T, q + f = n → RQ S T n kk K q (fun x y => x < n ∧ y < n ∧ x < q) → Ev ks mX0_raiseAll 17 [some (.inr 0), some (.inl kk), some (.inl (nI lost)), some (.inl (nI q)), v4] [] T Q := by
    intro f
    induction f with
    | zero =>
      intro q v4 T hq hR
      obtain rfl : q = n := by omega
      have t0 : T 0 0 = nI q := by rw [hR.1 0 (by decide) (by decide) (by decide) (by decide)]; exact hn
      have t11 : T 11 = S 11 := hR.1 11 (by decide) (by decide) (by decide) (by decide)
      refine ev_iload_n3 dX0_raiseAll_17 ?_
      refine ev_aload_n0 dX0_raiseAll_18 ?_
      refine gfX0_49 rfl (hW 0 rfl) dX0_raiseAll_19 ?_
      rw [t0]
      first | refine ev_icmp_geN 68 (by omega) (by omega) (by decide) dX0_raiseAll_22 (fun h22 => ?_) (fun h22 => by exfalso; omega) | refine ev_icmp_ge 68 (by decide) dX0_raiseAll_22 (fun h22 => ?_) (fun h22 => by exfalso; omega)
      refine ev_c0 dX0_raiseAll_68 ?_
      refine ev_istore_n3 dX0_raiseAll_69 ?_
      have h := last T (RQ_iff (fun x y _ _ => ⟨fun z => ⟨z.1, z.2.1⟩, fun z => ⟨z.1, z.2, z.1⟩⟩) hR) 16 0 v4 rfl
      have e : sr T 11 (fun i => if i < 0 then S 11 i &&& kk else S 11 i) = T := by
        have : (fun i => if i < 0 then S 11 i &&& kk else S 11 i) = T 11 := by rw [t11]; funext i; rw [if_neg (by omega)]
        rw [this, sr_self]
      rw [e] at h
      exact h
    | succ f ih =>
      intro q v4 T hq hR
      have t0 : T 0 0 = nI n := by rw [hR.1 0 (by decide) (by decide) (by decide) (by decide)]; exact hn
      have inner : ∀ z y T, y + z = n → RQ S T n kk K (q + 1) (fun x' y' => x' < n ∧ y' < n ∧ (x' < q ∨ (x' = q ∧ y' < y))) → Ev ks mX0_raiseAll 39 [some (.inr 0), some (.inl kk), some (.inl (nI lost)), some (.inl (nI q)), some (.inl (nI y))] [] T Q := by
        intro z
        induction z with
        | zero =>
          intro y T hy hR
          have t0 : T 0 0 = nI n := by rw [hR.1 0 (by decide) (by decide) (by decide) (by decide)]; exact hn
          refine ev_iload4 dX0_raiseAll_39 ?_
          refine ev_aload_n0 dX0_raiseAll_41 ?_
          refine gfX0_49 rfl (hW 0 rfl) dX0_raiseAll_42 ?_
          rw [t0]
          first | refine ev_icmp_geN 62 (by omega) (by omega) (by decide) dX0_raiseAll_45 (fun h45 => ?_) (fun h45 => by exfalso; omega) | refine ev_icmp_ge 62 (by decide) dX0_raiseAll_45 (fun h45 => ?_) (fun h45 => by exfalso; omega)
          refine ev_iinc3 dX0_raiseAll_62 ?_
          refine ev_goto 17 (by decide) dX0_raiseAll_65 ?_
          exact ih (q + 1) _ T (by omega) (RQ_iff (fun x' y' _ _ => by omega) hR)
        | succ z ih2 =>
          intro y T hy hR
          have t0 : T 0 0 = nI n := by rw [hR.1 0 (by decide) (by decide) (by decide) (by decide)]; exact hn
          have t8 : T 8 = S 8 := hR.1 8 (by decide) (by decide) (by decide) (by decide)
          have hnp : ¬ (q < n ∧ y < n ∧ (q < q ∨ (q = q ∧ y < y))) := by omega
          have hT6 : T 6 (q * 4 + y) = nI (wr S q y) := by rw [(hR.2.2.2 q y (by omega) (by omega) hnp).1]; exact (iwr q y (by omega) (by omega)).1
          have hb : ∀ k, k < wr S q y → ∃ b, b < 32 ∧ T 8 ((q * 4 + y) * 8 + k) = nI b := fun k hk => by
            rw [t8]
            obtain ⟨r, hr2, e⟩ := (ile q y k (by omega) (by omega) hk).2.2.1 (by omega)
            have := (irc q (by omega)).2.1
            exact ⟨q * 8 + r, by omega, e⟩
          refine ev_iload4 dX0_raiseAll_39 ?_
          refine ev_aload_n0 dX0_raiseAll_41 ?_
          refine gfX0_49 rfl (hW 0 rfl) dX0_raiseAll_42 ?_
          rw [t0]
          first | refine ev_icmp_geN 62 (by omega) (by omega) (by decide) dX0_raiseAll_45 (fun h45 => by exfalso; omega) (fun h45 => ?_) | refine ev_icmp_ge 62 (by decide) dX0_raiseAll_45 (fun h45 => by exfalso; omega) (fun h45 => ?_)
          refine ev_aload_n0 dX0_raiseAll_48 ?_
          refine ev_iload_n3 dX0_raiseAll_49 ?_
          refine ev_iload4 dX0_raiseAll_50 ?_
          refine ev_iload_n1 dX0_raiseAll_52 ?_
          refine ev_cV3v okX0_keepLettersOn lkX0_155 (Nat.le_of_ble_eq_true rfl) (Nat.le_of_ble_eq_true rfl) (hW 0 rfl) isO_0 (c_X0_keepLettersOn hW (by omega) (by omega) hT6 (hw8 q y (by omega) (by omega)) hb) dX0_raiseAll_53 ?_
          refine ev_iinc4 dX0_raiseAll_56 ?_
          refine ev_goto 39 (by decide) dX0_raiseAll_59 ?_
          refine ih2 (y + 1) _ (by omega) (RQ_iff (fun x' y' _ _ => ?_) (RQ_step (by omega) (by omega) hw8 hnp hR))
          omega
      have hst : RQ S (st T 1 q (nI (K q))) n kk K (q + 1) (fun x' y' => x' < n ∧ y' < n ∧ (x' < q ∨ (x' = q ∧ y' < 0))) := by
        obtain ⟨r1, r2, r3, r4⟩ := RQ_iff (P' := fun x' y' => x' < n ∧ y' < n ∧ (x' < q ∨ (x' = q ∧ y' < 0))) (fun x' y' _ _ => by omega) hR
        refine ⟨fun k h1 h2 h3 h5 => ?_, fun i hi => ?_, r3, r4⟩
        · rw [st_n, sr_n h1]; exact r1 k h1 h2 h3 h5
        · rw [st_n, sr_s]
          by_cases h : i = q
          · rw [h, upd_s, if_pos (by omega)]
          · rw [upd_n h, r2 i hi]
            by_cases h2 : i < q
            · rw [if_pos h2, if_pos (by omega)]
            · rw [if_neg h2, if_neg (by omega)]
      refine ev_iload_n3 dX0_raiseAll_17 ?_
      refine ev_aload_n0 dX0_raiseAll_18 ?_
      refine gfX0_49 rfl (hW 0 rfl) dX0_raiseAll_19 ?_
      rw [t0]
      first | refine ev_icmp_geN 68 (by omega) (by omega) (by decide) dX0_raiseAll_22 (fun h22 => by exfalso; omega) (fun h22 => ?_) | refine ev_icmp_ge 68 (by decide) dX0_raiseAll_22 (fun h22 => by exfalso; omega) (fun h22 => ?_)
      refine ev_aload_n0 dX0_raiseAll_25 ?_
      refine gfX0_9 rfl (hW 0 rfl) dX0_raiseAll_26 ?_
      refine ev_iload_n3 dX0_raiseAll_29 ?_
      refine ev_iload_n1 dX0_raiseAll_30 ?_
      refine ev_iload_n3 dX0_raiseAll_31 ?_
      refine ev_cS2f okX0_receiptsIn lkX0_146 (Nat.le_of_ble_eq_true rfl) (Nat.le_of_ble_eq_true rfl) c_X0_receiptsIn dX0_raiseAll_32 ?_
      rw [hin q (by omega)]
      refine ev_iast 4 rfl rfl (hW 1 rfl) (by omega) dX0_raiseAll_35 ?_
      refine ev_c0 dX0_raiseAll_36 ?_
      refine ev_istore4 dX0_raiseAll_37 ?_
      exact inner n 0 _ (by omega) hst
  refine ev_aload_n0 dX0_raiseAll_0 ?_
  refine ev_aload_n0 dX0_raiseAll_1 ?_
  refine gfX0_56 rfl (hW 0 rfl) dX0_raiseAll_2 ?_
  refine ev_cV1f okX0_keptIfDown lkX0_149 (Nat.le_of_ble_eq_true rfl) (Nat.le_of_ble_eq_true rfl) (hW 0 rfl) isO_0 (c_X0_keptIfDown hW hn h4 hr) dX0_raiseAll_5 ?_
  rw [hksd]
  refine ev_istore_n1 dX0_raiseAll_8 ?_
  refine ev_aload_n0 dX0_raiseAll_9 ?_
  refine ev_iload_n1 dX0_raiseAll_10 ?_
  refine ev_cV1f okX0_lostBut lkX0_152 (Nat.le_of_ble_eq_true rfl) (Nat.le_of_ble_eq_true rfl) (hW 0 rfl) isO_0 (c_X0_lostBut hW hn h4 hr' hple) dX0_raiseAll_11 ?_
  rw [hlost]
  refine ev_istore_n2 dX0_raiseAll_14 ?_
  refine ev_c0 dX0_raiseAll_15 ?_
  refine ev_istore_n3 dX0_raiseAll_16 ?_
  refine outer n 0 none S (by omega) ⟨fun k _ _ _ _ => rfl, fun i _ => by rw [if_neg (by omega)], fun x y _ _ h => by omega, fun x y _ _ _ => ⟨rfl, fun k _ => ⟨rfl, fun s _ => rfl⟩⟩⟩
