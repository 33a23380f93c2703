theorem or_assoc32 (a b c : Int32) : (a ||| b) ||| c = a ||| (b ||| c) := b_ext fun i _ => by rw [b_or, b_or, b_or, b_or, Bool.or_assoc]
/-- codes that are lost are held by none -/
def rmL (m : Nat → Int32) (q : Nat) (codes : Int32) : Nat → Nat → Int32
  | 0 => m
  | c + 1 => if bt (rmL m q codes c (103 + q)) c = true ∧ bt codes c = false then knowR (rmL m q codes c) q c 0 else rmL m q codes c
def raI (m : Nat → Int32) (D : Int32) (c : Nat) (sites : Int32) : Nat → Nat → Int32
  | 0 => m
  | q + 1 => if bt D q = true then knowR (raI m D c sites q) q c sites else raI m D c sites q
def raO (m : Nat → Int32) (n : Nat) (D held : Int32) : Nat → Nat → Int32
  | 0 => m
  | c + 1 => if bt held c = true then raI (raO m n D held c) D c (D ||| mk (fun q => bt (raO m n D held c (103 + q)) c) n) n else raO m n D held c
theorem c_X2_raiseAll {ks : List Nat} (hM : InM ks) {S : St} {n : Nat} {D held : Int32} (hn : S 104 0 = nI n) (h4 : n ≤ 4) : Cn ks mX2_raiseAll yX2_raiseAll [.inr 103, .inl D, .inl held] S (Rv (sr S 104 (raO (S 104) n D held 32))) := by
  refine cnV okX2_raiseAll 3 rfl ?_
  show Ev ks mX2_raiseAll 0 [some (.inr 103), some (.inl D), some (.inl held), none, none, none] [] S _
  have raI_0 : ∀ m c s k, k ≤ 4 → c < 32 → raI m D c s k 0 = m 0 := fun m c s k => by
    induction k with
    | zero => intro _ _; rfl
    | succ k ih =>
      intro hk hc
      rw [raI]
      split
      · rw [know_o _ (by omega) hc (by omega)]; exact ih (by omega) hc
      · exact ih (by omega) hc
  have raO_0 : ∀ k, k ≤ 32 → raO (S 104) n D held k 0 = nI n := fun k => by
    induction k with
    | zero => intro _; exact hn
    | succ k ih =>
      intro hk
      rw [raO]
      split
      · rw [raI_0 _ _ _ _ h4 (by omega)]; exact ih (by omega)
      · exact ih (by omega)
  have loop : ∀ f c v4 v5, c + f = 32 → Ev ks mX2_raiseAll 2 [some (.inr 103), some (.inl D), some (.inl held), some (.inl (nI c)), v4, v5] [] (sr S 104 (raO (S 104) n D held c)) (Rv (sr S 104 (raO (S 104) n D held 32))) := by
    intro f
    induction f with
    | zero =>
      intro c v4 v5 hc
      obtain rfl : c = 32 := by omega
      refine ev_iload_n3 dX2_raiseAll_2 ?_
      refine ev_bipush (nI 32) kb_32 dX2_raiseAll_3 ?_
      first | refine ev_icmp_geN 109 (by omega) (by omega) (by decide) dX2_raiseAll_5 (fun h5 => ?_) (fun h5 => by exfalso; omega) | refine ev_icmp_ge 109 (by decide) dX2_raiseAll_5 (fun h5 => ?_) (fun h5 => by exfalso; omega)
      refine ev_return rfl dX2_raiseAll_109 ?_
      exact ⟨rfl, rfl⟩
    | succ f ih =>
      intro c v4 v5 hc
      have hO0 := raO_0 c (by omega)
      have hO1 : raO (S 104) n D held (c + 1) = if bt held c = true then raI (raO (S 104) n D held c) D c (D ||| mk (fun q => bt (raO (S 104) n D held c (103 + q)) c) n) n else raO (S 104) n D held c := rfl
      generalize hm : raO (S 104) n D held c = m at hO0 hO1
      have hn' : ∀ R, R 0 = nI n → sr S 104 R 104 0 = nI n := fun R h => by rw [sr_s]; exact h
      have second : ∀ z q s, bt held c = true → s = D ||| mk (fun q => bt (m (103 + q)) c) n → q + z = n → Ev ks mX2_raiseAll 62 [some (.inr 103), some (.inl D), some (.inl held), some (.inl (nI c)), some (.inl s), some (.inl (nI q))] [] (sr S 104 (raI m D c s q)) (Rv (sr S 104 (raO (S 104) n D held 32))) := by
        intro z
        induction z with
        | zero =>
          intro q s hh hs hq
          obtain rfl : q = n := by omega
          have hnn := hn' (raI m D c s q) (by rw [raI_0 _ _ _ _ h4 (by omega)]; exact hO0)
          refine ev_iload5 dX2_raiseAll_62 ?_
          refine ev_aload_n0 dX2_raiseAll_64 ?_
          refine ev_cV0f okX2_many lkX2_82 (Nat.le_of_ble_eq_true rfl) (Nat.le_of_ble_eq_true rfl) (hM 103 rfl) isO_103 (c_X2_many hM hnn) dX2_raiseAll_65 ?_
          first | refine ev_icmp_geN 103 (by omega) (by omega) (by decide) dX2_raiseAll_68 (fun h68 => ?_) (fun h68 => by exfalso; omega) | refine ev_icmp_ge 103 (by decide) dX2_raiseAll_68 (fun h68 => ?_) (fun h68 => by exfalso; omega)
          refine ev_iinc3 dX2_raiseAll_103 ?_
          refine ev_goto 2 (by decide) dX2_raiseAll_106 ?_
          rw [if_pos hh, ← hs] at hO1
          rw [← hO1]
          exact ih (c + 1) _ _ (by omega)
        | succ z ih2 =>
          intro q s hh hs hq
          have hnn := hn' (raI m D c s q) (by rw [raI_0 _ _ _ _ (by omega) (by omega)]; exact hO0)
          have hs1 : raI m D c s (q + 1) = if bt D q = true then knowR (raI m D c s q) q c s else raI m D c s q := rfl
          refine ev_iload5 dX2_raiseAll_62 ?_
          refine ev_aload_n0 dX2_raiseAll_64 ?_
          refine ev_cV0f okX2_many lkX2_82 (Nat.le_of_ble_eq_true rfl) (Nat.le_of_ble_eq_true rfl) (hM 103 rfl) isO_103 (c_X2_many hM hnn) dX2_raiseAll_65 ?_
          first | refine ev_icmp_geN 103 (by omega) (by omega) (by decide) dX2_raiseAll_68 (fun h68 => by exfalso; omega) (fun h68 => ?_) | refine ev_icmp_ge 103 (by decide) dX2_raiseAll_68 (fun h68 => by exfalso; omega) (fun h68 => ?_)
          refine ev_iload_n2 dX2_raiseAll_71 ?_
          refine ev_iload_n3 dX2_raiseAll_72 ?_
          refine ev_cS2f okX2_has lkX2_39 (Nat.le_of_ble_eq_true rfl) (Nat.le_of_ble_eq_true rfl) (c_X2_has (by omega)) dX2_raiseAll_73 ?_
          first | refine ev_if_eqB 103 (by decide) dX2_raiseAll_76 (fun h76 => by rw [hh] at h76; cases h76) (fun h76 => ?_)
          refine ev_iload_n1 dX2_raiseAll_79 ?_
          refine ev_iload5 dX2_raiseAll_80 ?_
          refine ev_cS2f okX2_has lkX2_39 (Nat.le_of_ble_eq_true rfl) (Nat.le_of_ble_eq_true rfl) (c_X2_has (by omega)) dX2_raiseAll_82 ?_
          first | refine ev_if_eqB 97 (by decide) dX2_raiseAll_85 (fun h85 => ?_) (fun h85 => ?_)
          · refine ev_iinc5 dX2_raiseAll_97 ?_
            refine ev_goto 62 (by decide) dX2_raiseAll_100 ?_
            first | rw [if_pos h85] at hs1 | rw [if_neg (by rw [h85]; decide)] at hs1
            first | rw [sr_sr, sr_s, ← hs1] | rw [← hs1]
            exact ih2 (q + 1) s hh hs (by omega)
          · refine ev_aload_n0 dX2_raiseAll_88 ?_
            refine ev_iload5 dX2_raiseAll_89 ?_
            refine ev_iload_n3 dX2_raiseAll_91 ?_
            refine ev_iload4 dX2_raiseAll_92 ?_
            refine ev_cV3v okX2_know lkX2_102 (Nat.le_of_ble_eq_true rfl) (Nat.le_of_ble_eq_true rfl) (hM 103 rfl) isO_103 (c_X2_know hM (by omega) (by omega)) dX2_raiseAll_94 ?_
            refine ev_iinc5 dX2_raiseAll_97 ?_
            refine ev_goto 62 (by decide) dX2_raiseAll_100 ?_
            first | rw [if_pos h85] at hs1 | rw [if_neg (by rw [h85]; decide)] at hs1
            first | rw [sr_sr, sr_s, ← hs1] | rw [← hs1]
            exact ih2 (q + 1) s hh hs (by omega)
      have third : ∀ s, bt held c = false → Ev ks mX2_raiseAll 62 [some (.inr 103), some (.inl D), some (.inl held), some (.inl (nI c)), some (.inl s), some (.inl (nI 0))] [] (sr S 104 m) (Rv (sr S 104 (raO (S 104) n D held 32))) := by
        intro s hh
        have hnn := hn' m hO0
        rw [if_neg (by rw [hh]; decide)] at hO1
        refine ev_iload5 dX2_raiseAll_62 ?_
        refine ev_aload_n0 dX2_raiseAll_64 ?_
        refine ev_cV0f okX2_many lkX2_82 (Nat.le_of_ble_eq_true rfl) (Nat.le_of_ble_eq_true rfl) (hM 103 rfl) isO_103 (c_X2_many hM hnn) dX2_raiseAll_65 ?_
        first | refine ev_icmp_geN 103 (by omega) (by omega) (by decide) dX2_raiseAll_68 (fun h68 => ?_) (fun h68 => ?_) | refine ev_icmp_ge 103 (by decide) dX2_raiseAll_68 (fun h68 => ?_) (fun h68 => ?_)
        · refine ev_iinc3 dX2_raiseAll_103 ?_
          refine ev_goto 2 (by decide) dX2_raiseAll_106 ?_
          rw [← hO1]
          exact ih (c + 1) _ _ (by omega)
        · refine ev_iload_n2 dX2_raiseAll_71 ?_
          refine ev_iload_n3 dX2_raiseAll_72 ?_
          refine ev_cS2f okX2_has lkX2_39 (Nat.le_of_ble_eq_true rfl) (Nat.le_of_ble_eq_true rfl) (c_X2_has (by omega)) dX2_raiseAll_73 ?_
          first | refine ev_if_eqB 103 (by decide) dX2_raiseAll_76 (fun h76 => ?_) (fun h76 => by rw [hh] at h76; cases h76)
          refine ev_iinc3 dX2_raiseAll_103 ?_
          refine ev_goto 2 (by decide) dX2_raiseAll_106 ?_
          rw [← hO1]
          exact ih (c + 1) _ _ (by omega)
      have firstL : ∀ z q, q + z = n → Ev ks mX2_raiseAll 14 [some (.inr 103), some (.inl D), some (.inl held), some (.inl (nI c)), some (.inl (D ||| mk (fun q => bt (m (103 + q)) c) q)), some (.inl (nI q))] [] (sr S 104 m) (Rv (sr S 104 (raO (S 104) n D held 32))) := by
        intro z
        have hnn := hn' m hO0
        induction z with
        | zero =>
          intro q hq
          obtain rfl : q = n := by omega
          by_cases hh : bt held c = true
          · refine ev_iload5 dX2_raiseAll_14 ?_
            refine ev_aload_n0 dX2_raiseAll_16 ?_
            refine ev_cV0f okX2_many lkX2_82 (Nat.le_of_ble_eq_true rfl) (Nat.le_of_ble_eq_true rfl) (hM 103 rfl) isO_103 (c_X2_many hM hnn) dX2_raiseAll_17 ?_
            first | refine ev_icmp_geN 59 (by omega) (by omega) (by decide) dX2_raiseAll_20 (fun h20 => ?_) (fun h20 => by exfalso; omega) | refine ev_icmp_ge 59 (by decide) dX2_raiseAll_20 (fun h20 => ?_) (fun h20 => by exfalso; omega)
            refine ev_c0 dX2_raiseAll_59 ?_
            refine ev_istore5 dX2_raiseAll_60 ?_
            exact second q 0 _ hh rfl (by omega)
          · refine ev_iload5 dX2_raiseAll_14 ?_
            refine ev_aload_n0 dX2_raiseAll_16 ?_
            refine ev_cV0f okX2_many lkX2_82 (Nat.le_of_ble_eq_true rfl) (Nat.le_of_ble_eq_true rfl) (hM 103 rfl) isO_103 (c_X2_many hM hnn) dX2_raiseAll_17 ?_
            first | refine ev_icmp_geN 59 (by omega) (by omega) (by decide) dX2_raiseAll_20 (fun h20 => ?_) (fun h20 => by exfalso; omega) | refine ev_icmp_ge 59 (by decide) dX2_raiseAll_20 (fun h20 => ?_) (fun h20 => by exfalso; omega)
            refine ev_c0 dX2_raiseAll_59 ?_
            refine ev_istore5 dX2_raiseAll_60 ?_
            exact third _ (by simpa using hh)
        | succ z ih2 =>
          intro q hq
          have e1 : sr S 104 m 104 (103 + q) = m (103 + q) := by rw [sr_s]
          have e : mk (fun q => bt (m (103 + q)) c) (q + 1) = mk (fun q => bt (m (103 + q)) c) q ||| (bif bt (m (103 + q)) c then (1 : Int32) <<< (nI q &&& 31) else 0) := rfl
          refine ev_iload5 dX2_raiseAll_14 ?_
          refine ev_aload_n0 dX2_raiseAll_16 ?_
          refine ev_cV0f okX2_many lkX2_82 (Nat.le_of_ble_eq_true rfl) (Nat.le_of_ble_eq_true rfl) (hM 103 rfl) isO_103 (c_X2_many hM hnn) dX2_raiseAll_17 ?_
          first | refine ev_icmp_geN 59 (by omega) (by omega) (by decide) dX2_raiseAll_20 (fun h20 => by exfalso; omega) (fun h20 => ?_) | refine ev_icmp_ge 59 (by decide) dX2_raiseAll_20 (fun h20 => by exfalso; omega) (fun h20 => ?_)
          refine ev_iload4 dX2_raiseAll_23 ?_
          refine ev_aload_n0 dX2_raiseAll_25 ?_
          refine gfX2_7 rfl (hM 103 rfl) dX2_raiseAll_26 ?_
          refine ev_bipush (nI 103) kb_103 dX2_raiseAll_29 ?_
          refine ev_iload5 dX2_raiseAll_31 ?_
          first | refine ev_iaddN dX2_raiseAll_33 ?_ | refine ev_iadd dX2_raiseAll_33 ?_
          refine ev_iald 1263 rfl rfl (hM 104 rfl) (by omega) dX2_raiseAll_34 ?_
          rw [e1]
          refine ev_iload_n3 dX2_raiseAll_35 ?_
          refine ev_cS2f okX2_has lkX2_39 (Nat.le_of_ble_eq_true rfl) (Nat.le_of_ble_eq_true rfl) (c_X2_has (by omega)) dX2_raiseAll_36 ?_
          first | refine ev_if_eqB 49 (by decide) dX2_raiseAll_39 (fun h39 => ?_) (fun h39 => ?_)
          · refine ev_c0 dX2_raiseAll_49 ?_
            refine ev_ior dX2_raiseAll_50 ?_
            refine ev_istore4 dX2_raiseAll_51 ?_
            refine ev_iinc5 dX2_raiseAll_53 ?_
            refine ev_goto 14 (by decide) dX2_raiseAll_56 ?_
            rw [h39] at e
            simp only [cond_true, cond_false] at e
            first | rw [nI_lit1, or_assoc32, ← e] | rw [nI_0, or_assoc32, ← e]
            exact ih2 (q + 1) (by omega)
          · refine ev_c1 dX2_raiseAll_42 ?_
            refine ev_iload5 dX2_raiseAll_43 ?_
            refine ev_ishl dX2_raiseAll_45 ?_
            refine ev_goto 50 (by decide) dX2_raiseAll_46 ?_
            refine ev_ior dX2_raiseAll_50 ?_
            refine ev_istore4 dX2_raiseAll_51 ?_
            refine ev_iinc5 dX2_raiseAll_53 ?_
            refine ev_goto 14 (by decide) dX2_raiseAll_56 ?_
            rw [h39] at e
            simp only [cond_true, cond_false] at e
            first | rw [nI_lit1, or_assoc32, ← e] | rw [nI_0, or_assoc32, ← e]
            exact ih2 (q + 1) (by omega)
      refine ev_iload_n3 dX2_raiseAll_2 ?_
      refine ev_bipush (nI 32) kb_32 dX2_raiseAll_3 ?_
      first | refine ev_icmp_geN 109 (by omega) (by omega) (by decide) dX2_raiseAll_5 (fun h5 => by exfalso; omega) (fun h5 => ?_) | refine ev_icmp_ge 109 (by decide) dX2_raiseAll_5 (fun h5 => by exfalso; omega) (fun h5 => ?_)
      refine ev_iload_n1 dX2_raiseAll_8 ?_
      refine ev_istore4 dX2_raiseAll_9 ?_
      refine ev_c0 dX2_raiseAll_11 ?_
      refine ev_istore5 dX2_raiseAll_12 ?_
      have h := firstL n 0 (by omega)
      have e : D ||| mk (fun q => bt (m (103 + q)) c) 0 = D := or_zero D
      rw [e] at h
      exact h
  refine ev_c0 dX2_raiseAll_0 ?_
  refine ev_istore_n3 dX2_raiseAll_1 ?_
  have h := loop 32 0 none none rfl
  rw [show raO (S 104) n D held 0 = S 104 from rfl, sr_self] at h
  exact h
/-- a letter's place in the reference's row -/
abbrev lat (x y k : Nat) : Nat := 143 + 7 * (8 * (4 * x + y) + k)
/-- letters of a way that are left, from the first one on -/
def lfm (m : Nat → Int32) (K : Nat → Nat) (x y L : Nat) : Nat := lead (fun k => kbB K (m (lat x y k + 1))) L
def dlR (m : Nat → Int32) (x y j : Nat) (codes : Int32) : Nat → Int32 := fun i => if 143 + 7 * (8 * (4 * x + y)) + 2 ≤ i ∧ (i - (143 + 7 * (8 * (4 * x + y)) + 2)) % 7 = 0 ∧ (i - (143 + 7 * (8 * (4 * x + y)) + 2)) / 7 < j then m i &&& codes else m i
theorem dlR_s (m : Nat → Int32) (x y j : Nat) (codes : Int32) : upd (dlR m x y j codes) (lat x y j + 2) (m (lat x y j + 2) &&& codes) = dlR m x y (j + 1) codes := by
  funext i
  unfold upd dlR lat
  by_cases h : i = 143 + 7 * (8 * (4 * x + y) + j) + 2
  · rw [if_pos h, if_pos (by omega), h]
  · rw [if_neg h]
    by_cases h2 : 143 + 7 * (8 * (4 * x + y)) + 2 ≤ i ∧ (i - (143 + 7 * (8 * (4 * x + y)) + 2)) % 7 = 0 ∧ (i - (143 + 7 * (8 * (4 * x + y)) + 2)) / 7 < j
    · rw [if_pos h2, if_pos (by omega)]
    · rw [if_neg h2, if_neg (by omega)]
theorem dlR_0 (m : Nat → Int32) (x y : Nat) (codes : Int32) : dlR m x y 0 codes = m := by
  funext i
  unfold dlR
  rw [if_neg (by omega)]
theorem dlR_in (m : Nat → Int32) {x y j k : Nat} (codes : Int32) (h : k < j) : dlR m x y j codes (lat x y k + 2) = m (lat x y k + 2) &&& codes := by
  unfold dlR lat
  rw [if_pos (by omega)]
theorem dlR_o (m : Nat → Int32) {x y j i : Nat} (codes : Int32) (h : ∀ k, k < j → i ≠ lat x y k + 2) : dlR m x y j codes i = m i := by
  unfold dlR
  refine if_neg (fun z => ?_)
  have := h ((i - (143 + 7 * (8 * (4 * x + y)) + 2)) / 7) z.2.2
  unfold lat at this
  omega
/-- the reference's row while letters are sorted out -/
def DQ (m m' : Nat → Int32) (codes : Int32) (L : Nat → Nat → Nat) (K : Nat → Nat) (P : Nat → Nat → Prop) : Prop := (∀ i, i < 123 → m' i = m i) ∧ (∀ x y k j, x < 5 → y < 4 → k < 8 → j < 7 → j ≠ 2 → m' (lat x y k + j) = m (lat x y k + j)) ∧ (∀ x y, x < 5 → y < 4 → P x y → m' (123 + (4 * x + y)) = nI (lfm m K x y (L x y)) ∧ ∀ k, k < lfm m K x y (L x y) → m' (lat x y k + 2) = m (lat x y k + 2) &&& codes) ∧ (∀ x y, x < 5 → y < 4 → ¬ P x y → m' (123 + (4 * x + y)) = m (123 + (4 * x + y)) ∧ ∀ k, k < 8 → m' (lat x y k + 2) = m (lat x y k + 2))
theorem DQ_iff {m m' : Nat → Int32} {codes : Int32} {L : Nat → Nat → Nat} {K : Nat → Nat} {P P' : Nat → Nat → Prop} (h : ∀ x y, x < 5 → y < 4 → (P x y ↔ P' x y)) (hR : DQ m m' codes L K P) : DQ m m' codes L K P' := ⟨hR.1, hR.2.1, fun x y hx hy hp => hR.2.2.1 x y hx hy ((h x y hx hy).mpr hp), fun x y hx hy hp => hR.2.2.2 x y hx hy (fun z => hp ((h x y hx hy).mp z))⟩
theorem DQ_step {m m' : Nat → Int32} {codes : Int32} {L : Nat → Nat → Nat} {K : Nat → Nat} {P : Nat → Nat → Prop} {x y : Nat} (hx : x < 5) (hy : y < 4) (hL8 : ∀ x y, x < 5 → y < 4 → L x y ≤ 8) (hnp : ¬ P x y) (hR : DQ m m' codes L K P) : DQ m (upd (dlR m' x y (lfm m K x y (L x y)) codes) (123 + (4 * x + y)) (nI (lfm m K x y (L x y)))) codes L K (fun x' y' => P x' y' ∨ (x' = x ∧ y' = y)) := by
  obtain ⟨r1, r2, r3, r4⟩ := hR
  have hl8 : lfm m K x y (L x y) ≤ 8 := Nat.le_trans (lead_le _ _) (hL8 x y hx hy)
  obtain ⟨o1, o2⟩ := r4 x y hx hy hnp
  generalize hlf : lfm m K x y (L x y) = lf at hl8
  refine ⟨fun i hi => ?_, fun x' y' k j hx' hy' hk hj hj2 => ?_, fun x' y' hx' hy' hp => ?_, fun x' y' hx' hy' hp => ?_⟩
  · rw [upd_n (by omega), dlR_o _ _ (fun k hk => by unfold lat; omega)]
    exact r1 i hi
  · rw [upd_n (by unfold lat; omega), dlR_o _ _ (fun k' hk' => by unfold lat; omega)]
    exact r2 x' y' k j hx' hy' hk hj hj2
  · by_cases h : x' = x ∧ y' = y
    · obtain ⟨rfl, rfl⟩ := h
      rw [hlf, upd_s]
      refine ⟨rfl, fun k hk => ?_⟩
      rw [upd_n (by unfold lat; omega), dlR_in _ _ hk, o2 k (by omega)]
    · obtain ⟨a1, a2⟩ := r3 x' y' hx' hy' (hp.resolve_right h)
      have hl8' : lfm m K x' y' (L x' y') ≤ 8 := Nat.le_trans (lead_le _ _) (hL8 x' y' hx' hy')
      rw [upd_n (by omega), dlR_o _ _ (fun k hk => by unfold lat; omega)]
      refine ⟨a1, fun k hk => ?_⟩
      rw [upd_n (by unfold lat; omega), dlR_o _ _ (fun k' hk' => by unfold lat; omega)]
      exact a2 k hk
  · have h : ¬ (x' = x ∧ y' = y) := fun z => hp (Or.inr z)
    obtain ⟨a1, a2⟩ := r4 x' y' hx' hy' (fun z => hp (Or.inl z))
    rw [upd_n (by omega), dlR_o _ _ (fun k hk => by unfold lat; omega)]
    refine ⟨a1, fun k hk => ?_⟩
    rw [upd_n (by unfold lat; omega), dlR_o _ _ (fun k' hk' => by unfold lat; omega)]
    exact a2 k hk
set_option maxHeartbeats 1000000 in
theorem c_X2_dropLetters {ks : List Nat} (hM : InM ks) {S : St} {n : Nat} {codes : Int32} {L : Nat → Nat → Nat} {K : Nat → Nat} (hn : S 104 0 = nI n) (h4 : n ≤ 4) (hK : ∀ q, q < 4 → S 110 q = nI (K q) ∧ K q ≤ 8) (hL : ∀ x y, x < 5 → y < 4 → S 104 (123 + (4 * x + y)) = nI (L x y) ∧ L x y ≤ 8) (hb : ∀ x y k, x < n → y < n → k < L x y → S 104 (lat x y k + 1) = -9 ∨ ∃ b, b < 32 ∧ S 104 (lat x y k + 1) = nI b) : Cn ks mX2_dropLetters yX2_dropLetters [.inr 103, .inl codes] S (Gv (fun S' => ∃ m', S' = sr S 104 m' ∧ DQ (S 104) m' codes L K (fun x y => x < n ∧ y < n))) := by
  refine cnV okX2_dropLetters 3 rfl ?_
  show Ev ks mX2_dropLetters 0 [some (.inr 103), some (.inl codes), none, none, none] [] S _
  have hL8 : ∀ x y, x < 5 → y < 4 → L x y ≤ 8 := fun x y hx hy => (hL x y hx hy).2
  generalize hQ : (Gv (fun S' => ∃ m', S' = sr S 104 m' ∧ DQ (S 104) m' codes L K (fun x y => x < n ∧ y < n))) = Q
  have hK' : ∀ R q, q < 4 → sr S 104 R 110 q = nI (K q) ∧ K q ≤ 8 := fun R q hq => hK q hq
  have rows : ∀ x y m', x < n → y < n → DQ (S 104) m' codes L K (fun x' y' => x' < n ∧ y' < n ∧ (x' < x ∨ (x' = x ∧ y' < y))) → (∀ v m2, DQ (S 104) m2 codes L K (fun x' y' => x' < n ∧ y' < n ∧ (x' < x ∨ (x' = x ∧ y' < y + 1))) → Ev ks mX2_dropLetters 12 [some (.inr 103), some (.inl codes), some (.inl (nI x)), some (.inl (nI (y + 1))), v] [] (sr S 104 m2) Q) →
      ∀ z k, k + z = L x y → ldF (fun k => kbB K (S 104 (lat x y k + 1))) z k = lfm (S 104) K x y (L x y) → Ev ks mX2_dropLetters 23 [some (.inr 103), some (.inl codes), some (.inl (nI x)), some (.inl (nI y)), some (.inl (nI k))] [] (sr S 104 (dlR m' x y k codes)) Q := by
    intro x y m' hx hy hR hnext z
    have hnp : ¬ (x < n ∧ y < n ∧ (x < x ∨ (x = x ∧ y < y))) := by omega
    obtain ⟨o1, o2⟩ := hR.2.2.2 x y (by omega) (by omega) hnp
    have hl8 := hL8 x y (by omega) (by omega)
    have h123 : ∀ j, dlR m' x y j codes (123 + (4 * x + y)) = nI (L x y) := fun j => by
      rw [dlR_o _ _ (fun k hk => by unfold lat; omega), o1]; exact (hL x y (by omega) (by omega)).1
    have fin : ∀ k, k = lfm (S 104) K x y (L x y) → Ev ks mX2_dropLetters 79 [some (.inr 103), some (.inl codes), some (.inl (nI x)), some (.inl (nI y)), some (.inl (nI k))] [] (sr S 104 (dlR m' x y k codes)) Q := by
      intro k hk
      have hstep := DQ_step (by omega) (by omega) hL8 hnp hR
      rw [← hk] at hstep
      refine ev_aload_n0 dX2_dropLetters_79 ?_
      refine gfX2_7 rfl (hM 103 rfl) dX2_dropLetters_80 ?_
      refine ev_bipush (nI 123) kb_123 dX2_dropLetters_83 ?_
      refine ev_iload_n2 dX2_dropLetters_85 ?_
      refine ev_iload_n3 dX2_dropLetters_86 ?_
      refine ev_cS2f okX2_way lkX2_55 (Nat.le_of_ble_eq_true rfl) (Nat.le_of_ble_eq_true rfl) c_X2_way dX2_dropLetters_87 ?_
      first | refine ev_iaddN dX2_dropLetters_90 ?_ | refine ev_iadd dX2_dropLetters_90 ?_
      refine ev_iload4 dX2_dropLetters_91 ?_
      refine ev_iast 1263 rfl rfl (hM 104 rfl) (by omega) dX2_dropLetters_93 ?_
      refine ev_iinc3 dX2_dropLetters_94 ?_
      refine ev_goto 12 (by decide) dX2_dropLetters_97 ?_
      rw [st_sr]
      exact hnext _ _ (DQ_iff (fun x' y' _ _ => by omega) hstep)
    induction z with
    | zero =>
      intro k hk hl
      have e1 : sr S 104 (dlR m' x y k codes) 104 (123 + (4 * x + y)) = nI (L x y) := by rw [sr_s]; exact h123 k
      refine ev_iload4 dX2_dropLetters_23 ?_
      refine ev_aload_n0 dX2_dropLetters_25 ?_
      refine ev_iload_n2 dX2_dropLetters_26 ?_
      refine ev_iload_n3 dX2_dropLetters_27 ?_
      refine ev_cV2f okX2_letters lkX2_62 (Nat.le_of_ble_eq_true rfl) (Nat.le_of_ble_eq_true rfl) (hM 103 rfl) isO_103 (c_X2_letters hM (by omega) (by omega)) dX2_dropLetters_28 ?_
      rw [e1]
      first | refine ev_icmp_geN 79 (by omega) (by omega) (by decide) dX2_dropLetters_31 (fun h31 => ?_) (fun h31 => by exfalso; omega) | refine ev_icmp_ge 79 (by decide) dX2_dropLetters_31 (fun h31 => ?_) (fun h31 => by exfalso; omega)
      exact fin k hl
    | succ z ih =>
      intro k hk hl
      rw [ldF] at hl
      have e1 : sr S 104 (dlR m' x y k codes) 104 (123 + (4 * x + y)) = nI (L x y) := by rw [sr_s]; exact h123 k
      have e2 : sr S 104 (dlR m' x y k codes) 104 (143 + 7 * (8 * (4 * x + y) + k) + 1) = S 104 (lat x y k + 1) := by
        rw [sr_s, dlR_o _ _ (fun k' hk' => by unfold lat; omega)]
        exact hR.2.1 x y k 1 (by omega) (by omega) (by omega) (by omega) (by omega)
      have e3 : sr S 104 (dlR m' x y k codes) 104 (143 + 7 * (8 * (4 * x + y) + k) + 2) = m' (lat x y k + 2) := by
        rw [sr_s, dlR_o _ _ (fun k' hk' => by unfold lat; omega)]
      refine ev_iload4 dX2_dropLetters_23 ?_
      refine ev_aload_n0 dX2_dropLetters_25 ?_
      refine ev_iload_n2 dX2_dropLetters_26 ?_
      refine ev_iload_n3 dX2_dropLetters_27 ?_
      refine ev_cV2f okX2_letters lkX2_62 (Nat.le_of_ble_eq_true rfl) (Nat.le_of_ble_eq_true rfl) (hM 103 rfl) isO_103 (c_X2_letters hM (by omega) (by omega)) dX2_dropLetters_28 ?_
      rw [e1]
      first | refine ev_icmp_geN 79 (by omega) (by omega) (by decide) dX2_dropLetters_31 (fun h31 => by exfalso; omega) (fun h31 => ?_) | refine ev_icmp_ge 79 (by decide) dX2_dropLetters_31 (fun h31 => by exfalso; omega) (fun h31 => ?_)
      refine ev_aload_n0 dX2_dropLetters_34 ?_
      refine ev_aload_n0 dX2_dropLetters_35 ?_
      refine gfX2_7 rfl (hM 103 rfl) dX2_dropLetters_36 ?_
      refine ev_iload_n2 dX2_dropLetters_39 ?_
      refine ev_iload_n3 dX2_dropLetters_40 ?_
      refine ev_iload4 dX2_dropLetters_41 ?_
      refine ev_cS3f okX2_letterAt lkX2_65 (Nat.le_of_ble_eq_true rfl) (Nat.le_of_ble_eq_true rfl) c_X2_letterAt dX2_dropLetters_43 ?_
      refine ev_c1 dX2_dropLetters_46 ?_
      first | refine ev_iaddN dX2_dropLetters_47 ?_ | refine ev_iadd dX2_dropLetters_47 ?_
      refine ev_iald 1263 rfl rfl (hM 104 rfl) (by omega) dX2_dropLetters_48 ?_
      rw [e2]
      refine ev_cV1f okX2_isKeptCode lkX2_121 (Nat.le_of_ble_eq_true rfl) (Nat.le_of_ble_eq_true rfl) (hM 103 rfl) isO_103 (c_X2_isKeptCode2 hM (hK' _) (hb x y k hx hy (by omega))) dX2_dropLetters_49 ?_
      first | refine ev_if_eqB 79 (by decide) dX2_dropLetters_52 (fun h52 => ?_) (fun h52 => ?_)
      · rw [if_neg (by rw [h52]; decide)] at hl
        exact fin k hl
      · refine ev_aload_n0 dX2_dropLetters_55 ?_
        refine gfX2_7 rfl (hM 103 rfl) dX2_dropLetters_56 ?_
        refine ev_iload_n2 dX2_dropLetters_59 ?_
        refine ev_iload_n3 dX2_dropLetters_60 ?_
        refine ev_iload4 dX2_dropLetters_61 ?_
        refine ev_cS3f okX2_letterAt lkX2_65 (Nat.le_of_ble_eq_true rfl) (Nat.le_of_ble_eq_true rfl) c_X2_letterAt dX2_dropLetters_63 ?_
        refine ev_c2 dX2_dropLetters_66 ?_
        first | refine ev_iaddN dX2_dropLetters_67 ?_ | refine ev_iadd dX2_dropLetters_67 ?_
        refine ev_dup2 dX2_dropLetters_68 ?_
        refine ev_iald 1263 rfl rfl (hM 104 rfl) (by omega) dX2_dropLetters_69 ?_
        rw [e3]
        refine ev_iload_n1 dX2_dropLetters_70 ?_
        refine ev_iand dX2_dropLetters_71 ?_
        refine ev_iast 1263 rfl rfl (hM 104 rfl) (by omega) dX2_dropLetters_72 ?_
        refine ev_iinc4 dX2_dropLetters_73 ?_
        refine ev_goto 23 (by decide) dX2_dropLetters_76 ?_
        rw [if_pos h52] at hl
        have e4 := dlR_s m' x y k codes
        unfold lat at e4
        unfold lat
        rw [st_sr, e4]
        exact ih (k + 1) (by omega) hl
  have outer : ∀ f x v3 v4 m', x + f = n → DQ (S 104) m' codes L K (fun x' y' => x' < n ∧ y' < n ∧ x' < x) → Ev ks mX2_dropLetters 2 [some (.inr 103), some (.inl codes), some (.inl (nI x)), v3, v4] [] (sr S 104 m') Q := by
    intro f
    induction f with
    | zero =>
      intro x v3 v4 m' hx hR
      obtain rfl : x = n := by omega
      have hnn : sr S 104 m' 104 0 = nI x := by rw [sr_s, hR.1 0 (by omega)]; exact hn
      refine ev_iload_n2 dX2_dropLetters_2 ?_
      refine ev_aload_n0 dX2_dropLetters_3 ?_
      refine ev_cV0f okX2_many lkX2_82 (Nat.le_of_ble_eq_true rfl) (Nat.le_of_ble_eq_true rfl) (hM 103 rfl) isO_103 (c_X2_many hM hnn) dX2_dropLetters_4 ?_
      first | refine ev_icmp_geN 106 (by omega) (by omega) (by decide) dX2_dropLetters_7 (fun h7 => ?_) (fun h7 => by exfalso; omega) | refine ev_icmp_ge 106 (by decide) dX2_dropLetters_7 (fun h7 => ?_) (fun h7 => by exfalso; omega)
      refine ev_return rfl dX2_dropLetters_106 ?_
      rw [← hQ]
      exact ⟨rfl, m', rfl, DQ_iff (fun x' y' _ _ => by omega) hR⟩
    | succ f ih =>
      intro x v3 v4 m' hx hR
      have inner : ∀ z y v4 m', y + z = n → DQ (S 104) m' codes L K (fun x' y' => x' < n ∧ y' < n ∧ (x' < x ∨ (x' = x ∧ y' < y))) → Ev ks mX2_dropLetters 12 [some (.inr 103), some (.inl codes), some (.inl (nI x)), some (.inl (nI y)), v4] [] (sr S 104 m') Q := by
        intro z
        induction z with
        | zero =>
          intro y v4 m' hy hR
          have hnn : sr S 104 m' 104 0 = nI n := by rw [sr_s, hR.1 0 (by omega)]; exact hn
          refine ev_iload_n3 dX2_dropLetters_12 ?_
          refine ev_aload_n0 dX2_dropLetters_13 ?_
          refine ev_cV0f okX2_many lkX2_82 (Nat.le_of_ble_eq_true rfl) (Nat.le_of_ble_eq_true rfl) (hM 103 rfl) isO_103 (c_X2_many hM hnn) dX2_dropLetters_14 ?_
          first | refine ev_icmp_geN 100 (by omega) (by omega) (by decide) dX2_dropLetters_17 (fun h17 => ?_) (fun h17 => by exfalso; omega) | refine ev_icmp_ge 100 (by decide) dX2_dropLetters_17 (fun h17 => ?_) (fun h17 => by exfalso; omega)
          refine ev_iinc2 dX2_dropLetters_100 ?_
          refine ev_goto 2 (by decide) dX2_dropLetters_103 ?_
          exact ih (x + 1) _ _ m' (by omega) (DQ_iff (fun x' y' _ _ => by omega) hR)
        | succ z ih2 =>
          intro y v4 m' hy hR
          have hnn : sr S 104 m' 104 0 = nI n := by rw [sr_s, hR.1 0 (by omega)]; exact hn
          refine ev_iload_n3 dX2_dropLetters_12 ?_
          refine ev_aload_n0 dX2_dropLetters_13 ?_
          refine ev_cV0f okX2_many lkX2_82 (Nat.le_of_ble_eq_true rfl) (Nat.le_of_ble_eq_true rfl) (hM 103 rfl) isO_103 (c_X2_many hM hnn) dX2_dropLetters_14 ?_
          first | refine ev_icmp_geN 100 (by omega) (by omega) (by decide) dX2_dropLetters_17 (fun h17 => by exfalso; omega) (fun h17 => ?_) | refine ev_icmp_ge 100 (by decide) dX2_dropLetters_17 (fun h17 => by exfalso; omega) (fun h17 => ?_)
          refine ev_c0 dX2_dropLetters_20 ?_
          refine ev_istore4 dX2_dropLetters_21 ?_
          have h := rows x y m' (by omega) (by omega) hR (fun v m2 h2 => ih2 (y + 1) v m2 (by omega) h2) (L x y) 0 (by omega) rfl
          rw [dlR_0] at h
          exact h
      have hnn : sr S 104 m' 104 0 = nI n := by rw [sr_s, hR.1 0 (by omega)]; exact hn
      refine ev_iload_n2 dX2_dropLetters_2 ?_
      refine ev_aload_n0 dX2_dropLetters_3 ?_
      refine ev_cV0f okX2_many lkX2_82 (Nat.le_of_ble_eq_true rfl) (Nat.le_of_ble_eq_true rfl) (hM 103 rfl) isO_103 (c_X2_many hM hnn) dX2_dropLetters_4 ?_
      first | refine ev_icmp_geN 106 (by omega) (by omega) (by decide) dX2_dropLetters_7 (fun h7 => by exfalso; omega) (fun h7 => ?_) | refine ev_icmp_ge 106 (by decide) dX2_dropLetters_7 (fun h7 => by exfalso; omega) (fun h7 => ?_)
      refine ev_c0 dX2_dropLetters_10 ?_
      refine ev_istore_n3 dX2_dropLetters_11 ?_
      exact inner n 0 _ m' (by omega) (DQ_iff (fun x' y' _ _ => by omega) hR)
  refine ev_c0 dX2_dropLetters_0 ?_
  refine ev_istore_n2 dX2_dropLetters_1 ?_
  have h := outer n 0 none none (S 104) (by omega) ⟨fun _ _ => rfl, fun _ _ _ _ _ _ _ _ _ => rfl, fun x y _ _ h => by omega, fun x y _ _ _ => ⟨rfl, fun _ _ => rfl⟩⟩
  rw [sr_self] at h
  exact h
