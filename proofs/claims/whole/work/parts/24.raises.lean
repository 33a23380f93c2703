/-- receipts and what is held, when some are lost -/
def rcL (m : Nat → Int32) (codes : Int32) (K : Nat → Nat) : Nat → Nat → Int32
  | 0 => m
  | q + 1 => rmL (upd (rcL m codes K q) (3 + q) (nI (K q))) q codes 32
theorem rmL_o (m : Nat → Int32) {q : Nat} (codes : Int32) (hq : q < 4) {j : Nat} (h : j < 103 ∨ 123 ≤ j) : ∀ k, k ≤ 32 → rmL m q codes k j = m j
  | 0, _ => rfl
  | k + 1, hk => by
    rw [rmL]
    split
    · rw [know_o _ hq (by omega) h, rmL_o m codes hq h k (by omega)]
    · exact rmL_o m codes hq h k (by omega)
theorem rcL_o (m : Nat → Int32) (codes : Int32) (K : Nat → Nat) {j : Nat} (h : j < 3 ∨ (7 ≤ j ∧ j < 103) ∨ 123 ≤ j) : ∀ k, k ≤ 4 → rcL m codes K k j = m j
  | 0, _ => rfl
  | k + 1, hk => by rw [rcL, rmL_o _ _ (by omega) (by omega) 32 (by omega), upd_n (by omega), rcL_o m codes K h k (by omega)]
/-- the reference's row when all are raised -/
def RM (m m' : Nat → Int32) (n : Nat) (L : Nat → Nat → Nat) (K : Nat → Nat) : Prop := ∃ m1, DQ m m1 (mk (fun c => decide (c % 8 < K (c / 8))) (8 * n)) L K (fun x y => x < n ∧ y < n) ∧ m' = upd (raO (rcL m1 (mk (fun c => decide (c % 8 < K (c / 8))) (8 * n)) K n) n (m 2) (orF (fun q => bif bt (m 2) q then 0 else m (103 + q)) n &&& mk (fun c => decide (c % 8 < K (c / 8))) (8 * n)) 32) 2 0
set_option maxHeartbeats 1000000 in
theorem c_X2_raises {ks : List Nat} (hM : InM ks) {S : St} {n u : Nat} {rr : Nat → Nat} {bi : Nat → Nat → Int32} {L : Nat → Nat → Nat} {K : Nat → Nat} (hu : S 103 2 = nI u) (hu5 : u ≤ 5) (hD : ¬ S 104 2 = 0) (hn : S 104 0 = nI n) (h4 : n ≤ 4) (hr : ∀ q, q < n → S 104 (3 + q) = nI (rr q) ∧ rr q ≤ 8) (hB : BH (S 104) n rr bi) (hK : Gfp n rr (S 104 2) (orF (fun q => bif bt (S 104 2) q then 0 else S 104 (103 + q)) n) bi K) (hL : ∀ x y, x < 5 → y < 4 → S 104 (123 + (4 * x + y)) = nI (L x y) ∧ L x y ≤ 8) (hb : ∀ x y k, x < n → y < n → k < L x y → S 104 (lat x y k + 1) = -9 ∨ ∃ b, b < 32 ∧ S 104 (lat x y k + 1) = nI b) : Cn ks mX2_raises yX2_raises [.inr 103] S (Gi (nI (fb_sm (fun q => rr q - K q) n)) (fun S2 => ∃ m', S2 = sr (sr (noteS S u) 110 (kR K)) 104 m' ∧ RM (S 104) m' n L K)) := by
  refine cnV okX2_raises 6 rfl ?_
  show Ev ks mX2_raises 0 [some (.inr 103), none, none, none, none, none, none] [] S _
  have hKle : ∀ q, q < n → K q ≤ rr q := hK.1.1
  have hK8 : ∀ q, K q ≤ 8 := fun q => by
    rcases Nat.lt_or_ge q n with h | h
    · exact Nat.le_trans (hKle q h) (hr q h).2
    · rw [hK.1.2.1 q h]; omega
  unfold RM
  generalize hcv : mk (fun c => decide (c % 8 < K (c / 8))) (8 * n) = codes
  generalize hlv : fb_sm (fun q => rr q - K q) n = lost
  generalize hDv : S 104 2 = D at hD hK
  generalize hhv : orF (fun q => bif bt D q then 0 else S 104 (103 + q)) n = held0 at hK
  obtain ⟨Z, hZ⟩ : ∃ Z, Z = noteS S u := ⟨_, rfl⟩
  have z104 : Z 104 = S 104 := by rw [hZ]; rfl
  rw [← hZ]
  generalize hQ : Gi (nI lost) (fun S2 => ∃ m', S2 = sr (sr Z 110 (kR K)) 104 m' ∧ ∃ m1, DQ (S 104) m1 codes L K (fun x y => x < n ∧ y < n) ∧ m' = upd (raO (rcL m1 codes K n) n D (held0 &&& codes) 32) 2 0) = Q
  have zn : Z 104 0 = nI n := by rw [z104]; exact hn
  have zr : ∀ q, q < n → Z 104 (3 + q) = nI (rr q) ∧ rr q ≤ 8 := fun q hq => by rw [z104]; exact hr q hq
  have zB : BH (Z 104) n rr bi := by rw [z104]; exact hB
  have zK : Gfp n rr D (orF (fun q => bif bt D q then 0 else Z 104 (103 + q)) n) bi K := by rw [z104, hhv]; exact hK
  obtain ⟨Y, hY⟩ : ∃ Y, Y = sr Z 110 (kR K) := ⟨_, rfl⟩
  have y104 : Y 104 = S 104 := by rw [hY, ← z104]; rfl
  have y110 : Y 110 = kR K := by rw [hY]; exact sr_s _ _ _
  have yn : Y 104 0 = nI n := by rw [y104]; exact hn
  have yr : ∀ q, q < n → Y 104 (3 + q) = nI (rr q) := fun q hq => by rw [y104]; exact (hr q hq).1
  have yK : ∀ q, q < n → Y 110 q = nI (K q) ∧ K q ≤ rr q := fun q hq => ⟨by rw [y110]; rfl, hKle q hq⟩
  have yK8 : ∀ q, q < n → Y 110 q = nI (K q) ∧ K q ≤ 8 := fun q hq => ⟨by rw [y110]; rfl, hK8 q⟩
  have yK4 : ∀ q, q < 4 → Y 110 q = nI (K q) ∧ K q ≤ 8 := fun q hq => ⟨by rw [y110]; rfl, hK8 q⟩
  have yL : ∀ x y, x < 5 → y < 4 → Y 104 (123 + (4 * x + y)) = nI (L x y) ∧ L x y ≤ 8 := fun x y hx hy => by rw [y104]; exact hL x y hx hy
  have yb : ∀ x y k, x < n → y < n → k < L x y → Y 104 (lat x y k + 1) = -9 ∨ ∃ b, b < 32 ∧ Y 104 (lat x y k + 1) = nI b := fun x y k h1 h2 h3 => by rw [y104]; exact hb x y k h1 h2 h3
  have yH : orF (fun q => bif bt D q then 0 else Y 104 (103 + q)) n = held0 := by rw [y104]; exact hhv
  -- behind dropLetters
  have outer : ∀ m1, DQ (S 104) m1 codes L K (fun x y => x < n ∧ y < n) → ∀ f q v6, q + f = n → Ev ks mX2_raises 55 [some (.inr 103), some (.inl D), some (.inl (nI lost)), some (.inl codes), some (.inl (held0 &&& codes)), some (.inl (nI q)), v6] [] (sr Y 104 (rcL m1 codes K q)) Q := by
    intro m1 hm1 f
    have hr0 : ∀ k, k ≤ 4 → rcL m1 codes K k 0 = nI n := fun k hk => by rw [rcL_o _ _ _ (by omega) k hk, hm1.1 0 (by omega)]; exact hn
    induction f with
    | zero =>
      intro q v6 hq
      obtain rfl : q = n := by omega
      have hnn : sr Y 104 (rcL m1 codes K q) 104 0 = nI q := by rw [sr_s]; exact hr0 q h4
      refine ev_iload5 dX2_raises_55 ?_
      refine ev_aload_n0 dX2_raises_57 ?_
      refine ev_cV0f okX2_many lkX2_82 (Nat.le_of_ble_eq_true rfl) (Nat.le_of_ble_eq_true rfl) (hM 103 rfl) isO_103 (c_X2_many hM hnn) dX2_raises_58 ?_
      first | refine ev_icmp_geN 138 (by omega) (by omega) (by decide) dX2_raises_61 (fun h61 => ?_) (fun h61 => by exfalso; omega) | refine ev_icmp_ge 138 (by decide) dX2_raises_61 (fun h61 => ?_) (fun h61 => by exfalso; omega)
      refine ev_aload_n0 dX2_raises_138 ?_
      refine ev_iload_n1 dX2_raises_139 ?_
      refine ev_iload4 dX2_raises_140 ?_
      refine ev_cV2v okX2_raiseAll lkX2_137 (Nat.le_of_ble_eq_true rfl) (Nat.le_of_ble_eq_true rfl) (hM 103 rfl) isO_103 (c_X2_raiseAll hM hnn h4) dX2_raises_142 ?_
      rw [sr_sr, sr_s]
      refine ev_aload_n0 dX2_raises_145 ?_
      refine gfX2_7 rfl (hM 103 rfl) dX2_raises_146 ?_
      refine ev_c2 dX2_raises_149 ?_
      refine ev_c0 dX2_raises_150 ?_
      refine ev_iast 1263 rfl rfl (hM 104 rfl) (by omega) dX2_raises_151 ?_
      rw [st_sr, nI_0]
      refine ev_iload_n2 dX2_raises_152 ?_
      refine ev_ireturn rfl dX2_raises_153 ?_
      rw [← hQ]
      exact ⟨rfl, _, by rw [hY], m1, hm1, rfl⟩
    | succ f ih =>
      intro q v6 hq
      have hnn : sr Y 104 (rcL m1 codes K q) 104 0 = nI n := by rw [sr_s]; exact hr0 q (by omega)
      have e110 : ∀ R, sr Y 104 R 110 q = nI (K q) := fun R => (yK8 q (by omega)).1
      have hs : rcL m1 codes K (q + 1) = rmL (upd (rcL m1 codes K q) (3 + q) (nI (K q))) q codes 32 := rfl
      generalize hm2 : upd (rcL m1 codes K q) (3 + q) (nI (K q)) = m2 at hs
      have inner : ∀ z c, c + z = 32 → Ev ks mX2_raises 83 [some (.inr 103), some (.inl D), some (.inl (nI lost)), some (.inl codes), some (.inl (held0 &&& codes)), some (.inl (nI q)), some (.inl (nI c))] [] (sr Y 104 (rmL m2 q codes c)) Q := by
        intro z
        induction z with
        | zero =>
          intro c hc
          obtain rfl : c = 32 := by omega
          refine ev_iload6 dX2_raises_83 ?_
          refine ev_bipush (nI 32) kb_32 dX2_raises_85 ?_
          first | refine ev_icmp_geN 132 (by omega) (by omega) (by decide) dX2_raises_87 (fun h87 => ?_) (fun h87 => by exfalso; omega) | refine ev_icmp_ge 132 (by decide) dX2_raises_87 (fun h87 => ?_) (fun h87 => by exfalso; omega)
          refine ev_iinc5 dX2_raises_132 ?_
          refine ev_goto 55 (by decide) dX2_raises_135 ?_
          rw [← hs]
          exact ih (q + 1) _ (by omega)
        | succ z ih2 =>
          intro c hc
          have e1 : sr Y 104 (rmL m2 q codes c) 104 (103 + q) = rmL m2 q codes c (103 + q) := by rw [sr_s]
          have hc1 : rmL m2 q codes (c + 1) = if bt (rmL m2 q codes c (103 + q)) c = true ∧ bt codes c = false then knowR (rmL m2 q codes c) q c 0 else rmL m2 q codes c := rfl
          refine ev_iload6 dX2_raises_83 ?_
          refine ev_bipush (nI 32) kb_32 dX2_raises_85 ?_
          first | refine ev_icmp_geN 132 (by omega) (by omega) (by decide) dX2_raises_87 (fun h87 => by exfalso; omega) (fun h87 => ?_) | refine ev_icmp_ge 132 (by decide) dX2_raises_87 (fun h87 => by exfalso; omega) (fun h87 => ?_)
          refine ev_aload_n0 dX2_raises_90 ?_
          refine gfX2_7 rfl (hM 103 rfl) dX2_raises_91 ?_
          refine ev_bipush (nI 103) kb_103 dX2_raises_94 ?_
          refine ev_iload5 dX2_raises_96 ?_
          first | refine ev_iaddN dX2_raises_98 ?_ | refine ev_iadd dX2_raises_98 ?_
          refine ev_iald 1263 rfl rfl (hM 104 rfl) (by omega) dX2_raises_99 ?_
          rw [e1]
          refine ev_iload6 dX2_raises_100 ?_
          refine ev_cS2f okX2_has lkX2_39 (Nat.le_of_ble_eq_true rfl) (Nat.le_of_ble_eq_true rfl) (c_X2_has (by omega)) dX2_raises_102 ?_
          first | refine ev_if_eqB 126 (by decide) dX2_raises_105 (fun h105 => ?_) (fun h105 => ?_)
          · refine ev_iinc6 dX2_raises_126 ?_
            refine ev_goto 83 (by decide) dX2_raises_129 ?_
            first | rw [if_neg (fun z => by rw [h105] at z; exact absurd z.1 (by decide))] at hc1 | rw [if_neg (fun z => by rw [h114] at z; exact absurd z.2 (by decide))] at hc1 | rw [if_pos ⟨h105, h114⟩] at hc1
            first | rw [sr_sr, sr_s, nI_0, ← hc1] | rw [← hc1]
            exact ih2 (c + 1) (by omega)
          · refine ev_iload_n3 dX2_raises_108 ?_
            refine ev_iload6 dX2_raises_109 ?_
            refine ev_cS2f okX2_has lkX2_39 (Nat.le_of_ble_eq_true rfl) (Nat.le_of_ble_eq_true rfl) (c_X2_has (by omega)) dX2_raises_111 ?_
            first | refine ev_if_neB 126 (by decide) dX2_raises_114 (fun h114 => ?_) (fun h114 => ?_)
            · refine ev_iinc6 dX2_raises_126 ?_
              refine ev_goto 83 (by decide) dX2_raises_129 ?_
              first | rw [if_neg (fun z => by rw [h105] at z; exact absurd z.1 (by decide))] at hc1 | rw [if_neg (fun z => by rw [h114] at z; exact absurd z.2 (by decide))] at hc1 | rw [if_pos ⟨h105, h114⟩] at hc1
              first | rw [sr_sr, sr_s, nI_0, ← hc1] | rw [← hc1]
              exact ih2 (c + 1) (by omega)
            · refine ev_aload_n0 dX2_raises_117 ?_
              refine ev_iload5 dX2_raises_118 ?_
              refine ev_iload6 dX2_raises_120 ?_
              refine ev_c0 dX2_raises_122 ?_
              refine ev_cV3v okX2_know lkX2_102 (Nat.le_of_ble_eq_true rfl) (Nat.le_of_ble_eq_true rfl) (hM 103 rfl) isO_103 (c_X2_know hM (by omega) (by omega)) dX2_raises_123 ?_
              refine ev_iinc6 dX2_raises_126 ?_
              refine ev_goto 83 (by decide) dX2_raises_129 ?_
              first | rw [if_neg (fun z => by rw [h105] at z; exact absurd z.1 (by decide))] at hc1 | rw [if_neg (fun z => by rw [h114] at z; exact absurd z.2 (by decide))] at hc1 | rw [if_pos ⟨h105, h114⟩] at hc1
              first | rw [sr_sr, sr_s, nI_0, ← hc1] | rw [← hc1]
              exact ih2 (c + 1) (by omega)
      refine ev_iload5 dX2_raises_55 ?_
      refine ev_aload_n0 dX2_raises_57 ?_
      refine ev_cV0f okX2_many lkX2_82 (Nat.le_of_ble_eq_true rfl) (Nat.le_of_ble_eq_true rfl) (hM 103 rfl) isO_103 (c_X2_many hM hnn) dX2_raises_58 ?_
      first | refine ev_icmp_geN 138 (by omega) (by omega) (by decide) dX2_raises_61 (fun h61 => by exfalso; omega) (fun h61 => ?_) | refine ev_icmp_ge 138 (by decide) dX2_raises_61 (fun h61 => by exfalso; omega) (fun h61 => ?_)
      refine ev_aload_n0 dX2_raises_64 ?_
      refine gfX2_7 rfl (hM 103 rfl) dX2_raises_65 ?_
      refine ev_c3 dX2_raises_68 ?_
      refine ev_iload5 dX2_raises_69 ?_
      first | refine ev_iaddN dX2_raises_71 ?_ | refine ev_iadd dX2_raises_71 ?_
      refine ev_aload_n0 dX2_raises_72 ?_
      refine gfX2_29 rfl (hM 103 rfl) dX2_raises_73 ?_
      refine ev_iload5 dX2_raises_76 ?_
      refine ev_iald 4 rfl rfl (hM 110 rfl) (by omega) dX2_raises_78 ?_
      rw [e110]
      refine ev_iast 1263 rfl rfl (hM 104 rfl) (by omega) dX2_raises_79 ?_
      rw [st_sr, hm2]
      refine ev_c0 dX2_raises_80 ?_
      refine ev_istore6 dX2_raises_81 ?_
      exact inner 32 0 rfl
  refine ev_aload_n0 dX2_raises_0 ?_
  refine gfX2_7 rfl (hM 103 rfl) dX2_raises_1 ?_
  refine ev_c2 dX2_raises_4 ?_
  refine ev_iald 1263 rfl rfl (hM 104 rfl) (by omega) dX2_raises_5 ?_
  rw [hDv]
  first | refine ev_if_ne 12 (by decide) dX2_raises_6 (fun h6 => ?_) (fun h6 => by exact absurd h6 hD)
  refine ev_aload_n0 dX2_raises_12 ?_
  refine ev_cV0v okX2_note lkX2_72 (Nat.le_of_ble_eq_true rfl) (Nat.le_of_ble_eq_true rfl) (hM 103 rfl) isO_103 (c_X2_note hM hu hu5) dX2_raises_13 ?_
  rw [← hZ]
  refine ev_aload_n0 dX2_raises_16 ?_
  refine gfX2_7 rfl (hM 103 rfl) dX2_raises_17 ?_
  refine ev_c2 dX2_raises_20 ?_
  refine ev_iald 1263 rfl rfl (hM 104 rfl) (by omega) dX2_raises_21 ?_
  rw [z104, hDv]
  refine ev_istore_n1 dX2_raises_22 ?_
  refine ev_aload_n0 dX2_raises_23 ?_
  refine ev_iload_n1 dX2_raises_24 ?_
  refine ev_cV1v okX2_findKept lkX2_124 (Nat.le_of_ble_eq_true rfl) (Nat.le_of_ble_eq_true rfl) (hM 103 rfl) isO_103 (c_X2_findKept hM zn h4 zr zB zK) dX2_raises_25 ?_
  rw [← hY]
  refine ev_aload_n0 dX2_raises_28 ?_
  refine ev_cV0f okX2_lost lkX2_128 (Nat.le_of_ble_eq_true rfl) (Nat.le_of_ble_eq_true rfl) (hM 103 rfl) isO_103 (c_X2_lost hM yn h4 yr yK) dX2_raises_29 ?_
  rw [hlv]
  refine ev_istore_n2 dX2_raises_32 ?_
  refine ev_aload_n0 dX2_raises_33 ?_
  refine ev_cV0f okX2_codesKept lkX2_131 (Nat.le_of_ble_eq_true rfl) (Nat.le_of_ble_eq_true rfl) (hM 103 rfl) isO_103 (c_X2_codesKept hM yn h4 yK8) dX2_raises_34 ?_
  rw [hcv]
  refine ev_istore_n3 dX2_raises_37 ?_
  refine ev_aload_n0 dX2_raises_38 ?_
  refine ev_iload_n1 dX2_raises_39 ?_
  refine ev_cV1f okX2_heldBut lkX2_115 (Nat.le_of_ble_eq_true rfl) (Nat.le_of_ble_eq_true rfl) (hM 103 rfl) isO_103 (c_X2_heldBut hM yn h4) dX2_raises_40 ?_
  rw [yH]
  refine ev_iload_n3 dX2_raises_43 ?_
  refine ev_iand dX2_raises_44 ?_
  refine ev_istore4 dX2_raises_45 ?_
  refine ev_aload_n0 dX2_raises_47 ?_
  refine ev_iload_n3 dX2_raises_48 ?_
  refine ev_cV1q okX2_dropLetters lkX2_134 (Nat.le_of_ble_eq_true rfl) (Nat.le_of_ble_eq_true rfl) (hM 103 rfl) isO_103 (c_X2_dropLetters hM yn h4 yK4 yL yb) dX2_raises_49 (fun S49 hS49 => ?_)
  refine ev_c0 dX2_raises_52 ?_
  refine ev_istore5 dX2_raises_53 ?_
  obtain ⟨m1, rfl, hm1⟩ := hS49
  rw [y104] at hm1
  exact outer m1 hm1 n 0 _ (by omega)
theorem rmL_kn (m : Nat → Int32) {q : Nat} (codes : Int32) (hq : q < 4) {p c' i : Nat} (hp : p < 4) (hc' : c' < 32) (hi : i < 4) : ∀ k, k ≤ 32 →
    bt (rmL m q codes k (107 + 4 * p + c' / 8)) (4 * (c' % 8) + i) = if p = q ∧ c' < k ∧ bt (m (103 + q)) c' = true ∧ bt codes c' = false then false else bt (m (107 + 4 * p + c' / 8)) (4 * (c' % 8) + i)
  | 0, _ => by rw [rmL, if_neg (by omega)]
  | k + 1, hk => by
    have ih := rmL_kn m codes hq hp hc' hi k (by omega)
    have hhe : ∀ c, c < 32 → k ≤ c → bt (rmL m q codes k (103 + q)) c = bt (m (103 + q)) c := by
      intro c hc
      have : ∀ j, j ≤ k → j ≤ c → bt (rmL m q codes j (103 + q)) c = bt (m (103 + q)) c := by
        intro j
        induction j with
        | zero => intro _ _; rfl
        | succ j ihj =>
          intro h1 h2
          rw [rmL]
          split
          · rw [know_he _ hq (by omega) hq hc, if_neg (by omega)]; exact ihj (by omega) (by omega)
          · exact ihj (by omega) (by omega)
      intro h
      exact this k (Nat.le_refl _) h
    rw [rmL]
    by_cases hb : bt (rmL m q codes k (103 + q)) k = true ∧ bt codes k = false
    · rw [if_pos hb, know_kn _ hq (by omega) (fun i hi => by rw [b_0] at hi; cases hi) hp hc' hi]
      rw [hhe k (by omega) (Nat.le_refl _)] at hb
      by_cases hpc : p = q ∧ c' = k
      · obtain ⟨rfl, rfl⟩ := hpc
        rw [if_pos ⟨rfl, rfl⟩, if_pos ⟨rfl, by omega, hb⟩, b_0]
      · rw [if_neg hpc, ih]
        by_cases h2 : p = q ∧ c' < k ∧ bt (m (103 + q)) c' = true ∧ bt codes c' = false
        · rw [if_pos h2, if_pos ⟨h2.1, by omega, h2.2.2⟩]
        · rw [if_neg h2, if_neg (fun z => h2 ⟨z.1, by have : c' ≠ k := fun e => hpc ⟨z.1, e⟩; omega, z.2.2⟩)]
    · rw [if_neg hb, ih]
      rw [hhe k (by omega) (Nat.le_refl _)] at hb
      by_cases h2 : p = q ∧ c' < k ∧ bt (m (103 + q)) c' = true ∧ bt codes c' = false
      · rw [if_pos h2, if_pos ⟨h2.1, by omega, h2.2.2⟩]
      · rw [if_neg h2, if_neg (fun z => h2 ⟨z.1, by have : c' ≠ k := fun e => hb (e ▸ z.2.2); omega, z.2.2⟩)]
theorem rmL_he (m : Nat → Int32) {q : Nat} (codes : Int32) (hq : q < 4) {p c' : Nat} (hp : p < 4) (hc' : c' < 32) : ∀ k, k ≤ 32 →
    bt (rmL m q codes k (103 + p)) c' = if p = q ∧ c' < k then bt (m (103 + p)) c' && bt codes c' else bt (m (103 + p)) c'
  | 0, _ => by rw [rmL, if_neg (by omega)]
  | k + 1, hk => by
    have ih := rmL_he m codes hq hp hc' k (by omega)
    rw [rmL]
    by_cases hb : bt (rmL m q codes k (103 + q)) k = true ∧ bt codes k = false
    · rw [if_pos hb, know_he _ hq (by omega) hp hc']
      by_cases hpc : p = q ∧ c' = k
      · obtain ⟨rfl, rfl⟩ := hpc
        rw [if_pos ⟨rfl, rfl⟩, if_pos ⟨rfl, by omega⟩, hb.2]
        simp
      · rw [if_neg hpc, ih]
        by_cases h2 : p = q ∧ c' < k
        · rw [if_pos h2, if_pos ⟨h2.1, by omega⟩]
        · rw [if_neg h2, if_neg (fun z => h2 ⟨z.1, by have : c' ≠ k := fun e => hpc ⟨z.1, e⟩; omega⟩)]
    · rw [if_neg hb, ih]
      by_cases h2 : p = q ∧ c' < k
      · rw [if_pos h2, if_pos ⟨h2.1, by omega⟩]
      · rw [if_neg h2]
        by_cases h3 : p = q ∧ c' < k + 1
        · rw [if_pos h3]
          have e1 : c' = k := by omega
          obtain ⟨rfl, -⟩ := h3
          rw [if_neg (by omega)] at ih
          subst e1
          rw [ih] at hb
          cases h5 : bt codes c' with
          | true => simp
          | false =>
            cases h6 : bt (m (103 + p)) c' with
            | false => rfl
            | true => exact absurd ⟨h6, h5⟩ hb
        · rw [if_neg h3]
