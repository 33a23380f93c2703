/-- whether all that was seen would be so, were the sites D down -/
def agr (w : St) (D : Int32) : Bool := decide (∀ j, j < tn (w 96 8) → nI (kcn w D (tn (w 99 j))) = w 100 j)
def agj (w : St) (D : Int32) (n : Nat) : Bool := decide (∀ j, j < n → nI (kcn w D (tn (w 99 j))) = w 100 j)
def fit (w : St) (t : Nat) : Bool := decide (¬ t = 0) && decide (nI t &&& w 0 2 = 0) && agr w (w 0 2 ||| nI t)
def Sm (C S : St) : Prop := ∀ k, k ≠ 101 → k ≠ 102 → S k = C k
def Se (C : St) (se : Nat) : Prop := se ≤ 6 ∧ C 96 8 = nI se ∧ ∀ j, j < se → ∃ a b, a < 4 ∧ b ≤ 8 ∧ C 99 j = nI a ∧ C 100 j = nI b
theorem k_kid2 {ks : List Nat} (hW : InW ks) {C S : St} (hI : Inv C) (hS : Sm C S) {D : Int32} : Cn ks mX0_keptIfDown yX0_keptIfDown [.inr 0, .inl D] S (Ri (kst C D) S) := by
  have e : kst S D = kst C D := by
    unfold kst kf thr rc nn
    rw [hS 0 (by omega) (by omega), hS 1 (by omega) (by omega), hS 5 (by omega) (by omega), hS 11 (by omega) (by omega)]
  rw [← e]
  exact k_kid hW (Inv_cong (fun j hj => hS j (by omega) (by omega)) hI)
theorem k_all2 {ks : List Nat} (hW : InW ks) {C S : St} {N : Nat} (hI : Inv C) (hS : Sm C S) (hN : 2 ^ nn C = N) : Cn ks mX0_allSites yX0_allSites [.inr 0] S (Ri (nI (N - 1)) S) := k_all hW (by rw [hS 0 (by omega) (by omega)]; exact (wf_n hI).1.1) (wf_n hI).1.2.1 (wf_n hI).1.2.2 hN
theorem k_agr {ks : List Nat} (hC : InC ks) {C S : St} {se : Nat} (hI : Inv C) (hS : Sm C S) (hse : Se C se) {D : Int32} : Cn ks mX1_agreesWithSeen yX1_agreesWithSeen [.inr 96, .inl (kst C D)] S (Ri (bI (agr C D)) S) := by
  obtain ⟨s6, es, hj⟩ := hse
  have e96 := hS 96 (by omega) (by omega)
  have e99 := hS 99 (by omega) (by omega)
  have e100 := hS 100 (by omega) (by omega)
  have etn : tn (C 96 8) = se := by rw [es]; exact tn_nI (by omega)
  have loop : ∀ f j, j + f = se → (∀ i, i < j → nI (kcn C D (tn (C 99 i))) = C 100 i) → Ev ks mX1_agreesWithSeen 2 [some (.inr 96), some (.inl (kst C D)), some (.inl (nI j))] [] S (Ri (bI (agr C D)) S) := by
    intro f
    induction f with
    | zero =>
      intro j hjs ha
      refine ev_iload_n2 dX1_agreesWithSeen_2 ?_
      refine ev_aload_n0 dX1_agreesWithSeen_3 ?_
      refine gfX1_43 rfl (hC 96 rfl) dX1_agreesWithSeen_4 ?_
      rw [e96, es]
      first | refine ev_icmp_geN 37 (by omega) (by omega) (by decide) dX1_agreesWithSeen_7 (fun h7 => ?_) (fun h7 => by omega)
      refine ev_c1 dX1_agreesWithSeen_37 ?_
      refine ev_zreturn zr1 rfl dX1_agreesWithSeen_38 ?_
      have : agr C D = true := decide_eq_true (fun i hi => ha i (by rw [etn] at hi; omega))
      rw [this]
      exact ⟨rfl, rfl⟩
    | succ f ih =>
      intro j hjs ha
      obtain ⟨a, b, ha4, hb8, ea, eb⟩ := hj j (by omega)
      refine ev_iload_n2 dX1_agreesWithSeen_2 ?_
      refine ev_aload_n0 dX1_agreesWithSeen_3 ?_
      refine gfX1_43 rfl (hC 96 rfl) dX1_agreesWithSeen_4 ?_
      rw [e96, es]
      first | refine ev_icmp_geN 37 (by omega) (by omega) (by decide) dX1_agreesWithSeen_7 (fun h7 => by omega) (fun h7 => ?_)
      refine ev_iload_n1 dX1_agreesWithSeen_10 ?_
      refine ev_aload_n0 dX1_agreesWithSeen_11 ?_
      refine gfX1_23 rfl (hC 96 rfl) dX1_agreesWithSeen_12 ?_
      refine ev_iload_n2 dX1_agreesWithSeen_15 ?_
      refine ev_iald 6 rfl rfl (hC 99 rfl) (by omega) dX1_agreesWithSeen_16 ?_
      rw [e99, ea]
      refine ev_cS2f okX0_receiptsIn lkX1_204 (Nat.le_of_ble_eq_true rfl) (Nat.le_of_ble_eq_true rfl) c_X0_receiptsIn dX1_agreesWithSeen_17 ?_
      refine ev_aload_n0 dX1_agreesWithSeen_20 ?_
      refine gfX1_27 rfl (hC 96 rfl) dX1_agreesWithSeen_21 ?_
      refine ev_iload_n2 dX1_agreesWithSeen_24 ?_
      refine ev_iald 6 rfl rfl (hC 100 rfl) (by omega) dX1_agreesWithSeen_25 ?_
      rw [kst_in hI D ha4, e100]
      first | refine ev_icmp_eq 31 (by decide) dX1_agreesWithSeen_26 (fun h26 => ?_) (fun h26 => ?_)
      · refine ev_iinc2 dX1_agreesWithSeen_31 ?_
        refine ev_goto 2 (by decide) dX1_agreesWithSeen_34 ?_
        refine ih (j + 1) (by omega) (fun i hi => ?_)
        by_cases hij : i = j
        · rw [hij, ea, tn_nI (by omega)]
          exact h26
        · exact ha i (by omega)
      · refine ev_c0 dX1_agreesWithSeen_29 ?_
        refine ev_zreturn zr0 rfl dX1_agreesWithSeen_30 ?_
        have : agr C D = false := decide_eq_false (fun hh => h26 (by have := hh j (by rw [etn]; omega); rw [ea, tn_nI (by omega)] at this; exact this))
        rw [this]
        exact ⟨rfl, rfl⟩
  refine cnV okX1_agreesWithSeen 1 rfl ?_
  show Ev ks mX1_agreesWithSeen 0 [some (.inr 96), some (.inl (kst C D)), none] [] S _
  refine ev_c0 dX1_agreesWithSeen_0 ?_
  refine ev_istore_n2 dX1_agreesWithSeen_1 ?_
  exact loop se 0 (by omega) (fun i hi => by omega)
theorem k_sets {ks : List Nat} (hC : InC ks) {C S : St} {N se : Nat} (hI : Inv C) (hS : Sm C S) (hse : Se C se) (hN : 2 ^ nn C = N) : Cn ks mX1_possibleSets yX1_possibleSets [.inr 96] S (Gi (mk (fit C) N) (fun S' => Sm C S' ∧ ∀ t, t < N → fit C t = true → S' 101 t = kst C (C 0 2 ||| nI t))) := by
  have hW : InW ks := hC.w
  obtain ⟨⟨hn, h2, h4⟩, -⟩ := wf_n hI
  obtain ⟨hsh, hN4, hN16⟩ := shl_pw h2 h4 hN
  have loop : ∀ f t S, t + f = N → 1 ≤ t → Sm C S → (∀ i, i < t → fit C i = true → S 101 i = kst C (C 0 2 ||| nI i)) → Ev ks mX1_possibleSets 12 [some (.inr 96), some (.inl (mk (fit C) t)), some (.inl (nI (N - 1))), some (.inl (nI t))] [] S (Gi (mk (fit C) N) (fun S' => Sm C S' ∧ ∀ t, t < N → fit C t = true → S' 101 t = kst C (C 0 2 ||| nI t))) := by
    intro f
    induction f with
    | zero =>
      intro t S ht h1 hS hx
      refine ev_iload_n3 dX1_possibleSets_12 ?_
      refine ev_iload_n2 dX1_possibleSets_13 ?_
      first | refine ev_icmp_gtN 80 (by omega) (by omega) (by decide) dX1_possibleSets_14 (fun h14 => ?_) (fun h14 => by omega)
      refine ev_iload_n1 dX1_possibleSets_80 ?_
      refine ev_ireturn rfl dX1_possibleSets_81 ?_
      obtain rfl : t = N := by omega
      exact ⟨rfl, hS, hx⟩
    | succ f ih =>
      intro t S ht h1 hS hx
      have e0 := hS 0 (by omega) (by omega)
      have hs : mk (fit C) (t + 1) = mk (fit C) t ||| (bif fit C t then (1 : Int32) <<< (nI t &&& 31) else 0) := rfl
      have hS2 : ∀ x, Sm C (st S 101 t x) := fun x k a b => by rw [st_n, sr_n a]; exact hS k a b
      have hfit : nI t &&& C 0 2 = 0 → fit C t = agr C (C 0 2 ||| nI t) := fun h => by unfold fit; rw [decide_eq_true (show ¬ t = 0 by omega), decide_eq_true h]; rfl
      have hno : ¬ nI t &&& C 0 2 = 0 → fit C t = false := fun h => by unfold fit; rw [decide_eq_false h]; simp
      have hx2 : ∀ i, i < t + 1 → fit C i = true → st S 101 t (kst C (C 0 2 ||| nI t)) 101 i = kst C (C 0 2 ||| nI i) := fun i hi hf => by
        rw [st_n, sr_s]
        by_cases hit : i = t
        · rw [hit, upd_s]
        · rw [upd_n hit]; exact hx i (by omega) hf
      refine ev_iload_n3 dX1_possibleSets_12 ?_
      refine ev_iload_n2 dX1_possibleSets_13 ?_
      first | refine ev_icmp_gtN 80 (by omega) (by omega) (by decide) dX1_possibleSets_14 (fun h14 => by omega) (fun h14 => ?_)
      refine ev_iload_n3 dX1_possibleSets_17 ?_
      refine ev_aload_n0 dX1_possibleSets_18 ?_
      refine gfX1_12 rfl (hC 96 rfl) dX1_possibleSets_19 ?_
      refine gfX1_89 rfl (hC 0 rfl) dX1_possibleSets_22 ?_
      refine ev_iand dX1_possibleSets_25 ?_
      rw [e0]
      first | refine ev_if_ne 74 (by decide) dX1_possibleSets_26 (fun h26 => ?_) (fun h26 => ?_)
      · refine ev_iinc3 dX1_possibleSets_74 ?_
        refine ev_goto 12 (by decide) dX1_possibleSets_77 ?_
        have hs2 := hs
        first | (rw [h62] at hs2; simp only [cond_true, cond_false] at hs2; (first | rw [nI_lit1] | rw [nI_0]); rw [← hs2]; exact ih (t + 1) _ (by omega) (by omega) (hS2 _) hx2) | (rw [hno h26] at hs2; simp only [cond_false, or_zero] at hs2; rw [← hs2]; exact ih (t + 1) _ (by omega) (by omega) hS (fun i hi hf => hx i (by by_cases hit : i = t; (rw [hit, hno h26] at hf; cases hf); omega) hf))
      · refine ev_aload_n0 dX1_possibleSets_29 ?_
        refine gfX1_30 rfl (hC 96 rfl) dX1_possibleSets_30 ?_
        refine ev_iload_n3 dX1_possibleSets_33 ?_
        refine ev_aload_n0 dX1_possibleSets_34 ?_
        refine gfX1_12 rfl (hC 96 rfl) dX1_possibleSets_35 ?_
        refine ev_aload_n0 dX1_possibleSets_38 ?_
        refine gfX1_12 rfl (hC 96 rfl) dX1_possibleSets_39 ?_
        refine gfX1_89 rfl (hC 0 rfl) dX1_possibleSets_42 ?_
        refine ev_iload_n3 dX1_possibleSets_45 ?_
        refine ev_ior dX1_possibleSets_46 ?_
        rw [e0]
        refine ev_cV1f okX0_keptIfDown lkX1_163 (Nat.le_of_ble_eq_true rfl) (Nat.le_of_ble_eq_true rfl) (hC 0 rfl) isO_0 (k_kid2 hW hI hS) dX1_possibleSets_47 ?_
        refine ev_iast 16 rfl rfl (hC 101 rfl) (by omega) dX1_possibleSets_50 ?_
        refine ev_iload_n1 dX1_possibleSets_51 ?_
        refine ev_aload_n0 dX1_possibleSets_52 ?_
        refine ev_aload_n0 dX1_possibleSets_53 ?_
        refine gfX1_30 rfl (hC 96 rfl) dX1_possibleSets_54 ?_
        refine ev_iload_n3 dX1_possibleSets_57 ?_
        refine ev_iald 16 rfl rfl (hC 101 rfl) (by omega) dX1_possibleSets_58 ?_
        rw [show st S 101 t (kst C (C 0 2 ||| nI t)) 101 t = kst C (C 0 2 ||| nI t) by rw [st_n, sr_s, upd_s]]
        refine ev_cV1f okX1_agreesWithSeen lkX1_201 (Nat.le_of_ble_eq_true rfl) (Nat.le_of_ble_eq_true rfl) (hC 96 rfl) isO_96 (k_agr hC hI (hS2 _) hse) dX1_possibleSets_59 ?_
        rw [← hfit h26]
        first | refine ev_if_eqB 71 (by decide) dX1_possibleSets_62 (fun h62 => ?_) (fun h62 => ?_)
        · refine ev_c0 dX1_possibleSets_71 ?_
          refine ev_ior dX1_possibleSets_72 ?_
          refine ev_istore_n1 dX1_possibleSets_73 ?_
          refine ev_iinc3 dX1_possibleSets_74 ?_
          refine ev_goto 12 (by decide) dX1_possibleSets_77 ?_
          have hs2 := hs
          first | (rw [h62] at hs2; simp only [cond_true, cond_false] at hs2; (first | rw [nI_lit1] | rw [nI_0]); rw [← hs2]; exact ih (t + 1) _ (by omega) (by omega) (hS2 _) hx2) | (rw [hno h26] at hs2; simp only [cond_false, or_zero] at hs2; rw [← hs2]; exact ih (t + 1) _ (by omega) (by omega) hS (fun i hi hf => hx i (by by_cases hit : i = t; (rw [hit, hno h26] at hf; cases hf); omega) hf))
        · refine ev_c1 dX1_possibleSets_65 ?_
          refine ev_iload_n3 dX1_possibleSets_66 ?_
          refine ev_ishl dX1_possibleSets_67 ?_
          refine ev_goto 72 (by decide) dX1_possibleSets_68 ?_
          refine ev_ior dX1_possibleSets_72 ?_
          refine ev_istore_n1 dX1_possibleSets_73 ?_
          refine ev_iinc3 dX1_possibleSets_74 ?_
          refine ev_goto 12 (by decide) dX1_possibleSets_77 ?_
          have hs2 := hs
          first | (rw [h62] at hs2; simp only [cond_true, cond_false] at hs2; (first | rw [nI_lit1] | rw [nI_0]); rw [← hs2]; exact ih (t + 1) _ (by omega) (by omega) (hS2 _) hx2) | (rw [hno h26] at hs2; simp only [cond_false, or_zero] at hs2; rw [← hs2]; exact ih (t + 1) _ (by omega) (by omega) hS (fun i hi hf => hx i (by by_cases hit : i = t; (rw [hit, hno h26] at hf; cases hf); omega) hf))
  have f0 : fit C 0 = false := rfl
  have e1 : mk (fit C) 1 = 0 := by
    show (0 : Int32) ||| (bif fit C 0 then (1 : Int32) <<< (nI 0 &&& 31) else 0) = 0
    rw [f0]
    rfl
  refine cnV okX1_possibleSets 3 rfl ?_
  show Ev ks mX1_possibleSets 0 [some (.inr 96), none, none, none] [] S _
  refine ev_c0 dX1_possibleSets_0 ?_
  rw [nI_0, ← e1]
  refine ev_istore_n1 dX1_possibleSets_1 ?_
  refine ev_aload_n0 dX1_possibleSets_2 ?_
  refine gfX1_12 rfl (hC 96 rfl) dX1_possibleSets_3 ?_
  refine ev_cV0f okX0_allSites lkX1_160 (Nat.le_of_ble_eq_true rfl) (Nat.le_of_ble_eq_true rfl) (hC 0 rfl) isO_0 (k_all2 hW hI hS hN) dX1_possibleSets_6 ?_
  refine ev_istore_n2 dX1_possibleSets_9 ?_
  refine ev_c1 dX1_possibleSets_10 ?_
  refine ev_istore_n3 dX1_possibleSets_11 ?_
  exact loop (N - 1) 1 S (by omega) (by omega) hS (fun i hi hf => by rw [show i = 0 by omega, f0] at hf; cases hf)
/-- how many below t are chosen and at v; the greatest such number -/
def tl (F : Nat → Bool) (g : Nat → Nat) (v t : Nat) : Nat := fb_ct (fun s => F s && decide (g s = v)) t
def mxl (F : Nat → Bool) (g : Nat → Nat) : Nat → Nat
  | 0 => 0
  | t + 1 => if F t = true then (if mxl F g t < tl F g (g t) (t + 1) then tl F g (g t) (t + 1) else mxl F g t) else mxl F g t
theorem tl_le (F : Nat → Bool) (g : Nat → Nat) (v t : Nat) : tl F g v t ≤ t := fb_ct_le _ _
theorem tl_hit {F : Nat → Bool} {g : Nat → Nat} {t : Nat} (h : F t = true) : tl F g (g t) (t + 1) = tl F g (g t) t + 1 := by
  unfold tl
  rw [fb_ct_succ]
  simp [h]
theorem tl_miss {F : Nat → Bool} {g : Nat → Nat} {v t : Nat} (h : F t = true → ¬ g t = v) : tl F g v (t + 1) = tl F g v t := by
  unfold tl
  rw [fb_ct_succ]
  cases hf : F t with
  | false => simp
  | true => simp [h hf]
theorem mxl_le (F : Nat → Bool) (g : Nat → Nat) : ∀ t, mxl F g t ≤ t
  | 0 => Nat.le_refl _
  | t + 1 => by
    have h1 := mxl_le F g t
    have h2 := tl_le F g (g t) (t + 1)
    show (if F t = true then (if mxl F g t < tl F g (g t) (t + 1) then tl F g (g t) (t + 1) else mxl F g t) else mxl F g t) ≤ t + 1
    split
    · split <;> omega
    · omega
theorem if_nI {a b : Nat} (ha : a < 2147483648) (hb : b < 2147483648) : (if nI a < nI b then nI b else nI a) = nI (if a < b then b else a) := by
  by_cases h : a < b
  · rw [if_pos h, if_pos (nI_lt h (by omega))]
  · rw [if_neg h, if_neg (by rw [Int32.lt_iff_toInt_lt, nI_toInt (by omega), nI_toInt (by omega)]; omega)]
/-- a site's receipts, were a set down -/
def gq (w : St) (q t : Nat) : Nat := kcn w (w 0 2 ||| nI t) q
theorem bt_x (x : Int32) (t : Nat) (ht : t < 32) : (x >>> (nI t &&& 31)) &&& nI 1 = bI (bt x t) := by rw [nI_lit1]; exact x_bit x t ht
theorem k_most {ks : List Nat} (hC : InC ks) {C S : St} {N q : Nat} (hI : Inv C) (hq : q < 4) (hS : Sm C S) (hN : 2 ^ nn C = N) (hx : ∀ t, t < N → fit C t = true → S 101 t = kst C (C 0 2 ||| nI t)) : Cn ks mX1_mostAlike yX1_mostAlike [.inr 96, .inl (mk (fit C) N), .inl (nI q)] S (Gi (nI (mxl (fit C) (gq C q) N)) (fun S' => Sm C S' ∧ S' 101 = S 101)) := by
  have hW : InW ks := hC.w
  obtain ⟨⟨hn, h2, h4⟩, -⟩ := wf_n hI
  obtain ⟨hsh, hN4, hN16⟩ := shl_pw h2 h4 hN
  have f0 : fit C 0 = false := rfl
  have loop : ∀ f t S' w, t + f = N → 1 ≤ t → Sm C S' → S' 101 = S 101 → (∀ v, v < 9 → S' 102 v = nI (tl (fit C) (gq C q) v t)) → Ev ks mX1_mostAlike 22 [some (.inr 96), some (.inl (mk (fit C) N)), some (.inl (nI q)), some (.inl (nI (mxl (fit C) (gq C q) t))), some (.inl (nI (N - 1))), some (.inl (nI t)), w] [] S' (Gi (nI (mxl (fit C) (gq C q) N)) (fun S' => Sm C S' ∧ S' 101 = S 101)) := by
    intro f
    induction f with
    | zero =>
      intro t S' w ht h1 hS' h101 htl
      refine ev_iload5 dX1_mostAlike_22 ?_
      refine ev_iload4 dX1_mostAlike_24 ?_
      first | refine ev_icmp_gtN 80 (by omega) (by omega) (by decide) dX1_mostAlike_26 (fun h26 => ?_) (fun h26 => by omega)
      refine ev_iload_n3 dX1_mostAlike_80 ?_
      refine ev_ireturn rfl dX1_mostAlike_81 ?_
      obtain rfl : t = N := by omega
      exact ⟨rfl, hS', h101⟩
    | succ f ih =>
      intro t S' w ht h1 hS' h101 htl
      have hbt : bt (mk (fit C) N) t = fit C t := by rw [b_mk _ _ (by omega), decide_eq_true (by omega), Bool.true_and]
      have hg : kcn C (C 0 2 ||| nI t) q = gq C q t := rfl
      have hg8 : gq C q t ≤ 8 := (kcn_le hI _ q).2
      have hm := mxl_le (fit C) (gq C q) t
      have ht2 := tl_le (fit C) (gq C q) (gq C q t) t
      have hs : mxl (fit C) (gq C q) (t + 1) = if fit C t = true then (if mxl (fit C) (gq C q) t < tl (fit C) (gq C q) (gq C q t) (t + 1) then tl (fit C) (gq C q) (gq C q t) (t + 1) else mxl (fit C) (gq C q) t) else mxl (fit C) (gq C q) t := rfl
      have hst : ∀ x, st S' 102 (gq C q t) x 102 (gq C q t) = x := fun x => by rw [st_n, sr_s, upd_s]
      refine ev_iload5 dX1_mostAlike_22 ?_
      refine ev_iload4 dX1_mostAlike_24 ?_
      first | refine ev_icmp_gtN 80 (by omega) (by omega) (by decide) dX1_mostAlike_26 (fun h26 => by omega) (fun h26 => ?_)
      refine ev_iload_n1 dX1_mostAlike_29 ?_
      refine ev_iload5 dX1_mostAlike_30 ?_
      refine ev_ishr dX1_mostAlike_32 ?_
      refine ev_c1 dX1_mostAlike_33 ?_
      refine ev_iand dX1_mostAlike_34 ?_
      rw [bt_x _ t (by omega), hbt]
      first | refine ev_if_eqB 74 (by decide) dX1_mostAlike_35 (fun h35 => ?_) (fun h35 => ?_)
      · refine ev_iinc5 dX1_mostAlike_74 ?_
        refine ev_goto 22 (by decide) dX1_mostAlike_77 ?_
        rw [h35] at hs
        simp only [if_true, Bool.false_eq_true, if_false] at hs
        first | (rw [← hs]; refine ih (t + 1) _ _ (by omega) (by omega) (fun k a b => by rw [st_n, sr_n b]; exact hS' k a b) (by rw [st_n, sr_n (by omega)]; exact h101) (fun v hv => ?_); rw [st_n, sr_s]; by_cases hvg : v = gq C q t; (rw [hvg, upd_s]); (rw [upd_n hvg, htl v hv, tl_miss (fun _ h => hvg h.symm)])) | (rw [← hs]; refine ih (t + 1) _ _ (by omega) (by omega) hS' h101 (fun v hv => ?_); rw [htl v hv, tl_miss (fun h => by rw [h35] at h; cases h)])
      · refine ev_aload_n0 dX1_mostAlike_38 ?_
        refine gfX1_30 rfl (hC 96 rfl) dX1_mostAlike_39 ?_
        refine ev_iload5 dX1_mostAlike_42 ?_
        refine ev_iald 16 rfl rfl (hC 101 rfl) (by omega) dX1_mostAlike_44 ?_
        refine ev_iload_n2 dX1_mostAlike_45 ?_
        rw [h101, hx t (by omega) h35]
        refine ev_cS2f okX0_receiptsIn lkX1_204 (Nat.le_of_ble_eq_true rfl) (Nat.le_of_ble_eq_true rfl) c_X0_receiptsIn dX1_mostAlike_46 ?_
        rw [kst_in hI _ hq, hg]
        refine ev_istore6 dX1_mostAlike_49 ?_
        refine ev_aload_n0 dX1_mostAlike_51 ?_
        refine gfX1_33 rfl (hC 96 rfl) dX1_mostAlike_52 ?_
        refine ev_iload6 dX1_mostAlike_55 ?_
        refine ev_dup2 dX1_mostAlike_57 ?_
        refine ev_iald 9 rfl rfl (hC 102 rfl) (by omega) dX1_mostAlike_58 ?_
        rw [htl _ (by omega)]
        refine ev_c1 dX1_mostAlike_59 ?_
        first | refine ev_iaddN dX1_mostAlike_60 ?_ | refine ev_iadd dX1_mostAlike_60 ?_
        refine ev_iast 9 rfl rfl (hC 102 rfl) (by omega) dX1_mostAlike_61 ?_
        refine ev_iload_n3 dX1_mostAlike_62 ?_
        refine ev_aload_n0 dX1_mostAlike_63 ?_
        refine gfX1_33 rfl (hC 96 rfl) dX1_mostAlike_64 ?_
        refine ev_iload6 dX1_mostAlike_67 ?_
        refine ev_iald 9 rfl rfl (hC 102 rfl) (by omega) dX1_mostAlike_69 ?_
        rw [hst]
        refine ev_max lkX1_172 (by decide) (by decide) kx_s kx_i kx_c dX1_mostAlike_70 ?_
        rw [if_nI (by omega) (by omega), ← tl_hit h35]
        refine ev_istore_n3 dX1_mostAlike_73 ?_
        refine ev_iinc5 dX1_mostAlike_74 ?_
        refine ev_goto 22 (by decide) dX1_mostAlike_77 ?_
        rw [h35] at hs
        simp only [if_true, Bool.false_eq_true, if_false] at hs
        first | (rw [← hs]; refine ih (t + 1) _ _ (by omega) (by omega) (fun k a b => by rw [st_n, sr_n b]; exact hS' k a b) (by rw [st_n, sr_n (by omega)]; exact h101) (fun v hv => ?_); rw [st_n, sr_s]; by_cases hvg : v = gq C q t; (rw [hvg, upd_s]); (rw [upd_n hvg, htl v hv, tl_miss (fun _ h => hvg h.symm)])) | (rw [← hs]; refine ih (t + 1) _ _ (by omega) (by omega) hS' h101 (fun v hv => ?_); rw [htl v hv, tl_miss (fun h => by rw [h35] at h; cases h)])
  refine cnV okX1_mostAlike 4 rfl ?_
  show Ev ks mX1_mostAlike 0 [some (.inr 96), some (.inl (mk (fit C) N)), some (.inl (nI q)), none, none, none, none] [] S _
  have hS3 : Sm C (sr S 102 (fun _ => nI 0)) := fun k a b => by rw [sr_n b]; exact hS k a b
  refine ev_aload_n0 dX1_mostAlike_0 ?_
  refine gfX1_33 rfl (hC 96 rfl) dX1_mostAlike_1 ?_
  refine ev_c0 dX1_mostAlike_4 ?_
  refine ev_fill okJ7_fill_53178 lkX1_207 (Nat.le_of_ble_eq_true rfl) (Nat.le_of_ble_eq_true rfl) (c_J7_fill (hC 102 rfl) rfl) dX1_mostAlike_5 ?_
  refine ev_c0 dX1_mostAlike_8 ?_
  refine ev_istore_n3 dX1_mostAlike_9 ?_
  refine ev_aload_n0 dX1_mostAlike_10 ?_
  refine gfX1_12 rfl (hC 96 rfl) dX1_mostAlike_11 ?_
  refine ev_cV0f okX0_allSites lkX1_160 (Nat.le_of_ble_eq_true rfl) (Nat.le_of_ble_eq_true rfl) (hC 0 rfl) isO_0 (k_all2 hW hI hS3 hN) dX1_mostAlike_14 ?_
  refine ev_istore4 dX1_mostAlike_17 ?_
  refine ev_c1 dX1_mostAlike_19 ?_
  refine ev_istore5 dX1_mostAlike_20 ?_
  refine loop (N - 1) 1 _ none (by omega) (by omega) hS3 rfl (fun v hv => ?_)
  rw [sr_s, tl_miss (fun h => by rw [f0] at h; cases h)]
  rfl
def Ms (M S : St) : Prop := ∀ k, k ≠ 110 → k ≠ 111 → S k = M k
theorem m_many {ks : List Nat} (hM : InM ks) {C M S : St} (hT : Top C M) (hS : Ms M S) : Cn ks mX2_many yX2_many [.inr 103] S (Ri (nI (nn C)) S) := c_X2_many hM (by rw [hS 104 (by omega) (by omega)]; exact (mf_n hT.1).1)
theorem m_fits {ks : List Nat} (hM : InM ks) {C M S : St} (hT : Top C M) (hS : Ms M S) {t : Nat} (ht : t < 16) : Cn ks mX2_fits yX2_fits [.inr 103, .inl (nI t)] S (Gi (bI (fit C t)) (fun S' => (∀ k, k ≠ 110 → S' k = S k) ∧ (fit C t = true → S' 110 = kR (kcn C (C 0 2 ||| nI t))))) := by
  have e104 := hS 104 (by omega) (by omega)
  have s2 : S 104 2 = C 0 2 := by rw [e104]; exact (mf_n hT.1).2.2
  obtain ⟨se, s6, es, em, hj⟩ := hT.2.2.2
  have etn : tn (C 96 8) = se := by rw [es]; exact tn_nI (by omega)
  have e103 : S 103 5 = nI se := by rw [hS 103 (by omega) (by omega)]; exact em
  have e108 := hS 108 (by omega) (by omega)
  have e109 := hS 109 (by omega) (by omega)
  have hK := mf_k hT.1.1 (C 0 2 ||| nI t)
  have hfit : ¬ t = 0 → nI t &&& C 0 2 = 0 → fit C t = agj C (C 0 2 ||| nI t) se := fun h0 h => by unfold fit; rw [decide_eq_true h0, decide_eq_true h, ← etn]; rfl
  have hno : ¬ nI t &&& C 0 2 = 0 → fit C t = false := fun h => by unfold fit; rw [decide_eq_false h]; simp
  have hz : t = 0 → fit C t = false := fun h => by rw [h]; rfl
  generalize hD : C 0 2 ||| nI t = D at *
  have loop : ∀ f j, j + f = se → fit C t = agj C D se → Ev ks mX2_fits 33 [some (.inr 103), some (.inl (nI t)), some (.inl (bI (agj C D j))), some (.inl (nI j))] [] (sr S 110 (kR (kcn C D))) (Gi (bI (fit C t)) (fun S' => (∀ k, k ≠ 110 → S' k = S k) ∧ (fit C t = true → S' 110 = kR (kcn C D)))) := by
    have q103 : sr S 110 (kR (kcn C D)) 103 5 = nI se := e103
    intro f
    induction f with
    | zero =>
      intro j hjs hf
      refine ev_iload_n3 dX2_fits_33 ?_
      refine ev_aload_n0 dX2_fits_34 ?_
      refine gfX2_75 rfl (hM 103 rfl) dX2_fits_35 ?_
      rw [q103]
      first | refine ev_icmp_geN 77 (by omega) (by omega) (by decide) dX2_fits_38 (fun h38 => ?_) (fun h38 => by omega)
      refine ev_iload_n2 dX2_fits_77 ?_
      refine ev_zreturn (bI_01 _) rfl dX2_fits_78 ?_
      refine ⟨?_, fun k hk => sr_n hk, fun _ => rfl⟩
      rw [hf, show j = se by omega]
    | succ f ih =>
      intro j hjs hf
      obtain ⟨a, b, ha4, hb8, ca, ma, cb, mb⟩ := hj j (by omega)
      have q108 : sr S 110 (kR (kcn C D)) 108 j = nI a := by show S 108 j = nI a; rw [e108]; exact ma
      have q109 : sr S 110 (kR (kcn C D)) 109 j = nI b := by show S 109 j = nI b; rw [e109]; exact mb
      have q110 : sr S 110 (kR (kcn C D)) 110 a = nI (kcn C D a) := rfl
      have pT : agj C D j = true → nI (kcn C D a) = nI b → bI (agj C D (j + 1)) = nI 1 := fun h1 h2 => by
        have : agj C D (j + 1) = true := decide_eq_true (fun i hi => by
          by_cases hij : i = j
          · rw [hij, ca, tn_nI (by omega), cb]; exact h2
          · exact (of_decide_eq_true h1) i (by omega))
        rw [this, nI_lit1]; rfl
      have pF1 : agj C D j = false → bI (agj C D (j + 1)) = nI 0 := fun h1 => by
        have : agj C D (j + 1) = false := decide_eq_false (fun hh => of_decide_eq_false h1 (fun i hi => hh i (by omega)))
        rw [this, nI_0]; rfl
      have pF2 : ¬ nI (kcn C D a) = nI b → bI (agj C D (j + 1)) = nI 0 := fun h1 => by
        have : agj C D (j + 1) = false := decide_eq_false (fun hh => h1 (by have := hh j (by omega); rw [ca, tn_nI (by omega), cb] at this; exact this))
        rw [this, nI_0]; rfl
      have hi := ih (j + 1) (by omega) hf
      refine ev_iload_n3 dX2_fits_33 ?_
      refine ev_aload_n0 dX2_fits_34 ?_
      refine gfX2_75 rfl (hM 103 rfl) dX2_fits_35 ?_
      rw [q103]
      first | refine ev_icmp_geN 77 (by omega) (by omega) (by decide) dX2_fits_38 (fun h38 => by omega) (fun h38 => ?_)
      refine ev_iload_n2 dX2_fits_41 ?_
      first | refine ev_if_eqB 69 (by decide) dX2_fits_42 (fun h42 => ?_) (fun h42 => ?_)
      · refine ev_c0 dX2_fits_69 ?_
        refine ev_istore_n2 dX2_fits_70 ?_
        refine ev_iinc3 dX2_fits_71 ?_
        refine ev_goto 33 (by decide) dX2_fits_74 ?_
        first | rw [pT h42 h62] at hi | rw [pF1 h42] at hi | rw [pF2 h62] at hi
        exact hi
      · refine ev_aload_n0 dX2_fits_45 ?_
        refine gfX2_29 rfl (hM 103 rfl) dX2_fits_46 ?_
        refine ev_aload_n0 dX2_fits_49 ?_
        refine gfX2_23 rfl (hM 103 rfl) dX2_fits_50 ?_
        refine ev_iload_n3 dX2_fits_53 ?_
        refine ev_iald 6 rfl rfl (hM 108 rfl) (by omega) dX2_fits_54 ?_
        rw [q108]
        refine ev_iald 4 rfl rfl (hM 110 rfl) (by omega) dX2_fits_55 ?_
        refine ev_aload_n0 dX2_fits_56 ?_
        refine gfX2_26 rfl (hM 103 rfl) dX2_fits_57 ?_
        refine ev_iload_n3 dX2_fits_60 ?_
        refine ev_iald 6 rfl rfl (hM 109 rfl) (by omega) dX2_fits_61 ?_
        rw [q109, q110]
        first | refine ev_icmp_ne 69 (by decide) dX2_fits_62 (fun h62 => ?_) (fun h62 => ?_)
        · refine ev_c0 dX2_fits_69 ?_
          refine ev_istore_n2 dX2_fits_70 ?_
          refine ev_iinc3 dX2_fits_71 ?_
          refine ev_goto 33 (by decide) dX2_fits_74 ?_
          first | rw [pT h42 h62] at hi | rw [pF1 h42] at hi | rw [pF2 h62] at hi
          exact hi
        · refine ev_c1 dX2_fits_65 ?_
          refine ev_goto 70 (by decide) dX2_fits_66 ?_
          refine ev_istore_n2 dX2_fits_70 ?_
          refine ev_iinc3 dX2_fits_71 ?_
          refine ev_goto 33 (by decide) dX2_fits_74 ?_
          first | rw [pT h42 h62] at hi | rw [pF1 h42] at hi | rw [pF2 h62] at hi
          exact hi
  refine cnV okX2_fits 2 rfl ?_
  show Ev ks mX2_fits 0 [some (.inr 103), some (.inl (nI t)), none, none] [] S _
  refine ev_iload_n1 dX2_fits_0 ?_
  first | refine ev_if_eqN 15 (by omega) (by decide) dX2_fits_1 (fun h1 => ?_) (fun h1 => ?_)
  · refine ev_c0 dX2_fits_15 ?_
    refine ev_zreturn zr0 rfl dX2_fits_16 ?_
    have hf : fit C t = false := by first | exact hz h1 | exact hno h12
    rw [hf]
    exact ⟨rfl, fun _ _ => rfl, fun h => by cases h⟩
  · refine ev_iload_n1 dX2_fits_4 ?_
    refine ev_aload_n0 dX2_fits_5 ?_
    refine gfX2_7 rfl (hM 103 rfl) dX2_fits_6 ?_
    refine ev_c2 dX2_fits_9 ?_
    refine ev_iald 1263 rfl rfl (hM 104 rfl) (by omega) dX2_fits_10 ?_
    refine ev_iand dX2_fits_11 ?_
    rw [s2]
    first | refine ev_if_eq 17 (by decide) dX2_fits_12 (fun h12 => ?_) (fun h12 => ?_)
    · refine ev_aload_n0 dX2_fits_17 ?_
      refine ev_aload_n0 dX2_fits_18 ?_
      refine gfX2_7 rfl (hM 103 rfl) dX2_fits_19 ?_
      refine ev_c2 dX2_fits_22 ?_
      refine ev_iald 1263 rfl rfl (hM 104 rfl) (by omega) dX2_fits_23 ?_
      refine ev_iload_n1 dX2_fits_24 ?_
      rw [s2]
      refine ev_ior dX2_fits_25 ?_
      rw [hD]
      refine ev_cV1v okX2_findKept lkX2_124 (Nat.le_of_ble_eq_true rfl) (Nat.le_of_ble_eq_true rfl) (hM 103 rfl) isO_103 (m_find hM hT.1 e104) dX2_fits_26 ?_
      refine ev_c1 dX2_fits_29 ?_
      rw [show nI 1 = bI (agj C D 0) by rw [show agj C D 0 = true from decide_eq_true (fun i hi => by omega), nI_lit1]; rfl]
      refine ev_istore_n2 dX2_fits_30 ?_
      refine ev_c0 dX2_fits_31 ?_
      refine ev_istore_n3 dX2_fits_32 ?_
      exact loop se 0 (by omega) (hfit (by omega) h12)
    · refine ev_c0 dX2_fits_15 ?_
      refine ev_zreturn zr0 rfl dX2_fits_16 ?_
      have hf : fit C t = false := by first | exact hz h1 | exact hno h12
      rw [hf]
      exact ⟨rfl, fun _ _ => rfl, fun h => by cases h⟩
