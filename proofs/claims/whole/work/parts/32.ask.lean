theorem Ms_fit {M S S' : St} (h : Ms M S) (h' : ∀ k, k ≠ 110 → S' k = S k) : Ms M S' := fun k a b => by rw [h' k a]; exact h k a b
theorem m_greatest {ks : List Nat} (hM : InM ks) {C M S : St} {N q : Nat} (hT : Top C M) (hS : Ms M S) (hN : 2 ^ nn C = N) (hq : q < 4) : Cn ks mX2_greatest yX2_greatest [.inr 103, .inl (nI q)] S (Gi (nI (mxl (fit C) (gq C q) N)) (Ms M)) := by
  have hI := hT.1.1
  obtain ⟨⟨hn, h2, h4⟩, -⟩ := wf_n hI
  obtain ⟨hsh, hN4, hN16⟩ := shl_pw h2 h4 hN
  have loop : ∀ f t S, t + f = N → Ms M S → (∀ v, v < 9 → S 111 v = nI (tl (fit C) (gq C q) v t)) → Ev ks mX2_greatest 25 [some (.inr 103), some (.inl (nI q)), some (.inl (nI (mxl (fit C) (gq C q) t))), some (.inl (nI t))] [] S (Gi (nI (mxl (fit C) (gq C q) N)) (Ms M)) := by
    intro f
    induction f with
    | zero =>
      intro t S ht hS htl
      refine ev_iload_n3 dX2_greatest_25 ?_
      refine ev_c1 dX2_greatest_26 ?_
      refine ev_aload_n0 dX2_greatest_27 ?_
      refine ev_cV0f okX2_many lkX2_82 (Nat.le_of_ble_eq_true rfl) (Nat.le_of_ble_eq_true rfl) (hM 103 rfl) isO_103 (m_many hM hT hS) dX2_greatest_28 ?_
      refine ev_ishl dX2_greatest_31 ?_
      rw [hsh]
      first | refine ev_icmp_geN 95 (by omega) (by omega) (by decide) dX2_greatest_32 (fun h32 => ?_) (fun h32 => by omega)
      refine ev_iload_n2 dX2_greatest_95 ?_
      refine ev_ireturn rfl dX2_greatest_96 ?_
      obtain rfl : t = N := by omega
      exact ⟨rfl, hS⟩
    | succ f ih =>
      intro t S ht hS htl
      have hg8 : gq C q t ≤ 8 := (kcn_le hI _ q).2
      have hm := mxl_le (fit C) (gq C q) t
      have ht2 := tl_le (fit C) (gq C q) (gq C q t) t
      have hs : mxl (fit C) (gq C q) (t + 1) = if fit C t = true then (if mxl (fit C) (gq C q) t < tl (fit C) (gq C q) (gq C q t) (t + 1) then tl (fit C) (gq C q) (gq C q t) (t + 1) else mxl (fit C) (gq C q) t) else mxl (fit C) (gq C q) t := rfl
      refine ev_iload_n3 dX2_greatest_25 ?_
      refine ev_c1 dX2_greatest_26 ?_
      refine ev_aload_n0 dX2_greatest_27 ?_
      refine ev_cV0f okX2_many lkX2_82 (Nat.le_of_ble_eq_true rfl) (Nat.le_of_ble_eq_true rfl) (hM 103 rfl) isO_103 (m_many hM hT hS) dX2_greatest_28 ?_
      refine ev_ishl dX2_greatest_31 ?_
      rw [hsh]
      first | refine ev_icmp_geN 95 (by omega) (by omega) (by decide) dX2_greatest_32 (fun h32 => by omega) (fun h32 => ?_)
      refine ev_aload_n0 dX2_greatest_35 ?_
      refine ev_iload_n3 dX2_greatest_36 ?_
      refine ev_cV1p okX2_fits lkX2_161 (Nat.le_of_ble_eq_true rfl) (Nat.le_of_ble_eq_true rfl) (hM 103 rfl) isO_103 (m_fits hM hT hS (by omega)) dX2_greatest_37 (fun S37 hS37 => ?_)
      first | refine ev_if_eqB 89 (by decide) dX2_greatest_40 (fun h40 => ?_) (fun h40 => ?_)
      · refine ev_iinc3 dX2_greatest_89 ?_
        refine ev_goto 25 (by decide) dX2_greatest_92 ?_
        rw [h40] at hs
        simp only [if_true, Bool.false_eq_true, if_false] at hs
        first | (rw [tl_hit h40, if_neg (Nat.not_lt.mpr h70)] at hs; have hi := ih (t + 1) _ (by omega) (hfin _ rfl).1 (hfin _ rfl).2; rw [hs] at hi; exact hi) | (rw [tl_hit h40, if_pos h70] at hs; have hi := ih (t + 1) _ (by omega) (hfin _ rfl).1 (hfin _ rfl).2; rw [hs] at hi; exact hi) | (rw [← hs]; refine ih (t + 1) _ (by omega) (Ms_fit hS hS37.1) (fun v hv => ?_); rw [hS37.1 111 (by omega), htl v hv, tl_miss (fun h => by rw [h40] at h; cases h)])
      · have h110 : S37 110 q = nI (gq C q t) := by rw [hS37.2 h40]; rfl
        have h111 : ∀ v, v < 9 → S37 111 v = nI (tl (fit C) (gq C q) v t) := fun v hv => by rw [hS37.1 111 (by omega)]; exact htl v hv
        have hS4 : Ms M S37 := Ms_fit hS hS37.1
        have hst : ∀ x, st S37 111 (gq C q t) x 111 (gq C q t) = x := fun x => by rw [st_n, sr_s, upd_s]
        have hst0 : ∀ x, st S37 111 (gq C q t) x 110 q = nI (gq C q t) := fun x => by rw [st_n, sr_n (by omega)]; exact h110
        have hfin : ∀ x, x = nI (tl (fit C) (gq C q) (gq C q t) t + 1) → Ms M (st S37 111 (gq C q t) x) ∧ ∀ v, v < 9 → st S37 111 (gq C q t) x 111 v = nI (tl (fit C) (gq C q) v (t + 1)) := fun x hx => by
          refine ⟨fun k a b => by rw [st_n, sr_n b]; exact hS4 k a b, fun v hv => ?_⟩
          rw [st_n, sr_s]
          by_cases hvg : v = gq C q t
          · rw [hvg, upd_s, tl_hit h40]; exact hx
          · rw [upd_n hvg, h111 v hv, tl_miss (fun _ h => hvg h.symm)]
        refine ev_aload_n0 dX2_greatest_43 ?_
        refine gfX2_32 rfl (hM 103 rfl) dX2_greatest_44 ?_
        refine ev_aload_n0 dX2_greatest_47 ?_
        refine gfX2_29 rfl (hM 103 rfl) dX2_greatest_48 ?_
        refine ev_iload_n1 dX2_greatest_51 ?_
        refine ev_iald 4 rfl rfl (hM 110 rfl) (by omega) dX2_greatest_52 ?_
        rw [h110]
        refine ev_dup2 dX2_greatest_53 ?_
        refine ev_iald 9 rfl rfl (hM 111 rfl) (by omega) dX2_greatest_54 ?_
        rw [h111 _ (by omega)]
        refine ev_c1 dX2_greatest_55 ?_
        first | refine ev_iaddN dX2_greatest_56 ?_ | refine ev_iadd dX2_greatest_56 ?_
        refine ev_iast 9 rfl rfl (hM 111 rfl) (by omega) dX2_greatest_57 ?_
        refine ev_aload_n0 dX2_greatest_58 ?_
        refine gfX2_32 rfl (hM 103 rfl) dX2_greatest_59 ?_
        refine ev_aload_n0 dX2_greatest_62 ?_
        refine gfX2_29 rfl (hM 103 rfl) dX2_greatest_63 ?_
        refine ev_iload_n1 dX2_greatest_66 ?_
        refine ev_iald 4 rfl rfl (hM 110 rfl) (by omega) dX2_greatest_67 ?_
        rw [hst0]
        refine ev_iald 9 rfl rfl (hM 111 rfl) (by omega) dX2_greatest_68 ?_
        rw [hst]
        refine ev_iload_n2 dX2_greatest_69 ?_
        first | refine ev_icmp_leN 87 (by omega) (by omega) (by decide) dX2_greatest_70 (fun h70 => ?_) (fun h70 => ?_)
        · refine ev_iload_n2 dX2_greatest_87 ?_
          refine ev_istore_n2 dX2_greatest_88 ?_
          refine ev_iinc3 dX2_greatest_89 ?_
          refine ev_goto 25 (by decide) dX2_greatest_92 ?_
          rw [h40] at hs
          simp only [if_true, Bool.false_eq_true, if_false] at hs
          first | (rw [tl_hit h40, if_neg (Nat.not_lt.mpr h70)] at hs; have hi := ih (t + 1) _ (by omega) (hfin _ rfl).1 (hfin _ rfl).2; rw [hs] at hi; exact hi) | (rw [tl_hit h40, if_pos h70] at hs; have hi := ih (t + 1) _ (by omega) (hfin _ rfl).1 (hfin _ rfl).2; rw [hs] at hi; exact hi) | (rw [← hs]; refine ih (t + 1) _ (by omega) (Ms_fit hS hS37.1) (fun v hv => ?_); rw [hS37.1 111 (by omega), htl v hv, tl_miss (fun h => by rw [h40] at h; cases h)])
        · refine ev_aload_n0 dX2_greatest_73 ?_
          refine gfX2_32 rfl (hM 103 rfl) dX2_greatest_74 ?_
          refine ev_aload_n0 dX2_greatest_77 ?_
          refine gfX2_29 rfl (hM 103 rfl) dX2_greatest_78 ?_
          refine ev_iload_n1 dX2_greatest_81 ?_
          refine ev_iald 4 rfl rfl (hM 110 rfl) (by omega) dX2_greatest_82 ?_
          rw [hst0]
          refine ev_iald 9 rfl rfl (hM 111 rfl) (by omega) dX2_greatest_83 ?_
          rw [hst]
          refine ev_goto 88 (by decide) dX2_greatest_84 ?_
          refine ev_istore_n2 dX2_greatest_88 ?_
          refine ev_iinc3 dX2_greatest_89 ?_
          refine ev_goto 25 (by decide) dX2_greatest_92 ?_
          rw [h40] at hs
          simp only [if_true, Bool.false_eq_true, if_false] at hs
          first | (rw [tl_hit h40, if_neg (Nat.not_lt.mpr h70)] at hs; have hi := ih (t + 1) _ (by omega) (hfin _ rfl).1 (hfin _ rfl).2; rw [hs] at hi; exact hi) | (rw [tl_hit h40, if_pos h70] at hs; have hi := ih (t + 1) _ (by omega) (hfin _ rfl).1 (hfin _ rfl).2; rw [hs] at hi; exact hi) | (rw [← hs]; refine ih (t + 1) _ (by omega) (Ms_fit hS hS37.1) (fun v hv => ?_); rw [hS37.1 111 (by omega), htl v hv, tl_miss (fun h => by rw [h40] at h; cases h)])
  have loop0 : ∀ f v S, v + f = 9 → Ms M S → (∀ i, i < v → S 111 i = nI 0) → Ev ks mX2_greatest 2 [some (.inr 103), some (.inl (nI q)), some (.inl (nI v)), none] [] S (Gi (nI (mxl (fit C) (gq C q) N)) (Ms M)) := by
    intro f
    induction f with
    | zero =>
      intro v S hv hS hz
      refine ev_iload_n2 dX2_greatest_2 ?_
      refine ev_bipush (nI 8) kb_8 dX2_greatest_3 ?_
      first | refine ev_icmp_gtN 21 (by omega) (by omega) (by decide) dX2_greatest_5 (fun h5 => ?_) (fun h5 => by omega)
      refine ev_c0 dX2_greatest_21 ?_
      refine ev_istore_n2 dX2_greatest_22 ?_
      refine ev_c0 dX2_greatest_23 ?_
      refine ev_istore_n3 dX2_greatest_24 ?_
      exact loop N 0 S (by omega) hS (fun i hi => hz i (by omega))
    | succ f ih =>
      intro v S hv hS hz
      refine ev_iload_n2 dX2_greatest_2 ?_
      refine ev_bipush (nI 8) kb_8 dX2_greatest_3 ?_
      first | refine ev_icmp_gtN 21 (by omega) (by omega) (by decide) dX2_greatest_5 (fun h5 => by omega) (fun h5 => ?_)
      refine ev_aload_n0 dX2_greatest_8 ?_
      refine gfX2_32 rfl (hM 103 rfl) dX2_greatest_9 ?_
      refine ev_iload_n2 dX2_greatest_12 ?_
      refine ev_c0 dX2_greatest_13 ?_
      refine ev_iast 9 rfl rfl (hM 111 rfl) (by omega) dX2_greatest_14 ?_
      refine ev_iinc2 dX2_greatest_15 ?_
      refine ev_goto 2 (by decide) dX2_greatest_18 ?_
      refine ih (v + 1) _ (by omega) (fun k a b => by rw [st_n, sr_n b]; exact hS k a b) (fun i hi => ?_)
      rw [st_n, sr_s]
      by_cases hiv : i = v
      · rw [hiv, upd_s]
      · rw [upd_n hiv]; exact hz i (by omega)
  refine cnV okX2_greatest 2 rfl ?_
  show Ev ks mX2_greatest 0 [some (.inr 103), some (.inl (nI q)), none, none] [] S _
  refine ev_c0 dX2_greatest_0 ?_
  refine ev_istore_n2 dX2_greatest_1 ?_
  exact loop0 9 0 S (by omega) hS (fun i hi => by omega)
/-- the first that is chosen, below t -/
def fsn (F : Nat → Bool) : Nat → Int32
  | 0 => -9
  | t + 1 => if F t = true then (if fb_ct F t = 0 then nI t else fsn F t) else fsn F t
theorem fsn_none {F : Nat → Bool} : ∀ {n : Nat}, (∀ k, k < n → F k = false) → fsn F n = -9
  | 0, _ => rfl
  | n + 1, h => by
    show (if F n = true then (if fb_ct F n = 0 then nI n else fsn F n) else fsn F n) = -9
    rw [h n (by omega)]
    exact fsn_none (fun k hk => h k (by omega))
theorem fsn_hit {F : Nat → Bool} {i : Nat} (hi : F i = true) (hb : ∀ k, k < i → F k = false) : ∀ {n : Nat}, i < n → fsn F n = nI i
  | 0, h => by omega
  | n + 1, h => by
    show (if F n = true then (if fb_ct F n = 0 then nI n else fsn F n) else fsn F n) = nI i
    by_cases hn : i = n
    · rw [← hn, if_pos hi, if_pos (fb_ct_zero.mpr hb)]
    · have e := fsn_hit hi hb (n := n) (by omega)
      have e0 : ¬ fb_ct F n = 0 := fun h0 => by
        have := fb_ct_zero.mp h0 i (by omega)
        rw [hi] at this
        cases this
      rw [if_neg e0, e]
      exact ite_self _
theorem nthF_none {x : Int32} (h : ∀ k, bt x k = false) : ∀ f c, nthF x 0 f c = -9
  | 0, _ => rfl
  | f + 1, c => by
    show (if bt x c = true then (if fb_ct (bt x) c = 0 then nI c else nthF x 0 f (c + 1)) else nthF x 0 f (c + 1)) = -9
    rw [h c]
    exact nthF_none h f (c + 1)
theorem nthF_hit {x : Int32} {i : Nat} (hi : bt x i = true) (hb : ∀ k, k < i → bt x k = false) : ∀ f c, c ≤ i → i < c + f → nthF x 0 f c = nI i
  | 0, c, h1, h2 => by omega
  | f + 1, c, h1, h2 => by
    show (if bt x c = true then (if fb_ct (bt x) c = 0 then nI c else nthF x 0 f (c + 1)) else nthF x 0 f (c + 1)) = nI i
    by_cases hn : c = i
    · rw [hn, if_pos hi, if_pos (fb_ct_zero.mpr hb)]
    · rw [hb c (by omega)]
      exact nthF_hit hi hb f (c + 1) (by omega) (by omega)
theorem nth_fsn {F : Nat → Bool} {N : Nat} (hN : N ≤ 32) : nth (mk F N) 0 = fsn F N := by
  have hb : ∀ k, bt (mk F N) k = (decide (k < N) && F k) := b_mk F N hN
  by_cases h0 : fb_ct F N = 0
  · have hz := fb_ct_zero.mp h0
    rw [fsn_none hz]
    refine nthF_none (fun k => ?_) 32 0
    rw [hb]
    by_cases hk : k < N
    · rw [hz k hk]; simp
    · simp [hk]
  · obtain ⟨i, h1, h2, h3⟩ := fb_ct_kth (p := F) (k := 0) (n := N) (by omega)
    have hz := fb_ct_zero.mp h3
    rw [fsn_hit h2 hz h1]
    refine nthF_hit (by rw [hb, h2]; simp [h1]) (fun k hk => by rw [hb, hz k hk]; simp) 32 0 (by omega) (by omega)
theorem Se_of {C M : St} (hT : Top C M) : ∃ se, Se C se := by
  obtain ⟨se, s6, es, em, hj⟩ := hT.2.2.2
  refine ⟨se, s6, es, fun j hjs => ?_⟩
  obtain ⟨a, b, h1, h2, h3, -, h5, -⟩ := hj j hjs
  exact ⟨a, b, h1, h2, h3, h5⟩
theorem m_which {ks : List Nat} (hM : InM ks) {C M S : St} {N c : Nat} (hT : Top C M) (hS : Ms M S) (hN : 2 ^ nn C = N) (hc : c < 2) : Cn ks mX2_which yX2_which [.inr 103, .inl (nI c)] S (Gi (if c = 0 then nI (fb_ct (fit C) N) else fsn (fit C) N) (Ms M)) := by
  have hI := hT.1.1
  obtain ⟨⟨hn, h2, h4⟩, -⟩ := wf_n hI
  obtain ⟨hsh, hN4, hN16⟩ := shl_pw h2 h4 hN
  have loop : ∀ f t S, t + f = N → Ms M S → Ev ks mX2_which 19 [some (.inr 103), some (.inl (nI c)), some (.inl (nI (fb_ct (fit C) t))), some (.inl (fsn (fit C) t)), some (.inl (nI t))] [] S (Gi (if c = 0 then nI (fb_ct (fit C) N) else fsn (fit C) N) (Ms M)) := by
    intro f
    induction f with
    | zero =>
      intro t S ht hS
      refine ev_iload4 dX2_which_19 ?_
      refine ev_c1 dX2_which_21 ?_
      refine ev_aload_n0 dX2_which_22 ?_
      refine ev_cV0f okX2_many lkX2_82 (Nat.le_of_ble_eq_true rfl) (Nat.le_of_ble_eq_true rfl) (hM 103 rfl) isO_103 (m_many hM hT hS) dX2_which_23 ?_
      refine ev_ishl dX2_which_26 ?_
      rw [hsh]
      first | refine ev_icmp_geN 59 (by omega) (by omega) (by decide) dX2_which_27 (fun h27 => ?_) (fun h27 => by omega)
      refine ev_iload_n1 dX2_which_59 ?_
      first | refine ev_if_neN 67 (by omega) (by decide) dX2_which_60 (fun h60 => ?_) (fun h60 => ?_)
      · refine ev_iload_n3 dX2_which_67 ?_
        refine ev_ireturn rfl dX2_which_68 ?_
        obtain rfl : t = N := by omega
        first | rw [if_pos h60] | rw [if_neg (by omega)]
        exact ⟨rfl, hS⟩
      · refine ev_iload_n2 dX2_which_63 ?_
        refine ev_goto 68 (by decide) dX2_which_64 ?_
        refine ev_ireturn rfl dX2_which_68 ?_
        obtain rfl : t = N := by omega
        first | rw [if_pos h60] | rw [if_neg (by omega)]
        exact ⟨rfl, hS⟩
    | succ f ih =>
      intro t S ht hS
      have hl := fb_ct_le (fit C) t
      have hs : fsn (fit C) (t + 1) = if fit C t = true then (if fb_ct (fit C) t = 0 then nI t else fsn (fit C) t) else fsn (fit C) t := rfl
      have hs2 := fb_ct_succ (fit C) t
      have hi := fun S h => ih (t + 1) S (by omega) h
      refine ev_iload4 dX2_which_19 ?_
      refine ev_c1 dX2_which_21 ?_
      refine ev_aload_n0 dX2_which_22 ?_
      refine ev_cV0f okX2_many lkX2_82 (Nat.le_of_ble_eq_true rfl) (Nat.le_of_ble_eq_true rfl) (hM 103 rfl) isO_103 (m_many hM hT hS) dX2_which_23 ?_
      refine ev_ishl dX2_which_26 ?_
      rw [hsh]
      first | refine ev_icmp_geN 59 (by omega) (by omega) (by decide) dX2_which_27 (fun h27 => by omega) (fun h27 => ?_)
      refine ev_aload_n0 dX2_which_30 ?_
      refine ev_iload4 dX2_which_31 ?_
      refine ev_cV1p okX2_fits lkX2_161 (Nat.le_of_ble_eq_true rfl) (Nat.le_of_ble_eq_true rfl) (hM 103 rfl) isO_103 (m_fits hM hT hS (by omega)) dX2_which_33 (fun S33 hS33 => ?_)
      first | refine ev_if_eqB 53 (by decide) dX2_which_36 (fun h36 => ?_) (fun h36 => ?_)
      · refine ev_iinc4 dX2_which_53 ?_
        refine ev_goto 19 (by decide) dX2_which_56 ?_
        rw [h36] at hs hs2
        simp only [if_true, Bool.false_eq_true, if_false, Nat.add_zero] at hs hs2
        first | (rw [if_pos h40] at hs) | (rw [if_neg (by omega)] at hs) | skip
        rw [hs, hs2] at hi
        exact hi S33 (Ms_fit hS hS33.1)
      · refine ev_iload_n2 dX2_which_39 ?_
        first | refine ev_if_neN 48 (by omega) (by decide) dX2_which_40 (fun h40 => ?_) (fun h40 => ?_)
        · refine ev_iload_n3 dX2_which_48 ?_
          refine ev_istore_n3 dX2_which_49 ?_
          refine ev_iinc2 dX2_which_50 ?_
          refine ev_iinc4 dX2_which_53 ?_
          refine ev_goto 19 (by decide) dX2_which_56 ?_
          rw [h36] at hs hs2
          simp only [if_true, Bool.false_eq_true, if_false, Nat.add_zero] at hs hs2
          first | (rw [if_pos h40] at hs) | (rw [if_neg (by omega)] at hs) | skip
          rw [hs, hs2] at hi
          exact hi S33 (Ms_fit hS hS33.1)
        · refine ev_iload4 dX2_which_43 ?_
          refine ev_goto 49 (by decide) dX2_which_45 ?_
          refine ev_istore_n3 dX2_which_49 ?_
          refine ev_iinc2 dX2_which_50 ?_
          refine ev_iinc4 dX2_which_53 ?_
          refine ev_goto 19 (by decide) dX2_which_56 ?_
          rw [h36] at hs hs2
          simp only [if_true, Bool.false_eq_true, if_false, Nat.add_zero] at hs hs2
          first | (rw [if_pos h40] at hs) | (rw [if_neg (by omega)] at hs) | skip
          rw [hs, hs2] at hi
          exact hi S33 (Ms_fit hS hS33.1)
  refine cnV okX2_which 3 rfl ?_
  show Ev ks mX2_which 0 [some (.inr 103), some (.inl (nI c)), none, none, none] [] S _
  refine ev_iload_n1 dX2_which_0 ?_
  refine ev_c0 dX2_which_1 ?_
  refine ev_c1 dX2_which_2 ?_
  refine ev_cS3f okX2_in lkX2_43 (Nat.le_of_ble_eq_true rfl) (Nat.le_of_ble_eq_true rfl) c_X2_in dX2_which_3 ?_
  first | refine ev_if_neB 11 (by decide) dX2_which_6 (fun h6 => ?_) (fun h6 => by rw [isS_in (by omega), isS_nat (by omega) (by omega), decide_eq_true (by omega)] at h6; cases h6)
  refine ev_c0 dX2_which_11 ?_
  refine ev_istore_n2 dX2_which_12 ?_
  refine ev_bipush (-9 : Int32) kb_m9 dX2_which_13 ?_
  refine ev_istore_n3 dX2_which_15 ?_
  refine ev_c0 dX2_which_16 ?_
  refine ev_istore4 dX2_which_17 ?_
  exact loop N 0 S (by omega) hS
theorem op_which {ks : List Nat} (hC : InC ks) (hM : InM ks) {a : Int32} : Op ks mX1_which yX1_which mX2_which yX2_which [.inl a] := by
  refine op_scr (fun C hI hX => ?_)
  have hW : InW ks := hC.w
  obtain ⟨⟨hn, h2, h4⟩, he, he1, he4⟩ := wf_n hI
  have hr := wf_r hI
  have hL := wf_L hI
  obtain ⟨N, hN⟩ : ∃ N, 2 ^ nn C = N := ⟨_, rfl⟩
  obtain ⟨hsh, hN4, hN16⟩ := shl_pw h2 h4 hN
  obtain ⟨M0, hM0⟩ := hX
  obtain ⟨se, hse⟩ := Se_of hM0
  have hSC : Sm C C := fun _ _ _ => rfl
  cases ha : isS 2 a with
  | false =>
    refine ⟨-1, ?_, fun M hT => ?_⟩
    · refine cnV okX1_which 1 rfl ?_
      show Ev ks mX1_which 0 [some (.inr 96), some (.inl a), none] [] C _
      refine ev_iload_n1 dX1_which_0 ?_
      first | refine ev_if_lt 9 (by decide) dX1_which_1 (fun h1 => ?_) (fun h1 => ?_)
      · refine ev_cm1 dX1_which_9 ?_
        refine ev_ireturn rfl dX1_which_10 ?_
        exact ⟨rfl, fun _ _ _ => rfl⟩
      · refine ev_iload_n1 dX1_which_4 ?_
        refine ev_c1 dX1_which_5 ?_
        first | refine ev_icmp_le 11 (by decide) dX1_which_6 (fun h6 => by exact (isS_out (by omega) ha h1 h6).elim) (fun h6 => ?_)
        refine ev_cm1 dX1_which_9 ?_
        refine ev_ireturn rfl dX1_which_10 ?_
        exact ⟨rfl, fun _ _ _ => rfl⟩
    · have mn := (mf_n hT.1).1
      have me := (mf_n hT.1).2.1
      have m2 := (mf_n hT.1).2.2
      have mr := mf_r hT.1
      have mL := mf_L hT.1
      refine cnV okX2_which 3 rfl ?_
      show Ev ks mX2_which 0 [some (.inr 103), some (.inl a), none, none, none] [] M _
      refine ev_iload_n1 dX2_which_0 ?_
      refine ev_c0 dX2_which_1 ?_
      refine ev_c1 dX2_which_2 ?_
      refine ev_cS3f okX2_in lkX2_43 (Nat.le_of_ble_eq_true rfl) (Nat.le_of_ble_eq_true rfl) c_X2_in dX2_which_3 ?_
      first | refine ev_if_neB 11 (by decide) dX2_which_6 (fun h6 => by rw [isS_in (by omega), ha] at h6; cases h6) (fun h6 => ?_)
      refine ev_cm1 dX2_which_9 ?_
      refine ev_ireturn rfl dX2_which_10 ?_
      exact ⟨rfl, fun _ _ _ => rfl⟩
  | true =>
    obtain ⟨c, hc, rfl⟩ := (isS_iff (by omega)).mp ha
    refine ⟨if c = 0 then nI (fb_ct (fit C) N) else fsn (fit C) N, ?_, fun M hT => (m_which hM hT (fun _ _ _ => rfl) hN hc).mono (fun r S' h => h)⟩
    refine cnV okX1_which 1 rfl ?_
    show Ev ks mX1_which 0 [some (.inr 96), some (.inl (nI c)), none] [] C _
    refine ev_iload_n1 dX1_which_0 ?_
    refine ev_if_ltN 9 (by omega) (by decide) dX1_which_1 ?_
    refine ev_iload_n1 dX1_which_4 ?_
    refine ev_c1 dX1_which_5 ?_
    first | refine ev_icmp_leN 11 (by omega) (by omega) (by decide) dX1_which_6 (fun h6 => ?_) (fun h6 => by omega)
    refine ev_aload_n0 dX1_which_11 ?_
    refine ev_cV0p okX1_possibleSets lkX1_177 (Nat.le_of_ble_eq_true rfl) (Nat.le_of_ble_eq_true rfl) (hC 96 rfl) isO_96 (k_sets hC hI hSC hse hN) dX1_which_12 (fun S12 hS12 => ?_)
    refine ev_istore_n2 dX1_which_15 ?_
    refine ev_iload_n1 dX1_which_16 ?_
    first | refine ev_if_neN 25 (by omega) (by decide) dX1_which_17 (fun h17 => ?_) (fun h17 => ?_)
    · refine ev_iload_n2 dX1_which_25 ?_
      refine ev_c0 dX1_which_26 ?_
      refine ev_cS2f okX1_numberAt lkX1_154 (Nat.le_of_ble_eq_true rfl) (Nat.le_of_ble_eq_true rfl) (c_X1_numberAt (by omega)) dX1_which_27 ?_
      refine ev_ireturn rfl dX1_which_30 ?_
      refine ⟨?_, hS12.1⟩
      first | rw [if_pos h17, pcn_mk _ (by omega)] | rw [if_neg (by omega), nth_fsn (by omega)]
    · refine ev_iload_n2 dX1_which_20 ?_
      refine ev_cS1f okJ6_bitCount_0f7a4 lkX1_92 (Nat.le_of_ble_eq_true rfl) (Nat.le_of_ble_eq_true rfl) c_J6_bitCount_0f7a4 dX1_which_21 ?_
      refine ev_ireturn rfl dX1_which_24 ?_
      refine ⟨?_, hS12.1⟩
      first | rw [if_pos h17, pcn_mk _ (by omega)] | rw [if_neg (by omega), nth_fsn (by omega)]
/-- the first with the least, below q -/
def lst (G : Nat → Nat) : Nat → Nat
  | 0 => 0
  | q + 1 => if q = 0 then 0 else if G q < G (lst G q) then q else lst G q
theorem lst_lt (G : Nat → Nat) : ∀ q, lst G (q + 1) < q + 1
  | 0 => by
    show (if 0 = 0 then 0 else _) < 0 + 1
    rw [if_pos rfl]
    omega
  | q + 1 => by
    have := lst_lt G q
    show (if q + 1 = 0 then 0 else if G (q + 1) < G (lst G (q + 1)) then q + 1 else lst G (q + 1)) < q + 1 + 1
    rw [if_neg (by omega)]
    split <;> omega
theorem op_ask {ks : List Nat} (hC : InC ks) (hM : InM ks) : Op ks mX1_ask yX1_ask mX2_ask yX2_ask [] := by
  refine op_scr (fun C hI hX => ?_)
  have hW : InW ks := hC.w
  obtain ⟨⟨hn, h2, h4⟩, he, he1, he4⟩ := wf_n hI
  have hr := wf_r hI
  have hL := wf_L hI
  obtain ⟨N, hN⟩ : ∃ N, 2 ^ nn C = N := ⟨_, rfl⟩
  obtain ⟨hsh, hN4, hN16⟩ := shl_pw h2 h4 hN
  obtain ⟨M0, hM0⟩ := hX
  obtain ⟨se, hse⟩ := Se_of hM0
  have hSC : Sm C C := fun _ _ _ => rfl
  have hct := fb_ct_le (fit C) N
  obtain ⟨G, hG⟩ : ∃ G : Nat → Nat, G = fun q => mxl (fit C) (gq C q) N := ⟨_, rfl⟩
  have hGq : ∀ q, mxl (fit C) (gq C q) N = G q := fun q => by rw [hG]
  have hGb : ∀ q, G q ≤ 16 := fun q => by rw [hG]; have := mxl_le (fit C) (gq C q) N; show mxl (fit C) (gq C q) N ≤ 16; omega
  rcases Nat.lt_or_ge (fb_ct (fit C) N) 2 with hlt | hge
  · refine ⟨-9, ?_, fun M hT => ?_⟩
    · refine cnV okX1_ask 5 rfl ?_
      show Ev ks mX1_ask 0 [some (.inr 96), none, none, none, none, none] [] C _
      refine ev_aload_n0 dX1_ask_0 ?_
      refine ev_cV0p okX1_possibleSets lkX1_177 (Nat.le_of_ble_eq_true rfl) (Nat.le_of_ble_eq_true rfl) (hC 96 rfl) isO_96 (k_sets hC hI hSC hse hN) dX1_ask_1 (fun S1 hS1 => ?_)
      refine ev_istore_n1 dX1_ask_4 ?_
      refine ev_iload_n1 dX1_ask_5 ?_
      refine ev_cS1f okJ6_bitCount_0f7a4 lkX1_92 (Nat.le_of_ble_eq_true rfl) (Nat.le_of_ble_eq_true rfl) c_J6_bitCount_0f7a4 dX1_ask_6 ?_
      refine ev_c1 dX1_ask_9 ?_
      rw [pcn_mk _ (by omega)]
      first | refine ev_icmp_gtN 16 (by omega) (by omega) (by decide) dX1_ask_10 (fun h10 => by omega) (fun h10 => ?_)
      refine ev_bipush (-9 : Int32) kb_m9 dX1_ask_13 ?_
      refine ev_ireturn rfl dX1_ask_15 ?_
      exact ⟨rfl, hS1.1⟩
    · have mn := (mf_n hT.1).1
      have me := (mf_n hT.1).2.1
      have m2 := (mf_n hT.1).2.2
      have mr := mf_r hT.1
      have mL := mf_L hT.1
      refine cnV okX2_ask 2 rfl ?_
      show Ev ks mX2_ask 0 [some (.inr 103), none, none] [] M _
      refine ev_aload_n0 dX2_ask_0 ?_
      refine ev_c0 dX2_ask_1 ?_
      refine ev_cV1p okX2_which lkX2_164 (Nat.le_of_ble_eq_true rfl) (Nat.le_of_ble_eq_true rfl) (hM 103 rfl) isO_103 (m_which hM hT (fun _ _ _ => rfl) hN (by omega)) dX2_ask_2 (fun S2 hS2 => ?_)
      refine ev_c2 dX2_ask_5 ?_
      rw [if_pos rfl]
      first | refine ev_icmp_geN 12 (by omega) (by omega) (by decide) dX2_ask_6 (fun h6 => by omega) (fun h6 => ?_)
      refine ev_bipush (-9 : Int32) kb_m9 dX2_ask_9 ?_
      refine ev_ireturn rfl dX2_ask_11 ?_
      exact ⟨rfl, hS2⟩
  · refine ⟨nI (lst G (nn C)), ?_, fun M hT => ?_⟩
    · have loop : ∀ f q S b l w, q + f = nn C → Sm C S → (∀ t, t < N → fit C t = true → S 101 t = kst C (C 0 2 ||| nI t)) → (q = 0 → b = -9) → (0 < q → b = nI (lst G q) ∧ l = nI (G (lst G q))) → Ev ks mX1_ask 24 [some (.inr 96), some (.inl (mk (fit C) N)), some (.inl b), some (.inl l), some (.inl (nI q)), w] [] S (Gi (nI (lst G (nn C))) (fun C' => ∀ k, k ≠ 101 → k ≠ 102 → C' k = C k)) := by
        intro f
        induction f with
        | zero =>
          intro q S b l w hq hS hx h0 h1
          have e0 := hS 0 (by omega) (by omega)
          refine ev_iload4 dX1_ask_24 ?_
          refine ev_aload_n0 dX1_ask_26 ?_
          refine gfX1_12 rfl (hC 96 rfl) dX1_ask_27 ?_
          refine gfX1_54 rfl (hC 0 rfl) dX1_ask_30 ?_
          rw [e0, hn]
          first | refine ev_icmp_geN 69 (by omega) (by omega) (by decide) dX1_ask_33 (fun h33 => ?_) (fun h33 => by omega)
          refine ev_iload_n2 dX1_ask_69 ?_
          refine ev_ireturn rfl dX1_ask_70 ?_
          refine ⟨?_, hS⟩
          rw [(h1 (by omega)).1, show q = nn C by omega]
        | succ f ih =>
          intro q S b l w hq hS hx h0 h1
          have e0 := hS 0 (by omega) (by omega)
          have hb := hGb q
          have hb2 := hGb (lst G q)
          have hs : lst G (q + 1) = if q = 0 then 0 else if G q < G (lst G q) then q else lst G q := rfl
          rcases Nat.eq_zero_or_pos q with hq0 | hq0
          · obtain rfl := h0 hq0
            rw [if_pos hq0, ← hq0] at hs
            refine ev_iload4 dX1_ask_24 ?_
            refine ev_aload_n0 dX1_ask_26 ?_
            refine gfX1_12 rfl (hC 96 rfl) dX1_ask_27 ?_
            refine gfX1_54 rfl (hC 0 rfl) dX1_ask_30 ?_
            rw [e0, hn]
            first | refine ev_icmp_geN 69 (by omega) (by omega) (by decide) dX1_ask_33 (fun h33 => by omega) (fun h33 => ?_)
            refine ev_aload_n0 dX1_ask_36 ?_
            refine ev_iload_n1 dX1_ask_37 ?_
            refine ev_iload4 dX1_ask_38 ?_
            refine ev_cV2p okX1_mostAlike lkX1_180 (Nat.le_of_ble_eq_true rfl) (Nat.le_of_ble_eq_true rfl) (hC 96 rfl) isO_96 (k_most hC hI (by omega) hS hN hx) dX1_ask_40 (fun S40 hS40 => ?_)
            refine ev_istore5 dX1_ask_43 ?_
            rw [hGq]
            refine ev_iload_n2 dX1_ask_45 ?_
            refine ev_bipush (-9 : Int32) kb_m9 dX1_ask_46 ?_
            first | refine ev_icmp_eq 57 (by decide) dX1_ask_48 (fun h48 => ?_) (fun h48 => by exact absurd rfl h48)
            refine ev_iload4 dX1_ask_57 ?_
            refine ev_istore_n2 dX1_ask_59 ?_
            refine ev_iload5 dX1_ask_60 ?_
            refine ev_istore_n3 dX1_ask_62 ?_
            refine ev_iinc4 dX1_ask_63 ?_
            refine ev_goto 24 (by decide) dX1_ask_66 ?_
            exact ih (q + 1) _ _ _ _ (by omega) hS40.1 (fun t a b => by rw [hS40.2]; exact hx t a b) (fun h => by omega) (fun _ => ⟨by rw [hs], by rw [hs]⟩)
          · obtain ⟨rfl, rfl⟩ := h1 hq0
            rw [if_neg (by omega)] at hs
            refine ev_iload4 dX1_ask_24 ?_
            refine ev_aload_n0 dX1_ask_26 ?_
            refine gfX1_12 rfl (hC 96 rfl) dX1_ask_27 ?_
            refine gfX1_54 rfl (hC 0 rfl) dX1_ask_30 ?_
            rw [e0, hn]
            first | refine ev_icmp_geN 69 (by omega) (by omega) (by decide) dX1_ask_33 (fun h33 => by omega) (fun h33 => ?_)
            refine ev_aload_n0 dX1_ask_36 ?_
            refine ev_iload_n1 dX1_ask_37 ?_
            refine ev_iload4 dX1_ask_38 ?_
            refine ev_cV2p okX1_mostAlike lkX1_180 (Nat.le_of_ble_eq_true rfl) (Nat.le_of_ble_eq_true rfl) (hC 96 rfl) isO_96 (k_most hC hI (by omega) hS hN hx) dX1_ask_40 (fun S40 hS40 => ?_)
            refine ev_istore5 dX1_ask_43 ?_
            rw [hGq]
            refine ev_iload_n2 dX1_ask_45 ?_
            refine ev_bipush (-9 : Int32) kb_m9 dX1_ask_46 ?_
            first | refine ev_icmp_eq 57 (by decide) dX1_ask_48 (fun h48 => by exact absurd h48 (nI_neg (by have := lst_lt G (q - 1); rw [show q - 1 + 1 = q by omega] at this; omega) m9_neg)) (fun h48 => ?_)
            refine ev_iload5 dX1_ask_51 ?_
            refine ev_iload_n3 dX1_ask_53 ?_
            first | refine ev_icmp_geN 63 (by omega) (by omega) (by decide) dX1_ask_54 (fun h54 => ?_) (fun h54 => ?_)
            · refine ev_iinc4 dX1_ask_63 ?_
              refine ev_goto 24 (by decide) dX1_ask_66 ?_
              first | rw [if_pos h54] at hs | rw [if_neg (Nat.not_lt.mpr h54)] at hs
              exact ih (q + 1) _ _ _ _ (by omega) hS40.1 (fun t a b => by rw [hS40.2]; exact hx t a b) (fun h => by omega) (fun _ => ⟨by rw [hs], by rw [hs]⟩)
            · refine ev_iload4 dX1_ask_57 ?_
              refine ev_istore_n2 dX1_ask_59 ?_
              refine ev_iload5 dX1_ask_60 ?_
              refine ev_istore_n3 dX1_ask_62 ?_
              refine ev_iinc4 dX1_ask_63 ?_
              refine ev_goto 24 (by decide) dX1_ask_66 ?_
              first | rw [if_pos h54] at hs | rw [if_neg (Nat.not_lt.mpr h54)] at hs
              exact ih (q + 1) _ _ _ _ (by omega) hS40.1 (fun t a b => by rw [hS40.2]; exact hx t a b) (fun h => by omega) (fun _ => ⟨by rw [hs], by rw [hs]⟩)
      refine cnV okX1_ask 5 rfl ?_
      show Ev ks mX1_ask 0 [some (.inr 96), none, none, none, none, none] [] C _
      refine ev_aload_n0 dX1_ask_0 ?_
      refine ev_cV0p okX1_possibleSets lkX1_177 (Nat.le_of_ble_eq_true rfl) (Nat.le_of_ble_eq_true rfl) (hC 96 rfl) isO_96 (k_sets hC hI hSC hse hN) dX1_ask_1 (fun S1 hS1 => ?_)
      refine ev_istore_n1 dX1_ask_4 ?_
      refine ev_iload_n1 dX1_ask_5 ?_
      refine ev_cS1f okJ6_bitCount_0f7a4 lkX1_92 (Nat.le_of_ble_eq_true rfl) (Nat.le_of_ble_eq_true rfl) c_J6_bitCount_0f7a4 dX1_ask_6 ?_
      refine ev_c1 dX1_ask_9 ?_
      rw [pcn_mk _ (by omega)]
      first | refine ev_icmp_gtN 16 (by omega) (by omega) (by decide) dX1_ask_10 (fun h10 => ?_) (fun h10 => by omega)
      refine ev_bipush (-9 : Int32) kb_m9 dX1_ask_16 ?_
      refine ev_istore_n2 dX1_ask_18 ?_
      refine ev_c0 dX1_ask_19 ?_
      refine ev_istore_n3 dX1_ask_20 ?_
      refine ev_c0 dX1_ask_21 ?_
      refine ev_istore4 dX1_ask_22 ?_
      exact loop (nn C) 0 _ _ _ _ (by omega) hS1.1 hS1.2 (fun _ => rfl) (fun h => by omega)
    · have mn := (mf_n hT.1).1
      have me := (mf_n hT.1).2.1
      have m2 := (mf_n hT.1).2.2
      have mr := mf_r hT.1
      have mL := mf_L hT.1
      have loop : ∀ f q S, q + f = nn C → 1 ≤ q → Ms M S → Ev ks mX2_ask 16 [some (.inr 103), some (.inl (nI (lst G q))), some (.inl (nI q))] [] S (Gi (nI (lst G (nn C))) (fun M' => ∀ k, k ≠ 110 → k ≠ 111 → M' k = M k)) := by
        intro f
        induction f with
        | zero =>
          intro q S hq h1 hS
          refine ev_iload_n2 dX2_ask_16 ?_
          refine ev_aload_n0 dX2_ask_17 ?_
          refine ev_cV0f okX2_many lkX2_82 (Nat.le_of_ble_eq_true rfl) (Nat.le_of_ble_eq_true rfl) (hM 103 rfl) isO_103 (m_many hM hT hS) dX2_ask_18 ?_
          first | refine ev_icmp_geN 49 (by omega) (by omega) (by decide) dX2_ask_21 (fun h21 => ?_) (fun h21 => by omega)
          refine ev_iload_n1 dX2_ask_49 ?_
          refine ev_ireturn rfl dX2_ask_50 ?_
          exact ⟨by rw [show q = nn C by omega], hS⟩
        | succ f ih =>
          intro q S hq h1 hS
          have hb := hGb q
          have hb2 := hGb (lst G q)
          have hlq : lst G q < q := by have := lst_lt G (q - 1); rw [show q - 1 + 1 = q by omega] at this; exact this
          have hs : lst G (q + 1) = if q = 0 then 0 else if G q < G (lst G q) then q else lst G q := rfl
          rw [if_neg (by omega)] at hs
          refine ev_iload_n2 dX2_ask_16 ?_
          refine ev_aload_n0 dX2_ask_17 ?_
          refine ev_cV0f okX2_many lkX2_82 (Nat.le_of_ble_eq_true rfl) (Nat.le_of_ble_eq_true rfl) (hM 103 rfl) isO_103 (m_many hM hT hS) dX2_ask_18 ?_
          first | refine ev_icmp_geN 49 (by omega) (by omega) (by decide) dX2_ask_21 (fun h21 => by omega) (fun h21 => ?_)
          refine ev_aload_n0 dX2_ask_24 ?_
          refine ev_iload_n2 dX2_ask_25 ?_
          refine ev_cV1p okX2_greatest lkX2_167 (Nat.le_of_ble_eq_true rfl) (Nat.le_of_ble_eq_true rfl) (hM 103 rfl) isO_103 (m_greatest hM hT hS hN (by omega)) dX2_ask_26 (fun S26 hS26 => ?_)
          refine ev_aload_n0 dX2_ask_29 ?_
          refine ev_iload_n1 dX2_ask_30 ?_
          refine ev_cV1p okX2_greatest lkX2_167 (Nat.le_of_ble_eq_true rfl) (Nat.le_of_ble_eq_true rfl) (hM 103 rfl) isO_103 (m_greatest hM hT hS26 hN (by omega)) dX2_ask_31 (fun S31 hS31 => ?_)
          rw [hGq, hGq]
          first | refine ev_icmp_geN 41 (by omega) (by omega) (by decide) dX2_ask_34 (fun h34 => ?_) (fun h34 => ?_)
          · refine ev_iload_n1 dX2_ask_41 ?_
            refine ev_istore_n1 dX2_ask_42 ?_
            refine ev_iinc2 dX2_ask_43 ?_
            refine ev_goto 16 (by decide) dX2_ask_46 ?_
            first | rw [if_pos h34] at hs | rw [if_neg (Nat.not_lt.mpr h34)] at hs
            have hi := ih (q + 1) _ (by omega) (by omega) hS31
            rw [hs] at hi
            exact hi
          · refine ev_iload_n2 dX2_ask_37 ?_
            refine ev_goto 42 (by decide) dX2_ask_38 ?_
            refine ev_istore_n1 dX2_ask_42 ?_
            refine ev_iinc2 dX2_ask_43 ?_
            refine ev_goto 16 (by decide) dX2_ask_46 ?_
            first | rw [if_pos h34] at hs | rw [if_neg (Nat.not_lt.mpr h34)] at hs
            have hi := ih (q + 1) _ (by omega) (by omega) hS31
            rw [hs] at hi
            exact hi
      refine cnV okX2_ask 2 rfl ?_
      show Ev ks mX2_ask 0 [some (.inr 103), none, none] [] M _
      refine ev_aload_n0 dX2_ask_0 ?_
      refine ev_c0 dX2_ask_1 ?_
      refine ev_cV1p okX2_which lkX2_164 (Nat.le_of_ble_eq_true rfl) (Nat.le_of_ble_eq_true rfl) (hM 103 rfl) isO_103 (m_which hM hT (fun _ _ _ => rfl) hN (by omega)) dX2_ask_2 (fun S2 hS2 => ?_)
      refine ev_c2 dX2_ask_5 ?_
      rw [if_pos rfl]
      first | refine ev_icmp_geN 12 (by omega) (by omega) (by decide) dX2_ask_6 (fun h6 => ?_) (fun h6 => by omega)
      refine ev_c0 dX2_ask_12 ?_
      refine ev_istore_n1 dX2_ask_13 ?_
      refine ev_c1 dX2_ask_14 ?_
      refine ev_istore_n2 dX2_ask_15 ?_
      exact loop (nn C - 1) 1 _ (by omega) (by omega) hS2
