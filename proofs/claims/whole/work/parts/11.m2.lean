theorem c_X2_had {ks : List Nat} (hM : InM ks) {S : St} {y r : Nat} {x : Int32} (hy : y < 4) (hr : S 104 (3 + y) = nI r) (h8 : r ≤ 8) : Cn ks mX2_had yX2_had [.inr 103, .inl (nI y), .inl x] S (Ri (nI (fb_ct (fun j => decide (S 104 (7 + 24 * y + 3 * j + 0) = x)) r)) S) := by
  refine cnV okX2_had 2 rfl ?_
  show Ev ks mX2_had 0 [some (.inr 103), some (.inl (nI y)), some (.inl x), none, none] [] S _
  have loop : ∀ f k, k + f = r → Ev ks mX2_had 5 [some (.inr 103), some (.inl (nI y)), some (.inl x), some (.inl (nI (fb_ct (fun j => decide (S 104 (7 + 24 * y + 3 * j + 0) = x)) k))), some (.inl (nI k))] [] S (Ri (nI (fb_ct (fun j => decide (S 104 (7 + 24 * y + 3 * j + 0) = x)) r)) S) := by
    intro f
    induction f with
    | zero =>
      intro k hk
      refine ev_iload4 dX2_had_5 ?_
      refine ev_aload_n0 dX2_had_7 ?_
      refine ev_iload_n1 dX2_had_8 ?_
      refine ev_cV1f okX2_receipts lkX2_47 (Nat.le_of_ble_eq_true rfl) (Nat.le_of_ble_eq_true rfl) (hM 103 rfl) isO_103 (c_X2_receipts hM (by omega)) dX2_had_9 ?_
      rw [hr]
      first | refine ev_icmp_geN 41 (by omega) (by omega) (by decide) dX2_had_12 (fun h12 => ?_) (fun h12 => by exfalso; omega) | refine ev_icmp_ge 41 (by decide) dX2_had_12 (fun h12 => ?_) (fun h12 => by exfalso; omega)
      refine ev_iload_n3 dX2_had_41 ?_
      refine ev_ireturn rfl dX2_had_42 ?_
      obtain rfl : k = r := by omega
      exact ⟨rfl, rfl⟩
    | succ f ih =>
      intro k hk
      have hs := fb_ct_succ (fun j => decide (S 104 (7 + 24 * y + 3 * j + 0) = x)) k
      refine ev_iload4 dX2_had_5 ?_
      refine ev_aload_n0 dX2_had_7 ?_
      refine ev_iload_n1 dX2_had_8 ?_
      refine ev_cV1f okX2_receipts lkX2_47 (Nat.le_of_ble_eq_true rfl) (Nat.le_of_ble_eq_true rfl) (hM 103 rfl) isO_103 (c_X2_receipts hM (by omega)) dX2_had_9 ?_
      rw [hr]
      first | refine ev_icmp_geN 41 (by omega) (by omega) (by decide) dX2_had_12 (fun h12 => by exfalso; omega) (fun h12 => ?_) | refine ev_icmp_ge 41 (by decide) dX2_had_12 (fun h12 => by exfalso; omega) (fun h12 => ?_)
      refine ev_iload_n3 dX2_had_15 ?_
      refine ev_aload_n0 dX2_had_16 ?_
      refine ev_iload_n1 dX2_had_17 ?_
      refine ev_iload4 dX2_had_18 ?_
      refine ev_c0 dX2_had_20 ?_
      refine ev_cV3f okX2_ofReceipt lkX2_51 (Nat.le_of_ble_eq_true rfl) (Nat.le_of_ble_eq_true rfl) (hM 103 rfl) isO_103 (c_X2_ofReceipt hM (by omega) (by omega) (by omega)) dX2_had_21 ?_
      refine ev_iload_n2 dX2_had_24 ?_
      first | refine ev_icmp_ne 32 (by decide) dX2_had_25 (fun h25 => ?_) (fun h25 => ?_)
      · refine ev_c0 dX2_had_32 ?_
        first | refine ev_iaddN dX2_had_33 ?_ | refine ev_iadd dX2_had_33 ?_
        refine ev_istore_n3 dX2_had_34 ?_
        refine ev_iinc4 dX2_had_35 ?_
        refine ev_goto 5 (by decide) dX2_had_38 ?_
        simp only [h25, decide_true, decide_false, if_true, Bool.false_eq_true, if_false] at hs
        rw [← hs]
        exact ih (k + 1) (by omega)
      · refine ev_c1 dX2_had_28 ?_
        refine ev_goto 33 (by decide) dX2_had_29 ?_
        first | refine ev_iaddN dX2_had_33 ?_ | refine ev_iadd dX2_had_33 ?_
        refine ev_istore_n3 dX2_had_34 ?_
        refine ev_iinc4 dX2_had_35 ?_
        refine ev_goto 5 (by decide) dX2_had_38 ?_
        simp only [h25, decide_true, decide_false, if_true, Bool.false_eq_true, if_false] at hs
        rw [← hs]
        exact ih (k + 1) (by omega)
  refine ev_c0 dX2_had_0 ?_
  refine ev_istore_n3 dX2_had_1 ?_
  refine ev_c0 dX2_had_2 ?_
  refine ev_istore4 dX2_had_3 ?_
  exact loop r 0 (by omega)
theorem c_X2_lost {ks : List Nat} (hM : InM ks) {S : St} {n : Nat} {r K : Nat → Nat} (hn : S 104 0 = nI n) (h4 : n ≤ 4) (hr : ∀ q, q < n → S 104 (3 + q) = nI (r q)) (hK : ∀ q, q < n → S 110 q = nI (K q) ∧ K q ≤ r q) : Cn ks mX2_lost yX2_lost [.inr 103] S (Ri (nI (fb_sm (fun q => r q - K q) n)) S) := by
  refine cnV okX2_lost 2 rfl ?_
  show Ev ks mX2_lost 0 [some (.inr 103), none, none] [] S _
  have loop : ∀ f k, k + f = n → Ev ks mX2_lost 4 [some (.inr 103), some (.inl (nI (fb_sm (fun q => r q - K q) k))), some (.inl (nI k))] [] S (Ri (nI (fb_sm (fun q => r q - K q) n)) S) := by
    intro f
    induction f with
    | zero =>
      intro k hk
      refine ev_iload_n2 dX2_lost_4 ?_
      refine ev_aload_n0 dX2_lost_5 ?_
      refine ev_cV0f okX2_many lkX2_82 (Nat.le_of_ble_eq_true rfl) (Nat.le_of_ble_eq_true rfl) (hM 103 rfl) isO_103 (c_X2_many hM hn) dX2_lost_6 ?_
      first | refine ev_icmp_geN 33 (by omega) (by omega) (by decide) dX2_lost_9 (fun h9 => ?_) (fun h9 => by exfalso; omega) | refine ev_icmp_ge 33 (by decide) dX2_lost_9 (fun h9 => ?_) (fun h9 => by exfalso; omega)
      refine ev_iload_n1 dX2_lost_33 ?_
      refine ev_ireturn rfl dX2_lost_34 ?_
      obtain rfl : k = n := by omega
      exact ⟨rfl, rfl⟩
    | succ f ih =>
      intro k hk
      have hk2 := hK k (by omega)
      refine ev_iload_n2 dX2_lost_4 ?_
      refine ev_aload_n0 dX2_lost_5 ?_
      refine ev_cV0f okX2_many lkX2_82 (Nat.le_of_ble_eq_true rfl) (Nat.le_of_ble_eq_true rfl) (hM 103 rfl) isO_103 (c_X2_many hM hn) dX2_lost_6 ?_
      first | refine ev_icmp_geN 33 (by omega) (by omega) (by decide) dX2_lost_9 (fun h9 => by exfalso; omega) (fun h9 => ?_) | refine ev_icmp_ge 33 (by decide) dX2_lost_9 (fun h9 => by exfalso; omega) (fun h9 => ?_)
      refine ev_iload_n1 dX2_lost_12 ?_
      refine ev_aload_n0 dX2_lost_13 ?_
      refine ev_iload_n2 dX2_lost_14 ?_
      refine ev_cV1f okX2_receipts lkX2_47 (Nat.le_of_ble_eq_true rfl) (Nat.le_of_ble_eq_true rfl) (hM 103 rfl) isO_103 (c_X2_receipts hM (by omega)) dX2_lost_15 ?_
      rw [hr k (by omega)]
      refine ev_aload_n0 dX2_lost_18 ?_
      refine gfX2_29 rfl (hM 103 rfl) dX2_lost_19 ?_
      refine ev_iload_n2 dX2_lost_22 ?_
      refine ev_iald 4 rfl rfl (hM 110 rfl) (by omega) dX2_lost_23 ?_
      rw [hk2.1]
      first | refine ev_isubN (by omega) dX2_lost_24 ?_ | refine ev_isub dX2_lost_24 ?_
      first | refine ev_iaddN dX2_lost_25 ?_ | refine ev_iadd dX2_lost_25 ?_
      refine ev_istore_n1 dX2_lost_26 ?_
      refine ev_iinc2 dX2_lost_27 ?_
      refine ev_goto 4 (by decide) dX2_lost_30 ?_
      exact ih (k + 1) (by omega)
  refine ev_c0 dX2_lost_0 ?_
  refine ev_istore_n1 dX2_lost_1 ?_
  refine ev_c0 dX2_lost_2 ?_
  refine ev_istore_n2 dX2_lost_3 ?_
  exact loop n 0 (by omega)
theorem c_X2_orphans {ks : List Nat} (hM : InM ks) {S : St} {n : Nat} {d : Int32} {r K : Nat → Nat} (hn : S 104 0 = nI n) (h4 : n ≤ 4) (hr : ∀ q, q < n → S 104 (3 + q) = nI (r q) ∧ r q ≤ 8) (hK : ∀ q, q < n → S 110 q = nI (K q) ∧ K q ≤ 8) : Cn ks mX2_orphans yX2_orphans [.inr 103, .inl d] S (Ri (nI (fb_ct (fun q => !bt d q && decide (K q < r q)) n)) S) := by
  refine cnV okX2_orphans 2 rfl ?_
  show Ev ks mX2_orphans 0 [some (.inr 103), some (.inl d), none, none] [] S _
  have loop : ∀ f k, k + f = n → Ev ks mX2_orphans 4 [some (.inr 103), some (.inl d), some (.inl (nI (fb_ct (fun q => !bt d q && decide (K q < r q)) k))), some (.inl (nI k))] [] S (Ri (nI (fb_ct (fun q => !bt d q && decide (K q < r q)) n)) S) := by
    intro f
    induction f with
    | zero =>
      intro k hk
      refine ev_iload_n3 dX2_orphans_4 ?_
      refine ev_aload_n0 dX2_orphans_5 ?_
      refine ev_cV0f okX2_many lkX2_82 (Nat.le_of_ble_eq_true rfl) (Nat.le_of_ble_eq_true rfl) (hM 103 rfl) isO_103 (c_X2_many hM hn) dX2_orphans_6 ?_
      first | refine ev_icmp_geN 48 (by omega) (by omega) (by decide) dX2_orphans_9 (fun h9 => ?_) (fun h9 => by exfalso; omega) | refine ev_icmp_ge 48 (by decide) dX2_orphans_9 (fun h9 => ?_) (fun h9 => by exfalso; omega)
      refine ev_iload_n2 dX2_orphans_48 ?_
      refine ev_ireturn rfl dX2_orphans_49 ?_
      obtain rfl : k = n := by omega
      exact ⟨rfl, rfl⟩
    | succ f ih =>
      intro k hk
      have hk2 := hK k (by omega)
      have hr2 := hr k (by omega)
      have hs := fb_ct_succ (fun q => !bt d q && decide (K q < r q)) k
      refine ev_iload_n3 dX2_orphans_4 ?_
      refine ev_aload_n0 dX2_orphans_5 ?_
      refine ev_cV0f okX2_many lkX2_82 (Nat.le_of_ble_eq_true rfl) (Nat.le_of_ble_eq_true rfl) (hM 103 rfl) isO_103 (c_X2_many hM hn) dX2_orphans_6 ?_
      first | refine ev_icmp_geN 48 (by omega) (by omega) (by decide) dX2_orphans_9 (fun h9 => by exfalso; omega) (fun h9 => ?_) | refine ev_icmp_ge 48 (by decide) dX2_orphans_9 (fun h9 => by exfalso; omega) (fun h9 => ?_)
      refine ev_iload_n2 dX2_orphans_12 ?_
      refine ev_iload_n1 dX2_orphans_13 ?_
      refine ev_iload_n3 dX2_orphans_14 ?_
      refine ev_cS2f okX2_has lkX2_39 (Nat.le_of_ble_eq_true rfl) (Nat.le_of_ble_eq_true rfl) (c_X2_has (by omega)) dX2_orphans_15 ?_
      first | refine ev_if_neB 39 (by decide) dX2_orphans_18 (fun h18 => ?_) (fun h18 => ?_)
      · refine ev_c0 dX2_orphans_39 ?_
        first | refine ev_iaddN dX2_orphans_40 ?_ | refine ev_iadd dX2_orphans_40 ?_
        refine ev_istore_n2 dX2_orphans_41 ?_
        refine ev_iinc3 dX2_orphans_42 ?_
        refine ev_goto 4 (by decide) dX2_orphans_45 ?_
        first | rw [h18] at hs | skip
        first | rw [decide_eq_true h32] at hs | rw [decide_eq_false (Nat.not_lt.mpr h32)] at hs | skip
        simp only [Bool.not_true, Bool.not_false, Bool.false_and, Bool.true_and, if_true, Bool.false_eq_true, if_false] at hs
        rw [← hs]
        exact ih (k + 1) (by omega)
      · refine ev_aload_n0 dX2_orphans_21 ?_
        refine gfX2_29 rfl (hM 103 rfl) dX2_orphans_22 ?_
        refine ev_iload_n3 dX2_orphans_25 ?_
        refine ev_iald 4 rfl rfl (hM 110 rfl) (by omega) dX2_orphans_26 ?_
        rw [hk2.1]
        refine ev_aload_n0 dX2_orphans_27 ?_
        refine ev_iload_n3 dX2_orphans_28 ?_
        refine ev_cV1f okX2_receipts lkX2_47 (Nat.le_of_ble_eq_true rfl) (Nat.le_of_ble_eq_true rfl) (hM 103 rfl) isO_103 (c_X2_receipts hM (by omega)) dX2_orphans_29 ?_
        rw [hr2.1]
        first | refine ev_icmp_geN 39 (by omega) (by omega) (by decide) dX2_orphans_32 (fun h32 => ?_) (fun h32 => ?_) | refine ev_icmp_ge 39 (by decide) dX2_orphans_32 (fun h32 => ?_) (fun h32 => ?_)
        · refine ev_c0 dX2_orphans_39 ?_
          first | refine ev_iaddN dX2_orphans_40 ?_ | refine ev_iadd dX2_orphans_40 ?_
          refine ev_istore_n2 dX2_orphans_41 ?_
          refine ev_iinc3 dX2_orphans_42 ?_
          refine ev_goto 4 (by decide) dX2_orphans_45 ?_
          first | rw [h18] at hs | skip
          first | rw [decide_eq_true h32] at hs | rw [decide_eq_false (Nat.not_lt.mpr h32)] at hs | skip
          simp only [Bool.not_true, Bool.not_false, Bool.false_and, Bool.true_and, if_true, Bool.false_eq_true, if_false] at hs
          rw [← hs]
          exact ih (k + 1) (by omega)
        · refine ev_c1 dX2_orphans_35 ?_
          refine ev_goto 40 (by decide) dX2_orphans_36 ?_
          first | refine ev_iaddN dX2_orphans_40 ?_ | refine ev_iadd dX2_orphans_40 ?_
          refine ev_istore_n2 dX2_orphans_41 ?_
          refine ev_iinc3 dX2_orphans_42 ?_
          refine ev_goto 4 (by decide) dX2_orphans_45 ?_
          first | rw [h18] at hs | skip
          first | rw [decide_eq_true h32] at hs | rw [decide_eq_false (Nat.not_lt.mpr h32)] at hs | skip
          simp only [Bool.not_true, Bool.not_false, Bool.false_and, Bool.true_and, if_true, Bool.false_eq_true, if_false] at hs
          rw [← hs]
          exact ih (k + 1) (by omega)
  refine ev_c0 dX2_orphans_0 ?_
  refine ev_istore_n2 dX2_orphans_1 ?_
  refine ev_c0 dX2_orphans_2 ?_
  refine ev_istore_n3 dX2_orphans_3 ?_
  exact loop n 0 (by omega)
theorem c_X2_codesKept {ks : List Nat} (hM : InM ks) {S : St} {n : Nat} {K : Nat → Nat} (hn : S 104 0 = nI n) (h4 : n ≤ 4) (hK : ∀ q, q < n → S 110 q = nI (K q) ∧ K q ≤ 8) : Cn ks mX2_codesKept yX2_codesKept [.inr 103] S (Ri (mk (fun c => decide (c % 8 < K (c / 8))) (8 * n)) S) := by
  refine cnV okX2_codesKept 3 rfl ?_
  show Ev ks mX2_codesKept 0 [some (.inr 103), none, none, none] [] S _
  generalize hF : (fun c => decide (c % 8 < K (c / 8))) = F
  have hFv : ∀ q r, r < 8 → F (8 * q + r) = decide (r < K q) := fun q r h => by rw [← hF]; dsimp only; rw [show (8 * q + r) % 8 = r by omega, show (8 * q + r) / 8 = q by omega]
  have loop2 : ∀ z q, q < n → (∀ v, Ev ks mX2_codesKept 4 [some (.inr 103), some (.inl (mk F (8 * (q + 1)))), some (.inl (nI (q + 1))), v] [] S (Ri (mk F (8 * n)) S)) → ∀ r, r + z = K q → Ev ks mX2_codesKept 14 [some (.inr 103), some (.inl (mk F (8 * q + r))), some (.inl (nI q)), some (.inl (nI r))] [] S (Ri (mk F (8 * n)) S) := by
    intro z q hq hnext
    have hk2 := hK q hq
    induction z with
    | zero =>
      intro r hr
      refine ev_iload_n3 dX2_codesKept_14 ?_
      refine ev_aload_n0 dX2_codesKept_15 ?_
      refine gfX2_29 rfl (hM 103 rfl) dX2_codesKept_16 ?_
      refine ev_iload_n2 dX2_codesKept_19 ?_
      refine ev_iald 4 rfl rfl (hM 110 rfl) (by omega) dX2_codesKept_20 ?_
      rw [hk2.1]
      first | refine ev_icmp_geN 41 (by omega) (by omega) (by decide) dX2_codesKept_21 (fun h21 => ?_) (fun h21 => by exfalso; omega) | refine ev_icmp_ge 41 (by decide) dX2_codesKept_21 (fun h21 => ?_) (fun h21 => by exfalso; omega)
      refine ev_iinc2 dX2_codesKept_41 ?_
      refine ev_goto 4 (by decide) dX2_codesKept_44 ?_
      have e := mk_skip (f := F) (a := 8 * q + r) (b := 8 - r) (fun i h1 h2 => by
        have e2 : i = 8 * q + (i - 8 * q) := by omega
        rw [e2, hFv q _ (by omega)]
        exact decide_eq_false (by omega))
      rw [show 8 * q + r + (8 - r) = 8 * (q + 1) by omega] at e
      rw [← e]
      exact hnext _
    | succ z ih =>
      intro r hr
      have e : mk F (8 * q + (r + 1)) = mk F (8 * q + r) ||| (nI 1 <<< (nI (8 * q + r) &&& 31)) := by
        rw [← Nat.add_assoc, mk, hFv q r (by omega), decide_eq_true (by omega : r < K q), nI_lit1]
        rfl
      refine ev_iload_n3 dX2_codesKept_14 ?_
      refine ev_aload_n0 dX2_codesKept_15 ?_
      refine gfX2_29 rfl (hM 103 rfl) dX2_codesKept_16 ?_
      refine ev_iload_n2 dX2_codesKept_19 ?_
      refine ev_iald 4 rfl rfl (hM 110 rfl) (by omega) dX2_codesKept_20 ?_
      rw [hk2.1]
      first | refine ev_icmp_geN 41 (by omega) (by omega) (by decide) dX2_codesKept_21 (fun h21 => by exfalso; omega) (fun h21 => ?_) | refine ev_icmp_ge 41 (by decide) dX2_codesKept_21 (fun h21 => by exfalso; omega) (fun h21 => ?_)
      refine ev_iload_n1 dX2_codesKept_24 ?_
      refine ev_c1 dX2_codesKept_25 ?_
      refine ev_bipush (nI 8) kb_8 dX2_codesKept_26 ?_
      refine ev_iload_n2 dX2_codesKept_28 ?_
      first | refine ev_imulN dX2_codesKept_29 ?_ | refine ev_imul dX2_codesKept_29 ?_
      refine ev_iload_n3 dX2_codesKept_30 ?_
      first | refine ev_iaddN dX2_codesKept_31 ?_ | refine ev_iadd dX2_codesKept_31 ?_
      refine ev_ishl dX2_codesKept_32 ?_
      refine ev_ior dX2_codesKept_33 ?_
      refine ev_istore_n1 dX2_codesKept_34 ?_
      refine ev_iinc3 dX2_codesKept_35 ?_
      refine ev_goto 14 (by decide) dX2_codesKept_38 ?_
      rw [← e]
      exact ih (r + 1) (by omega)
  have loop : ∀ f q v, q + f = n → Ev ks mX2_codesKept 4 [some (.inr 103), some (.inl (mk F (8 * q))), some (.inl (nI q)), v] [] S (Ri (mk F (8 * n)) S) := by
    intro f
    induction f with
    | zero =>
      intro q v hq
      refine ev_iload_n2 dX2_codesKept_4 ?_
      refine ev_aload_n0 dX2_codesKept_5 ?_
      refine ev_cV0f okX2_many lkX2_82 (Nat.le_of_ble_eq_true rfl) (Nat.le_of_ble_eq_true rfl) (hM 103 rfl) isO_103 (c_X2_many hM hn) dX2_codesKept_6 ?_
      first | refine ev_icmp_geN 47 (by omega) (by omega) (by decide) dX2_codesKept_9 (fun h9 => ?_) (fun h9 => by exfalso; omega) | refine ev_icmp_ge 47 (by decide) dX2_codesKept_9 (fun h9 => ?_) (fun h9 => by exfalso; omega)
      refine ev_iload_n1 dX2_codesKept_47 ?_
      refine ev_ireturn rfl dX2_codesKept_48 ?_
      obtain rfl : q = n := by omega
      exact ⟨rfl, rfl⟩
    | succ f ih =>
      intro q v hq
      refine ev_iload_n2 dX2_codesKept_4 ?_
      refine ev_aload_n0 dX2_codesKept_5 ?_
      refine ev_cV0f okX2_many lkX2_82 (Nat.le_of_ble_eq_true rfl) (Nat.le_of_ble_eq_true rfl) (hM 103 rfl) isO_103 (c_X2_many hM hn) dX2_codesKept_6 ?_
      first | refine ev_icmp_geN 47 (by omega) (by omega) (by decide) dX2_codesKept_9 (fun h9 => by exfalso; omega) (fun h9 => ?_) | refine ev_icmp_ge 47 (by decide) dX2_codesKept_9 (fun h9 => by exfalso; omega) (fun h9 => ?_)
      refine ev_c0 dX2_codesKept_12 ?_
      refine ev_istore_n3 dX2_codesKept_13 ?_
      exact loop2 (K q) q (by omega) (fun v => ih (q + 1) v (by omega)) 0 (by omega)
  refine ev_c0 dX2_codesKept_0 ?_
  rw [nI_0]
  refine ev_istore_n1 dX2_codesKept_1 ?_
  refine ev_c0 dX2_codesKept_2 ?_
  refine ev_istore_n2 dX2_codesKept_3 ?_
  exact loop n 0 none (by omega)
theorem c_X2_written {ks : List Nat} (hM : InM ks) {S : St} {n x : Nat} {r : Nat → Nat} (hn : S 104 0 = nI n) (h4 : n ≤ 4) (hx : x < 5) (hr : ∀ q, q < n → S 104 (123 + (4 * x + q)) = nI (r q)) : Cn ks mX2_written yX2_written [.inr 103, .inl (nI x)] S (Ri (nI (fb_sm r n)) S) := by
  refine cnV okX2_written 2 rfl ?_
  show Ev ks mX2_written 0 [some (.inr 103), some (.inl (nI x)), none, none] [] S _
  have loop : ∀ f k, k + f = n → Ev ks mX2_written 4 [some (.inr 103), some (.inl (nI x)), some (.inl (nI (fb_sm r k))), some (.inl (nI k))] [] S (Ri (nI (fb_sm r n)) S) := by
    intro f
    induction f with
    | zero =>
      intro k hk
      refine ev_iload_n3 dX2_written_4 ?_
      refine ev_aload_n0 dX2_written_5 ?_
      refine ev_cV0f okX2_many lkX2_82 (Nat.le_of_ble_eq_true rfl) (Nat.le_of_ble_eq_true rfl) (hM 103 rfl) isO_103 (c_X2_many hM hn) dX2_written_6 ?_
      first | refine ev_icmp_geN 27 (by omega) (by omega) (by decide) dX2_written_9 (fun h9 => ?_) (fun h9 => by exfalso; omega) | refine ev_icmp_ge 27 (by decide) dX2_written_9 (fun h9 => ?_) (fun h9 => by exfalso; omega)
      refine ev_iload_n2 dX2_written_27 ?_
      refine ev_ireturn rfl dX2_written_28 ?_
      obtain rfl : k = n := by omega
      exact ⟨rfl, rfl⟩
    | succ f ih =>
      intro k hk
      refine ev_iload_n3 dX2_written_4 ?_
      refine ev_aload_n0 dX2_written_5 ?_
      refine ev_cV0f okX2_many lkX2_82 (Nat.le_of_ble_eq_true rfl) (Nat.le_of_ble_eq_true rfl) (hM 103 rfl) isO_103 (c_X2_many hM hn) dX2_written_6 ?_
      first | refine ev_icmp_geN 27 (by omega) (by omega) (by decide) dX2_written_9 (fun h9 => by exfalso; omega) (fun h9 => ?_) | refine ev_icmp_ge 27 (by decide) dX2_written_9 (fun h9 => by exfalso; omega) (fun h9 => ?_)
      refine ev_iload_n2 dX2_written_12 ?_
      refine ev_aload_n0 dX2_written_13 ?_
      refine ev_iload_n1 dX2_written_14 ?_
      refine ev_iload_n3 dX2_written_15 ?_
      refine ev_cV2f okX2_letters lkX2_62 (Nat.le_of_ble_eq_true rfl) (Nat.le_of_ble_eq_true rfl) (hM 103 rfl) isO_103 (c_X2_letters hM (by omega) (by omega)) dX2_written_16 ?_
      rw [hr k (by omega)]
      first | refine ev_iaddN dX2_written_19 ?_ | refine ev_iadd dX2_written_19 ?_
      refine ev_istore_n2 dX2_written_20 ?_
      refine ev_iinc3 dX2_written_21 ?_
      refine ev_goto 4 (by decide) dX2_written_24 ?_
      exact ih (k + 1) (by omega)
  refine ev_c0 dX2_written_0 ?_
  refine ev_istore_n2 dX2_written_1 ?_
  refine ev_c0 dX2_written_2 ?_
  refine ev_istore_n3 dX2_written_3 ?_
  exact loop n 0 (by omega)
theorem c_X2_allReceipts {ks : List Nat} (hM : InM ks) {S : St} {n : Nat} {r : Nat → Nat} (hn : S 104 0 = nI n) (h4 : n ≤ 4) (hr : ∀ q, q < n → S 104 (3 + q) = nI (r q)) : Cn ks mX2_allReceipts yX2_allReceipts [.inr 103] S (Ri (nI (fb_sm r n)) S) := by
  refine cnV okX2_allReceipts 2 rfl ?_
  show Ev ks mX2_allReceipts 0 [some (.inr 103), none, none] [] S _
  have loop : ∀ f k, k + f = n → Ev ks mX2_allReceipts 4 [some (.inr 103), some (.inl (nI (fb_sm r k))), some (.inl (nI k))] [] S (Ri (nI (fb_sm r n)) S) := by
    intro f
    induction f with
    | zero =>
      intro k hk
      refine ev_iload_n2 dX2_allReceipts_4 ?_
      refine ev_aload_n0 dX2_allReceipts_5 ?_
      refine ev_cV0f okX2_many lkX2_82 (Nat.le_of_ble_eq_true rfl) (Nat.le_of_ble_eq_true rfl) (hM 103 rfl) isO_103 (c_X2_many hM hn) dX2_allReceipts_6 ?_
      first | refine ev_icmp_geN 26 (by omega) (by omega) (by decide) dX2_allReceipts_9 (fun h9 => ?_) (fun h9 => by exfalso; omega) | refine ev_icmp_ge 26 (by decide) dX2_allReceipts_9 (fun h9 => ?_) (fun h9 => by exfalso; omega)
      refine ev_iload_n1 dX2_allReceipts_26 ?_
      refine ev_ireturn rfl dX2_allReceipts_27 ?_
      obtain rfl : k = n := by omega
      exact ⟨rfl, rfl⟩
    | succ f ih =>
      intro k hk
      refine ev_iload_n2 dX2_allReceipts_4 ?_
      refine ev_aload_n0 dX2_allReceipts_5 ?_
      refine ev_cV0f okX2_many lkX2_82 (Nat.le_of_ble_eq_true rfl) (Nat.le_of_ble_eq_true rfl) (hM 103 rfl) isO_103 (c_X2_many hM hn) dX2_allReceipts_6 ?_
      first | refine ev_icmp_geN 26 (by omega) (by omega) (by decide) dX2_allReceipts_9 (fun h9 => by exfalso; omega) (fun h9 => ?_) | refine ev_icmp_ge 26 (by decide) dX2_allReceipts_9 (fun h9 => by exfalso; omega) (fun h9 => ?_)
      refine ev_iload_n1 dX2_allReceipts_12 ?_
      refine ev_aload_n0 dX2_allReceipts_13 ?_
      refine ev_iload_n2 dX2_allReceipts_14 ?_
      refine ev_cV1f okX2_receipts lkX2_47 (Nat.le_of_ble_eq_true rfl) (Nat.le_of_ble_eq_true rfl) (hM 103 rfl) isO_103 (c_X2_receipts hM (by omega)) dX2_allReceipts_15 ?_
      rw [hr k (by omega)]
      first | refine ev_iaddN dX2_allReceipts_18 ?_ | refine ev_iadd dX2_allReceipts_18 ?_
      refine ev_istore_n1 dX2_allReceipts_19 ?_
      refine ev_iinc2 dX2_allReceipts_20 ?_
      refine ev_goto 4 (by decide) dX2_allReceipts_23 ?_
      exact ih (k + 1) (by omega)
  refine ev_c0 dX2_allReceipts_0 ?_
  refine ev_istore_n1 dX2_allReceipts_1 ?_
  refine ev_c0 dX2_allReceipts_2 ?_
  refine ev_istore_n2 dX2_allReceipts_3 ?_
  exact loop n 0 (by omega)
theorem c_X2_allLetters {ks : List Nat} (hM : InM ks) {S : St} {n : Nat} {r : Nat → Nat → Nat} (hn : S 104 0 = nI n) (h4 : n ≤ 4) (hr : ∀ x q, x ≤ n → q < n → S 104 (123 + (4 * x + q)) = nI (r x q)) : Cn ks mX2_allLetters yX2_allLetters [.inr 103] S (Ri (nI (fb_sm (fun x => fb_sm (r x) n) (n + 1))) S) := by
  refine cnV okX2_allLetters 2 rfl ?_
  show Ev ks mX2_allLetters 0 [some (.inr 103), none, none] [] S _
  have loop : ∀ f k, k + f = n + 1 → Ev ks mX2_allLetters 4 [some (.inr 103), some (.inl (nI (fb_sm (fun x => fb_sm (r x) n) k))), some (.inl (nI k))] [] S (Ri (nI (fb_sm (fun x => fb_sm (r x) n) (n + 1))) S) := by
    intro f
    induction f with
    | zero =>
      intro k hk
      refine ev_iload_n2 dX2_allLetters_4 ?_
      refine ev_aload_n0 dX2_allLetters_5 ?_
      refine ev_cV0f okX2_many lkX2_82 (Nat.le_of_ble_eq_true rfl) (Nat.le_of_ble_eq_true rfl) (hM 103 rfl) isO_103 (c_X2_many hM hn) dX2_allLetters_6 ?_
      first | refine ev_icmp_gtN 26 (by omega) (by omega) (by decide) dX2_allLetters_9 (fun h9 => ?_) (fun h9 => by exfalso; omega) | refine ev_icmp_gt 26 (by decide) dX2_allLetters_9 (fun h9 => ?_) (fun h9 => by exfalso; omega)
      refine ev_iload_n1 dX2_allLetters_26 ?_
      refine ev_ireturn rfl dX2_allLetters_27 ?_
      obtain rfl : k = n + 1 := by omega
      exact ⟨rfl, rfl⟩
    | succ f ih =>
      intro k hk
      refine ev_iload_n2 dX2_allLetters_4 ?_
      refine ev_aload_n0 dX2_allLetters_5 ?_
      refine ev_cV0f okX2_many lkX2_82 (Nat.le_of_ble_eq_true rfl) (Nat.le_of_ble_eq_true rfl) (hM 103 rfl) isO_103 (c_X2_many hM hn) dX2_allLetters_6 ?_
      first | refine ev_icmp_gtN 26 (by omega) (by omega) (by decide) dX2_allLetters_9 (fun h9 => by exfalso; omega) (fun h9 => ?_) | refine ev_icmp_gt 26 (by decide) dX2_allLetters_9 (fun h9 => by exfalso; omega) (fun h9 => ?_)
      refine ev_iload_n1 dX2_allLetters_12 ?_
      refine ev_aload_n0 dX2_allLetters_13 ?_
      refine ev_iload_n2 dX2_allLetters_14 ?_
      refine ev_cV1f okX2_written lkX2_140 (Nat.le_of_ble_eq_true rfl) (Nat.le_of_ble_eq_true rfl) (hM 103 rfl) isO_103 (c_X2_written hM hn h4 (by omega) (fun q hq => hr k q (by omega) hq)) dX2_allLetters_15 ?_
      first | refine ev_iaddN dX2_allLetters_18 ?_ | refine ev_iadd dX2_allLetters_18 ?_
      refine ev_istore_n1 dX2_allLetters_19 ?_
      refine ev_iinc2 dX2_allLetters_20 ?_
      refine ev_goto 4 (by decide) dX2_allLetters_23 ?_
      exact ih (k + 1) (by omega)
  refine ev_c0 dX2_allLetters_0 ?_
  refine ev_istore_n1 dX2_allLetters_1 ?_
  refine ev_c0 dX2_allLetters_2 ?_
  refine ev_istore_n2 dX2_allLetters_3 ?_
  exact loop (n + 1) 0 (by omega)
theorem c_X2_holders {ks : List Nat} (hM : InM ks) {S : St} {n c : Nat} (hn : S 104 0 = nI n) (h4 : n ≤ 4) (hc : c < 32) : Cn ks mX2_holders yX2_holders [.inr 103, .inl (nI c)] S (Ri (mk (fun p => bt (S 104 (103 + p)) c) n) S) := by
  refine cnV okX2_holders 2 rfl ?_
  show Ev ks mX2_holders 0 [some (.inr 103), some (.inl (nI c)), none, none] [] S _
  have loop : ∀ f k, k + f = n → Ev ks mX2_holders 4 [some (.inr 103), some (.inl (nI c)), some (.inl (mk (fun p => bt (S 104 (103 + p)) c) k)), some (.inl (nI k))] [] S (Ri (mk (fun p => bt (S 104 (103 + p)) c) n) S) := by
    intro f
    induction f with
    | zero =>
      intro k hk
      refine ev_iload_n3 dX2_holders_4 ?_
      refine ev_aload_n0 dX2_holders_5 ?_
      refine ev_cV0f okX2_many lkX2_82 (Nat.le_of_ble_eq_true rfl) (Nat.le_of_ble_eq_true rfl) (hM 103 rfl) isO_103 (c_X2_many hM hn) dX2_holders_6 ?_
      first | refine ev_icmp_geN 44 (by omega) (by omega) (by decide) dX2_holders_9 (fun h9 => ?_) (fun h9 => by exfalso; omega) | refine ev_icmp_ge 44 (by decide) dX2_holders_9 (fun h9 => ?_) (fun h9 => by exfalso; omega)
      refine ev_iload_n2 dX2_holders_44 ?_
      refine ev_ireturn rfl dX2_holders_45 ?_
      obtain rfl : k = n := by omega
      exact ⟨rfl, rfl⟩
    | succ f ih =>
      intro k hk
      have e : mk (fun p => bt (S 104 (103 + p)) c) (k + 1) = mk (fun p => bt (S 104 (103 + p)) c) k ||| (bif bt (S 104 (103 + k)) c then (1 : Int32) <<< (nI k &&& 31) else 0) := rfl
      refine ev_iload_n3 dX2_holders_4 ?_
      refine ev_aload_n0 dX2_holders_5 ?_
      refine ev_cV0f okX2_many lkX2_82 (Nat.le_of_ble_eq_true rfl) (Nat.le_of_ble_eq_true rfl) (hM 103 rfl) isO_103 (c_X2_many hM hn) dX2_holders_6 ?_
      first | refine ev_icmp_geN 44 (by omega) (by omega) (by decide) dX2_holders_9 (fun h9 => by exfalso; omega) (fun h9 => ?_) | refine ev_icmp_ge 44 (by decide) dX2_holders_9 (fun h9 => by exfalso; omega) (fun h9 => ?_)
      refine ev_iload_n2 dX2_holders_12 ?_
      refine ev_aload_n0 dX2_holders_13 ?_
      refine gfX2_7 rfl (hM 103 rfl) dX2_holders_14 ?_
      refine ev_bipush (nI 103) kb_103 dX2_holders_17 ?_
      refine ev_iload_n3 dX2_holders_19 ?_
      first | refine ev_iaddN dX2_holders_20 ?_ | refine ev_iadd dX2_holders_20 ?_
      refine ev_iald 1263 rfl rfl (hM 104 rfl) (by omega) dX2_holders_21 ?_
      refine ev_iload_n1 dX2_holders_22 ?_
      refine ev_cS2f okX2_has lkX2_39 (Nat.le_of_ble_eq_true rfl) (Nat.le_of_ble_eq_true rfl) (c_X2_has (by omega)) dX2_holders_23 ?_
      first | refine ev_if_eqB 35 (by decide) dX2_holders_26 (fun h26 => ?_) (fun h26 => ?_)
      · refine ev_c0 dX2_holders_35 ?_
        refine ev_ior dX2_holders_36 ?_
        refine ev_istore_n2 dX2_holders_37 ?_
        refine ev_iinc3 dX2_holders_38 ?_
        refine ev_goto 4 (by decide) dX2_holders_41 ?_
        rw [h26] at e
        simp only [cond_true, cond_false] at e
        first | rw [nI_lit1, ← e] | rw [nI_0, ← e]
        exact ih (k + 1) (by omega)
      · refine ev_c1 dX2_holders_29 ?_
        refine ev_iload_n3 dX2_holders_30 ?_
        refine ev_ishl dX2_holders_31 ?_
        refine ev_goto 36 (by decide) dX2_holders_32 ?_
        refine ev_ior dX2_holders_36 ?_
        refine ev_istore_n2 dX2_holders_37 ?_
        refine ev_iinc3 dX2_holders_38 ?_
        refine ev_goto 4 (by decide) dX2_holders_41 ?_
        rw [h26] at e
        simp only [cond_true, cond_false] at e
        first | rw [nI_lit1, ← e] | rw [nI_0, ← e]
        exact ih (k + 1) (by omega)
  refine ev_c0 dX2_holders_0 ?_
  rw [nI_0]
  refine ev_istore_n2 dX2_holders_1 ?_
  refine ev_c0 dX2_holders_2 ?_
  refine ev_istore_n3 dX2_holders_3 ?_
  exact loop n 0 (by omega)
theorem c_X2_isSafe {ks : List Nat} (hM : InM ks) {S : St} {n e q r : Nat} (hn : S 104 0 = nI n) (h4 : n ≤ 4) (he : S 104 1 = nI e) (he4 : e ≤ 4) (hq : q < 4) (hr : r < 8) : Cn ks mX2_isSafe yX2_isSafe [.inr 103, .inl (nI q), .inl (nI r)] S (Ri (bI (decide (e ≤ pcn (mk (fun p => bt (S 104 (103 + p)) (8 * q + r)) n)))) S) := by
  refine cnV okX2_isSafe 0 rfl ?_
  show Ev ks mX2_isSafe 0 [some (.inr 103), some (.inl (nI q)), some (.inl (nI r))] [] S _
  have hp := pcn_le (mk (fun p => bt (S 104 (103 + p)) (8 * q + r)) n)
  refine ev_aload_n0 dX2_isSafe_0 ?_
  refine ev_bipush (nI 8) kb_8 dX2_isSafe_1 ?_
  refine ev_iload_n1 dX2_isSafe_3 ?_
  first | refine ev_imulN dX2_isSafe_4 ?_ | refine ev_imul dX2_isSafe_4 ?_
  refine ev_iload_n2 dX2_isSafe_5 ?_
  first | refine ev_iaddN dX2_isSafe_6 ?_ | refine ev_iadd dX2_isSafe_6 ?_
  refine ev_cV1f okX2_holders lkX2_143 (Nat.le_of_ble_eq_true rfl) (Nat.le_of_ble_eq_true rfl) (hM 103 rfl) isO_103 (c_X2_holders hM hn (by omega) (by omega)) dX2_isSafe_7 ?_
  refine ev_cS1f okX2_bits lkX2_112 (Nat.le_of_ble_eq_true rfl) (Nat.le_of_ble_eq_true rfl) c_X2_bits dX2_isSafe_10 ?_
  refine ev_aload_n0 dX2_isSafe_13 ?_
  refine gfX2_7 rfl (hM 103 rfl) dX2_isSafe_14 ?_
  refine ev_c1 dX2_isSafe_17 ?_
  refine ev_iald 1263 rfl rfl (hM 104 rfl) (by omega) dX2_isSafe_18 ?_
  rw [he]
  first | refine ev_icmp_ltN 26 (by omega) (by omega) (by decide) dX2_isSafe_19 (fun h19 => ?_) (fun h19 => ?_) | refine ev_icmp_lt 26 (by decide) dX2_isSafe_19 (fun h19 => ?_) (fun h19 => ?_)
  · refine ev_c0 dX2_isSafe_26 ?_
    refine ev_zreturn zr0 rfl dX2_isSafe_27 ?_
    refine ⟨?_, rfl⟩
    first | (rw [decide_eq_false (by omega)]; rfl) | (rw [decide_eq_true (by omega)]; rfl)
  · refine ev_c1 dX2_isSafe_22 ?_
    refine ev_goto 27 (by decide) dX2_isSafe_23 ?_
    refine ev_zreturn zr1 rfl dX2_isSafe_27 ?_
    refine ⟨?_, rfl⟩
    first | (rw [decide_eq_false (by omega)]; rfl) | (rw [decide_eq_true (by omega)]; rfl)
theorem c_X2_nth {ks : List Nat} {S : St} {x : Int32} {j : Nat} (hj : j < 2147483648) : Cn ks mX2_nth yX2_nth [.inl x, .inl (nI j)] S (Ri (nth x j) S) := by
  refine cnS okX2_nth 2 rfl ?_
  show Ev ks mX2_nth 0 [some (.inl x), some (.inl (nI j)), none, none] [] S _
  have loop : ∀ f c, c + f = 32 → fb_ct (bt x) c ≤ j → Ev ks mX2_nth 4 [some (.inl x), some (.inl (nI j)), some (.inl (nI (j - fb_ct (bt x) c))), some (.inl (nI c))] [] S (Ri (nthF x j f c) S) := by
    intro f
    induction f with
    | zero =>
      intro c hc hj2
      refine ev_iload_n3 dX2_nth_4 ?_
      refine ev_bipush (nI 32) kb_32 dX2_nth_5 ?_
      first | refine ev_icmp_geN 33 (by omega) (by omega) (by decide) dX2_nth_7 (fun h7 => ?_) (fun h7 => by exfalso; omega) | refine ev_icmp_ge 33 (by decide) dX2_nth_7 (fun h7 => ?_) (fun h7 => by exfalso; omega)
      refine ev_bipush (-9 : Int32) kb_m9 dX2_nth_33 ?_
      refine ev_ireturn rfl dX2_nth_35 ?_
      exact ⟨rfl, rfl⟩
    | succ f ih =>
      intro c hc hj2
      have hs := fb_ct_succ (bt x) c
      have e1 : fb_ct (bt x) c < j → fb_ct (bt x) (c + 1) = fb_ct (bt x) c + 1 → nI (j - fb_ct (bt x) c) - 1 = nI (j - fb_ct (bt x) (c + 1)) := fun q1 q2 => by
        rw [← nI_lit1, pk_sub (by omega), q2]
        congr 1
      rw [nthF]
      refine ev_iload_n3 dX2_nth_4 ?_
      refine ev_bipush (nI 32) kb_32 dX2_nth_5 ?_
      first | refine ev_icmp_geN 33 (by omega) (by omega) (by decide) dX2_nth_7 (fun h7 => by exfalso; omega) (fun h7 => ?_) | refine ev_icmp_ge 33 (by decide) dX2_nth_7 (fun h7 => by exfalso; omega) (fun h7 => ?_)
      refine ev_iload_n0 dX2_nth_10 ?_
      refine ev_iload_n3 dX2_nth_11 ?_
      refine ev_cS2f okX2_has lkX2_39 (Nat.le_of_ble_eq_true rfl) (Nat.le_of_ble_eq_true rfl) (c_X2_has (by omega)) dX2_nth_12 ?_
      first | refine ev_if_eqB 27 (by decide) dX2_nth_15 (fun h15 => ?_) (fun h15 => ?_)
      · refine ev_iinc3 dX2_nth_27 ?_
        refine ev_goto 4 (by decide) dX2_nth_30 ?_
        rw [h15] at hs
        simp only [if_true, Bool.false_eq_true, if_false, Nat.add_zero] at hs
        first | (rw [if_neg (by rw [h15]; decide), ← hs]; exact ih (c + 1) (by omega) (by omega)) | (rw [if_pos h15, if_neg (by omega), e1 (by omega) hs]; exact ih (c + 1) (by omega) (by omega))
      · refine ev_iload_n2 dX2_nth_18 ?_
        first | refine ev_if_neN 24 (by omega) (by decide) dX2_nth_19 (fun h19 => ?_) (fun h19 => ?_) | refine ev_if_ne 24 (by decide) dX2_nth_19 (fun h19 => ?_) (fun h19 => ?_)
        · refine ev_idec2 dX2_nth_24 ?_
          refine ev_iinc3 dX2_nth_27 ?_
          refine ev_goto 4 (by decide) dX2_nth_30 ?_
          rw [h15] at hs
          simp only [if_true, Bool.false_eq_true, if_false, Nat.add_zero] at hs
          first | (rw [if_neg (by rw [h15]; decide), ← hs]; exact ih (c + 1) (by omega) (by omega)) | (rw [if_pos h15, if_neg (by omega), e1 (by omega) hs]; exact ih (c + 1) (by omega) (by omega))
        · refine ev_iload_n3 dX2_nth_22 ?_
          refine ev_ireturn rfl dX2_nth_23 ?_
          exact ⟨by rw [if_pos h15, if_pos (by omega)], rfl⟩
  refine ev_iload_n1 dX2_nth_0 ?_
  refine ev_istore_n2 dX2_nth_1 ?_
  refine ev_c0 dX2_nth_2 ?_
  refine ev_istore_n3 dX2_nth_3 ?_
  exact loop 32 0 rfl (by exact Nat.zero_le _)
theorem c_X2_heldBut {ks : List Nat} (hM : InM ks) {S : St} {n : Nat} {d : Int32} (hn : S 104 0 = nI n) (h4 : n ≤ 4) : Cn ks mX2_heldBut yX2_heldBut [.inr 103, .inl d] S (Ri (orF (fun q => bif bt d q then 0 else S 104 (103 + q)) n) S) := by
  refine cnV okX2_heldBut 2 rfl ?_
  show Ev ks mX2_heldBut 0 [some (.inr 103), some (.inl d), none, none] [] S _
  have loop : ∀ f k, k + f = n → Ev ks mX2_heldBut 4 [some (.inr 103), some (.inl d), some (.inl (orF (fun q => bif bt d q then 0 else S 104 (103 + q)) k)), some (.inl (nI k))] [] S (Ri (orF (fun q => bif bt d q then 0 else S 104 (103 + q)) n) S) := by
    intro f
    induction f with
    | zero =>
      intro k hk
      refine ev_iload_n3 dX2_heldBut_4 ?_
      refine ev_aload_n0 dX2_heldBut_5 ?_
      refine ev_cV0f okX2_many lkX2_82 (Nat.le_of_ble_eq_true rfl) (Nat.le_of_ble_eq_true rfl) (hM 103 rfl) isO_103 (c_X2_many hM hn) dX2_heldBut_6 ?_
      first | refine ev_icmp_geN 42 (by omega) (by omega) (by decide) dX2_heldBut_9 (fun h9 => ?_) (fun h9 => by exfalso; omega) | refine ev_icmp_ge 42 (by decide) dX2_heldBut_9 (fun h9 => ?_) (fun h9 => by exfalso; omega)
      refine ev_iload_n2 dX2_heldBut_42 ?_
      refine ev_ireturn rfl dX2_heldBut_43 ?_
      obtain rfl : k = n := by omega
      exact ⟨rfl, rfl⟩
    | succ f ih =>
      intro k hk
      have e : orF (fun q => bif bt d q then 0 else S 104 (103 + q)) (k + 1) = orF (fun q => bif bt d q then 0 else S 104 (103 + q)) k ||| (bif bt d k then 0 else S 104 (103 + k)) := rfl
      refine ev_iload_n3 dX2_heldBut_4 ?_
      refine ev_aload_n0 dX2_heldBut_5 ?_
      refine ev_cV0f okX2_many lkX2_82 (Nat.le_of_ble_eq_true rfl) (Nat.le_of_ble_eq_true rfl) (hM 103 rfl) isO_103 (c_X2_many hM hn) dX2_heldBut_6 ?_
      first | refine ev_icmp_geN 42 (by omega) (by omega) (by decide) dX2_heldBut_9 (fun h9 => by exfalso; omega) (fun h9 => ?_) | refine ev_icmp_ge 42 (by decide) dX2_heldBut_9 (fun h9 => by exfalso; omega) (fun h9 => ?_)
      refine ev_iload_n2 dX2_heldBut_12 ?_
      refine ev_iload_n1 dX2_heldBut_13 ?_
      refine ev_iload_n3 dX2_heldBut_14 ?_
      refine ev_cS2f okX2_has lkX2_39 (Nat.le_of_ble_eq_true rfl) (Nat.le_of_ble_eq_true rfl) (c_X2_has (by omega)) dX2_heldBut_15 ?_
      first | refine ev_if_eqB 25 (by decide) dX2_heldBut_18 (fun h18 => ?_) (fun h18 => ?_)
      · refine ev_aload_n0 dX2_heldBut_25 ?_
        refine gfX2_7 rfl (hM 103 rfl) dX2_heldBut_26 ?_
        refine ev_bipush (nI 103) kb_103 dX2_heldBut_29 ?_
        refine ev_iload_n3 dX2_heldBut_31 ?_
        first | refine ev_iaddN dX2_heldBut_32 ?_ | refine ev_iadd dX2_heldBut_32 ?_
        refine ev_iald 1263 rfl rfl (hM 104 rfl) (by omega) dX2_heldBut_33 ?_
        refine ev_ior dX2_heldBut_34 ?_
        refine ev_istore_n2 dX2_heldBut_35 ?_
        refine ev_iinc3 dX2_heldBut_36 ?_
        refine ev_goto 4 (by decide) dX2_heldBut_39 ?_
        rw [h18] at e
        simp only [cond_true, cond_false] at e
        first | rw [nI_0, ← e] | rw [← e]
        exact ih (k + 1) (by omega)
      · refine ev_c0 dX2_heldBut_21 ?_
        refine ev_goto 34 (by decide) dX2_heldBut_22 ?_
        refine ev_ior dX2_heldBut_34 ?_
        refine ev_istore_n2 dX2_heldBut_35 ?_
        refine ev_iinc3 dX2_heldBut_36 ?_
        refine ev_goto 4 (by decide) dX2_heldBut_39 ?_
        rw [h18] at e
        simp only [cond_true, cond_false] at e
        first | rw [nI_0, ← e] | rw [← e]
        exact ih (k + 1) (by omega)
  refine ev_c0 dX2_heldBut_0 ?_
  rw [nI_0]
  refine ev_istore_n2 dX2_heldBut_1 ?_
  refine ev_c0 dX2_heldBut_2 ?_
  refine ev_istore_n3 dX2_heldBut_3 ?_
  exact loop n 0 (by omega)
theorem c_X2_isReceipt {ks : List Nat} (hM : InM ks) {S : St} {n : Nat} {rr : Nat → Nat} (hn : S 104 0 = nI n) (h2 : 2 ≤ n) (h4 : n ≤ 4) (hr : ∀ q, q < n → S 104 (3 + q) = nI (rr q) ∧ rr q ≤ 8) {q r : Int32} : Cn ks mX2_isReceipt yX2_isReceipt [.inr 103, .inl q, .inl r] S (Ri (bI (isS n q && isS (rr (tn q)) r)) S) := by
  refine cnV okX2_isReceipt 0 rfl ?_
  show Ev ks mX2_isReceipt 0 [some (.inr 103), some (.inl q), some (.inl r)] [] S _
  by_cases hq : isS n q = true
  · obtain ⟨j, hj, rfl⟩ := (isS_iff (by omega)).mp hq
    have hr2 := hr j hj
    have e : (decide (nI 0 ≤ r) && decide (r ≤ nI (rr j) - nI 1)) = isS (rr j) r := by
      by_cases h0 : rr j = 0
      · rw [h0]
        unfold isS
        rw [nI_0]
        by_cases h : 0 ≤ r
        · have h3 : ¬ r < 0 := Int32.not_lt.mpr h
          have h5 : ¬ r ≤ 0 - nI 1 := fun z => h3 (by
            have a := Int32.le_iff_toInt_le.mp z
            have b : (0 - nI 1 : Int32).toInt = -1 := by decide +kernel
            rw [b] at a
            rw [Int32.lt_iff_toInt_lt]
            show r.toInt < 0
            omega)
          rw [decide_eq_false h3, decide_eq_false h5]
        · rw [decide_eq_false h]; rfl
      · rw [pk_sub (by omega), isS_le (by omega) (by omega)]
    refine ev_aload_n0 dX2_isReceipt_0 ?_
    refine ev_iload_n1 dX2_isReceipt_1 ?_
    refine ev_cV1f okX2_isSite lkX2_78 (Nat.le_of_ble_eq_true rfl) (Nat.le_of_ble_eq_true rfl) (hM 103 rfl) isO_103 (c_X2_isSite hM hn (by omega) (by omega)) dX2_isReceipt_2 ?_
    first | refine ev_if_eqB 27 (by decide) dX2_isReceipt_5 (fun h5 => by rw [hq] at h5; cases h5) (fun h5 => ?_)
    refine ev_iload_n2 dX2_isReceipt_8 ?_
    refine ev_c0 dX2_isReceipt_9 ?_
    refine ev_aload_n0 dX2_isReceipt_10 ?_
    refine ev_iload_n1 dX2_isReceipt_11 ?_
    refine ev_cV1f okX2_receipts lkX2_47 (Nat.le_of_ble_eq_true rfl) (Nat.le_of_ble_eq_true rfl) (hM 103 rfl) isO_103 (c_X2_receipts hM (by omega)) dX2_isReceipt_12 ?_
    rw [hr2.1]
    refine ev_c1 dX2_isReceipt_15 ?_
    refine ev_isub dX2_isReceipt_16 ?_
    refine ev_cS3f okX2_in lkX2_43 (Nat.le_of_ble_eq_true rfl) (Nat.le_of_ble_eq_true rfl) c_X2_in dX2_isReceipt_17 ?_
    rw [e]
    first | refine ev_if_eqB 27 (by decide) dX2_isReceipt_20 (fun h20 => ?_) (fun h20 => ?_)
    · refine ev_c0 dX2_isReceipt_27 ?_
      refine ev_zreturn zr0 rfl dX2_isReceipt_28 ?_
      refine ⟨?_, rfl⟩
      rw [hq, tn_nI (by omega), h20]
      rfl
    · refine ev_c1 dX2_isReceipt_23 ?_
      refine ev_goto 28 (by decide) dX2_isReceipt_24 ?_
      refine ev_zreturn zr1 rfl dX2_isReceipt_28 ?_
      refine ⟨?_, rfl⟩
      rw [hq, tn_nI (by omega), h20]
      rfl
  · have hq : isS n q = false := by simpa using hq
    refine ev_aload_n0 dX2_isReceipt_0 ?_
    refine ev_iload_n1 dX2_isReceipt_1 ?_
    refine ev_cV1f okX2_isSite lkX2_78 (Nat.le_of_ble_eq_true rfl) (Nat.le_of_ble_eq_true rfl) (hM 103 rfl) isO_103 (c_X2_isSite hM hn (by omega) (by omega)) dX2_isReceipt_2 ?_
    first | refine ev_if_eqB 27 (by decide) dX2_isReceipt_5 (fun h5 => ?_) (fun h5 => by rw [hq] at h5; cases h5)
    refine ev_c0 dX2_isReceipt_27 ?_
    refine ev_zreturn zr0 rfl dX2_isReceipt_28 ?_
    exact ⟨by rw [hq]; rfl, rfl⟩
theorem c_X2_allSafe {ks : List Nat} (hM : InM ks) {S : St} {n e : Nat} {rr : Nat → Nat} (hn : S 104 0 = nI n) (h4 : n ≤ 4) (he : S 104 1 = nI e) (he4 : e ≤ 4) (hr : ∀ q, q < n → S 104 (3 + q) = nI (rr q) ∧ rr q ≤ 8) : Cn ks mX2_allSafe yX2_allSafe [.inr 103] S (Ri (nI (fb_sm (fun q => fb_ct (fun r => decide (e ≤ pcn (mk (fun p => bt (S 104 (103 + p)) (8 * q + r)) n))) (rr q)) n)) S) := by
  refine cnV okX2_allSafe 3 rfl ?_
  show Ev ks mX2_allSafe 0 [some (.inr 103), none, none, none] [] S _
  generalize hG : (fun q r => decide (e ≤ pcn (mk (fun p => bt (S 104 (103 + p)) (8 * q + r)) n))) = G
  have hGv : ∀ q r, decide (e ≤ pcn (mk (fun p => bt (S 104 (103 + p)) (8 * q + r)) n)) = G q r := fun q r => by rw [← hG]
  have hF2 : (fun q => fb_ct (fun r => decide (e ≤ pcn (mk (fun p => bt (S 104 (103 + p)) (8 * q + r)) n))) (rr q)) = fun q => fb_ct (G q) (rr q) := by rw [← hG]
  rw [hF2]
  have loop2 : ∀ z q, q < n → (∀ v, Ev ks mX2_allSafe 4 [some (.inr 103), some (.inl (nI (fb_sm (fun q => fb_ct (G q) (rr q)) (q + 1)))), some (.inl (nI (q + 1))), v] [] S (Ri (nI (fb_sm (fun q => fb_ct (G q) (rr q)) n)) S)) → ∀ r, r + z = rr q → Ev ks mX2_allSafe 14 [some (.inr 103), some (.inl (nI (fb_sm (fun q => fb_ct (G q) (rr q)) q + fb_ct (G q) r))), some (.inl (nI q)), some (.inl (nI r))] [] S (Ri (nI (fb_sm (fun q => fb_ct (G q) (rr q)) n)) S) := by
    intro z q hq hnext
    have hr2 := hr q hq
    induction z with
    | zero =>
      intro r hr3
      refine ev_iload_n3 dX2_allSafe_14 ?_
      refine ev_aload_n0 dX2_allSafe_15 ?_
      refine ev_iload_n2 dX2_allSafe_16 ?_
      refine ev_cV1f okX2_receipts lkX2_47 (Nat.le_of_ble_eq_true rfl) (Nat.le_of_ble_eq_true rfl) (hM 103 rfl) isO_103 (c_X2_receipts hM (by omega)) dX2_allSafe_17 ?_
      rw [hr2.1]
      first | refine ev_icmp_geN 46 (by omega) (by omega) (by decide) dX2_allSafe_20 (fun h20 => ?_) (fun h20 => by exfalso; omega) | refine ev_icmp_ge 46 (by decide) dX2_allSafe_20 (fun h20 => ?_) (fun h20 => by exfalso; omega)
      refine ev_iinc2 dX2_allSafe_46 ?_
      refine ev_goto 4 (by decide) dX2_allSafe_49 ?_
      obtain rfl : r = rr q := by omega
      exact hnext _
    | succ z ih =>
      intro r hr3
      have hs := fb_ct_succ (G q) r
      refine ev_iload_n3 dX2_allSafe_14 ?_
      refine ev_aload_n0 dX2_allSafe_15 ?_
      refine ev_iload_n2 dX2_allSafe_16 ?_
      refine ev_cV1f okX2_receipts lkX2_47 (Nat.le_of_ble_eq_true rfl) (Nat.le_of_ble_eq_true rfl) (hM 103 rfl) isO_103 (c_X2_receipts hM (by omega)) dX2_allSafe_17 ?_
      rw [hr2.1]
      first | refine ev_icmp_geN 46 (by omega) (by omega) (by decide) dX2_allSafe_20 (fun h20 => by exfalso; omega) (fun h20 => ?_) | refine ev_icmp_ge 46 (by decide) dX2_allSafe_20 (fun h20 => by exfalso; omega) (fun h20 => ?_)
      refine ev_iload_n1 dX2_allSafe_23 ?_
      refine ev_aload_n0 dX2_allSafe_24 ?_
      refine ev_iload_n2 dX2_allSafe_25 ?_
      refine ev_iload_n3 dX2_allSafe_26 ?_
      refine ev_cV2f okX2_isSafe lkX2_149 (Nat.le_of_ble_eq_true rfl) (Nat.le_of_ble_eq_true rfl) (hM 103 rfl) isO_103 (c_X2_isSafe hM hn (by omega) he (by omega) (by omega) (by omega)) dX2_allSafe_27 ?_
      rw [hGv]
      first | refine ev_if_eqB 37 (by decide) dX2_allSafe_30 (fun h30 => ?_) (fun h30 => ?_)
      · refine ev_c0 dX2_allSafe_37 ?_
        first | refine ev_iaddN dX2_allSafe_38 ?_ | refine ev_iadd dX2_allSafe_38 ?_
        refine ev_istore_n1 dX2_allSafe_39 ?_
        refine ev_iinc3 dX2_allSafe_40 ?_
        refine ev_goto 14 (by decide) dX2_allSafe_43 ?_
        rw [h30] at hs
        simp only [if_true, Bool.false_eq_true, if_false] at hs
        rw [Nat.add_assoc, ← hs]
        exact ih (r + 1) (by omega)
      · refine ev_c1 dX2_allSafe_33 ?_
        refine ev_goto 38 (by decide) dX2_allSafe_34 ?_
        first | refine ev_iaddN dX2_allSafe_38 ?_ | refine ev_iadd dX2_allSafe_38 ?_
        refine ev_istore_n1 dX2_allSafe_39 ?_
        refine ev_iinc3 dX2_allSafe_40 ?_
        refine ev_goto 14 (by decide) dX2_allSafe_43 ?_
        rw [h30] at hs
        simp only [if_true, Bool.false_eq_true, if_false] at hs
        rw [Nat.add_assoc, ← hs]
        exact ih (r + 1) (by omega)
  have loop : ∀ f q v, q + f = n → Ev ks mX2_allSafe 4 [some (.inr 103), some (.inl (nI (fb_sm (fun q => fb_ct (G q) (rr q)) q))), some (.inl (nI q)), v] [] S (Ri (nI (fb_sm (fun q => fb_ct (G q) (rr q)) n)) S) := by
    intro f
    induction f with
    | zero =>
      intro q v hq
      refine ev_iload_n2 dX2_allSafe_4 ?_
      refine ev_aload_n0 dX2_allSafe_5 ?_
      refine ev_cV0f okX2_many lkX2_82 (Nat.le_of_ble_eq_true rfl) (Nat.le_of_ble_eq_true rfl) (hM 103 rfl) isO_103 (c_X2_many hM hn) dX2_allSafe_6 ?_
      first | refine ev_icmp_geN 52 (by omega) (by omega) (by decide) dX2_allSafe_9 (fun h9 => ?_) (fun h9 => by exfalso; omega) | refine ev_icmp_ge 52 (by decide) dX2_allSafe_9 (fun h9 => ?_) (fun h9 => by exfalso; omega)
      refine ev_iload_n1 dX2_allSafe_52 ?_
      refine ev_ireturn rfl dX2_allSafe_53 ?_
      obtain rfl : q = n := by omega
      exact ⟨rfl, rfl⟩
    | succ f ih =>
      intro q v hq
      refine ev_iload_n2 dX2_allSafe_4 ?_
      refine ev_aload_n0 dX2_allSafe_5 ?_
      refine ev_cV0f okX2_many lkX2_82 (Nat.le_of_ble_eq_true rfl) (Nat.le_of_ble_eq_true rfl) (hM 103 rfl) isO_103 (c_X2_many hM hn) dX2_allSafe_6 ?_
      first | refine ev_icmp_geN 52 (by omega) (by omega) (by decide) dX2_allSafe_9 (fun h9 => by exfalso; omega) (fun h9 => ?_) | refine ev_icmp_ge 52 (by decide) dX2_allSafe_9 (fun h9 => by exfalso; omega) (fun h9 => ?_)
      refine ev_c0 dX2_allSafe_12 ?_
      refine ev_istore_n3 dX2_allSafe_13 ?_
      exact loop2 (rr q) q (by omega) (fun v => ih (q + 1) v (by omega)) 0 (by omega)
  refine ev_c0 dX2_allSafe_0 ?_
  refine ev_istore_n1 dX2_allSafe_1 ?_
  refine ev_c0 dX2_allSafe_2 ?_
  refine ev_istore_n2 dX2_allSafe_3 ?_
  exact loop n 0 none (by omega)
theorem c_X2_allCarried {ks : List Nat} (hM : InM ks) {S : St} {n : Nat} {r : Nat → Nat → Nat} (hn : S 104 0 = nI n) (h4 : n ≤ 4) (hr : ∀ x q, x ≤ n → q < n → S 104 (123 + (4 * x + q)) = nI (r x q) ∧ r x q ≤ 8) : Cn ks mX2_allCarried yX2_allCarried [.inr 103] S (Ri (nI (fb_sm (fun x => fb_sm (fun y => fb_sm (fun k => pcn (S 104 (143 + 7 * (8 * (4 * x + y) + k) + 2))) (r x y)) n) (n + 1))) S) := by
  refine cnV okX2_allCarried 4 rfl ?_
  show Ev ks mX2_allCarried 0 [some (.inr 103), none, none, none, none] [] S _
  generalize hG : (fun x y k => pcn (S 104 (143 + 7 * (8 * (4 * x + y) + k) + 2))) = G
  have hGv : ∀ x y k, pcn (S 104 (143 + 7 * (8 * (4 * x + y) + k) + 2)) = G x y k := fun x y k => by rw [← hG]
  have hF2 : (fun x => fb_sm (fun y => fb_sm (fun k => pcn (S 104 (143 + 7 * (8 * (4 * x + y) + k) + 2))) (r x y)) n) = fun x => fb_sm (fun y => fb_sm (G x y) (r x y)) n := by rw [← hG]
  rw [hF2]
  generalize hF : (fun x => fb_sm (fun y => fb_sm (G x y) (r x y)) n) = F
  have loop3 : ∀ z x y, x ≤ n → y < n → (∀ v, Ev ks mX2_allCarried 14 [some (.inr 103), some (.inl (nI (fb_sm F x + fb_sm (fun y => fb_sm (G x y) (r x y)) (y + 1)))), some (.inl (nI x)), some (.inl (nI (y + 1))), v] [] S (Ri (nI (fb_sm F (n + 1))) S)) → ∀ k, k + z = r x y → Ev ks mX2_allCarried 25 [some (.inr 103), some (.inl (nI (fb_sm F x + fb_sm (fun y => fb_sm (G x y) (r x y)) y + fb_sm (G x y) k))), some (.inl (nI x)), some (.inl (nI y)), some (.inl (nI k))] [] S (Ri (nI (fb_sm F (n + 1))) S) := by
    intro z x y hx hy hnext
    have hr2 := hr x y hx hy
    induction z with
    | zero =>
      intro k hk
      refine ev_iload4 dX2_allCarried_25 ?_
      refine ev_aload_n0 dX2_allCarried_27 ?_
      refine ev_iload_n2 dX2_allCarried_28 ?_
      refine ev_iload_n3 dX2_allCarried_29 ?_
      refine ev_cV2f okX2_letters lkX2_62 (Nat.le_of_ble_eq_true rfl) (Nat.le_of_ble_eq_true rfl) (hM 103 rfl) isO_103 (c_X2_letters hM (by omega) (by omega)) dX2_allCarried_30 ?_
      rw [hr2.1]
      first | refine ev_icmp_geN 62 (by omega) (by omega) (by decide) dX2_allCarried_33 (fun h33 => ?_) (fun h33 => by exfalso; omega) | refine ev_icmp_ge 62 (by decide) dX2_allCarried_33 (fun h33 => ?_) (fun h33 => by exfalso; omega)
      refine ev_iinc3 dX2_allCarried_62 ?_
      refine ev_goto 14 (by decide) dX2_allCarried_65 ?_
      obtain rfl : k = r x y := by omega
      rw [Nat.add_assoc]
      exact hnext _
    | succ z ih =>
      intro k hk
      refine ev_iload4 dX2_allCarried_25 ?_
      refine ev_aload_n0 dX2_allCarried_27 ?_
      refine ev_iload_n2 dX2_allCarried_28 ?_
      refine ev_iload_n3 dX2_allCarried_29 ?_
      refine ev_cV2f okX2_letters lkX2_62 (Nat.le_of_ble_eq_true rfl) (Nat.le_of_ble_eq_true rfl) (hM 103 rfl) isO_103 (c_X2_letters hM (by omega) (by omega)) dX2_allCarried_30 ?_
      rw [hr2.1]
      first | refine ev_icmp_geN 62 (by omega) (by omega) (by decide) dX2_allCarried_33 (fun h33 => by exfalso; omega) (fun h33 => ?_) | refine ev_icmp_ge 62 (by decide) dX2_allCarried_33 (fun h33 => by exfalso; omega) (fun h33 => ?_)
      refine ev_iload_n1 dX2_allCarried_36 ?_
      refine ev_aload_n0 dX2_allCarried_37 ?_
      refine gfX2_7 rfl (hM 103 rfl) dX2_allCarried_38 ?_
      refine ev_iload_n2 dX2_allCarried_41 ?_
      refine ev_iload_n3 dX2_allCarried_42 ?_
      refine ev_iload4 dX2_allCarried_43 ?_
      refine ev_cS3f okX2_letterAt lkX2_65 (Nat.le_of_ble_eq_true rfl) (Nat.le_of_ble_eq_true rfl) c_X2_letterAt dX2_allCarried_45 ?_
      refine ev_c2 dX2_allCarried_48 ?_
      first | refine ev_iaddN dX2_allCarried_49 ?_ | refine ev_iadd dX2_allCarried_49 ?_
      refine ev_iald 1263 rfl rfl (hM 104 rfl) (by omega) dX2_allCarried_50 ?_
      refine ev_cS1f okX2_bits lkX2_112 (Nat.le_of_ble_eq_true rfl) (Nat.le_of_ble_eq_true rfl) c_X2_bits dX2_allCarried_51 ?_
      rw [hGv]
      first | refine ev_iaddN dX2_allCarried_54 ?_ | refine ev_iadd dX2_allCarried_54 ?_
      refine ev_istore_n1 dX2_allCarried_55 ?_
      refine ev_iinc4 dX2_allCarried_56 ?_
      refine ev_goto 25 (by decide) dX2_allCarried_59 ?_
      rw [Nat.add_assoc _ (fb_sm (G x y) k), ← fb_sm_succ]
      exact ih (k + 1) (by omega)
  have loop2 : ∀ z x, x ≤ n → (∀ v v2, Ev ks mX2_allCarried 4 [some (.inr 103), some (.inl (nI (fb_sm F (x + 1)))), some (.inl (nI (x + 1))), v, v2] [] S (Ri (nI (fb_sm F (n + 1))) S)) → ∀ y v, y + z = n → Ev ks mX2_allCarried 14 [some (.inr 103), some (.inl (nI (fb_sm F x + fb_sm (fun y => fb_sm (G x y) (r x y)) y))), some (.inl (nI x)), some (.inl (nI y)), v] [] S (Ri (nI (fb_sm F (n + 1))) S) := by
    intro z x hx hnext
    induction z with
    | zero =>
      intro y v hy
      refine ev_iload_n3 dX2_allCarried_14 ?_
      refine ev_aload_n0 dX2_allCarried_15 ?_
      refine ev_cV0f okX2_many lkX2_82 (Nat.le_of_ble_eq_true rfl) (Nat.le_of_ble_eq_true rfl) (hM 103 rfl) isO_103 (c_X2_many hM hn) dX2_allCarried_16 ?_
      first | refine ev_icmp_geN 68 (by omega) (by omega) (by decide) dX2_allCarried_19 (fun h19 => ?_) (fun h19 => by exfalso; omega) | refine ev_icmp_ge 68 (by decide) dX2_allCarried_19 (fun h19 => ?_) (fun h19 => by exfalso; omega)
      refine ev_iinc2 dX2_allCarried_68 ?_
      refine ev_goto 4 (by decide) dX2_allCarried_71 ?_
      obtain rfl : y = n := by omega
      have e : fb_sm F (x + 1) = fb_sm F x + fb_sm (fun y => fb_sm (G x y) (r x y)) y := by rw [fb_sm_succ, ← hF]
      rw [← e]
      exact hnext _ _
    | succ z ih =>
      intro y v hy
      refine ev_iload_n3 dX2_allCarried_14 ?_
      refine ev_aload_n0 dX2_allCarried_15 ?_
      refine ev_cV0f okX2_many lkX2_82 (Nat.le_of_ble_eq_true rfl) (Nat.le_of_ble_eq_true rfl) (hM 103 rfl) isO_103 (c_X2_many hM hn) dX2_allCarried_16 ?_
      first | refine ev_icmp_geN 68 (by omega) (by omega) (by decide) dX2_allCarried_19 (fun h19 => by exfalso; omega) (fun h19 => ?_) | refine ev_icmp_ge 68 (by decide) dX2_allCarried_19 (fun h19 => by exfalso; omega) (fun h19 => ?_)
      refine ev_c0 dX2_allCarried_22 ?_
      refine ev_istore4 dX2_allCarried_23 ?_
      exact loop3 (r x y) x y hx (by omega) (fun v => ih (y + 1) v (by omega)) 0 (by omega)
  have loop : ∀ f x v v2, x + f = n + 1 → Ev ks mX2_allCarried 4 [some (.inr 103), some (.inl (nI (fb_sm F x))), some (.inl (nI x)), v, v2] [] S (Ri (nI (fb_sm F (n + 1))) S) := by
    intro f
    induction f with
    | zero =>
      intro x v v2 hx
      refine ev_iload_n2 dX2_allCarried_4 ?_
      refine ev_aload_n0 dX2_allCarried_5 ?_
      refine ev_cV0f okX2_many lkX2_82 (Nat.le_of_ble_eq_true rfl) (Nat.le_of_ble_eq_true rfl) (hM 103 rfl) isO_103 (c_X2_many hM hn) dX2_allCarried_6 ?_
      first | refine ev_icmp_gtN 74 (by omega) (by omega) (by decide) dX2_allCarried_9 (fun h9 => ?_) (fun h9 => by exfalso; omega) | refine ev_icmp_gt 74 (by decide) dX2_allCarried_9 (fun h9 => ?_) (fun h9 => by exfalso; omega)
      refine ev_iload_n1 dX2_allCarried_74 ?_
      refine ev_ireturn rfl dX2_allCarried_75 ?_
      obtain rfl : x = n + 1 := by omega
      exact ⟨rfl, rfl⟩
    | succ f ih =>
      intro x v v2 hx
      refine ev_iload_n2 dX2_allCarried_4 ?_
      refine ev_aload_n0 dX2_allCarried_5 ?_
      refine ev_cV0f okX2_many lkX2_82 (Nat.le_of_ble_eq_true rfl) (Nat.le_of_ble_eq_true rfl) (hM 103 rfl) isO_103 (c_X2_many hM hn) dX2_allCarried_6 ?_
      first | refine ev_icmp_gtN 74 (by omega) (by omega) (by decide) dX2_allCarried_9 (fun h9 => by exfalso; omega) (fun h9 => ?_) | refine ev_icmp_gt 74 (by decide) dX2_allCarried_9 (fun h9 => by exfalso; omega) (fun h9 => ?_)
      refine ev_c0 dX2_allCarried_12 ?_
      refine ev_istore_n3 dX2_allCarried_13 ?_
      exact loop2 n x (by omega) (fun v v2 => ih (x + 1) v v2 (by omega)) 0 v2 (by omega)
  refine ev_c0 dX2_allCarried_0 ?_
  refine ev_istore_n1 dX2_allCarried_1 ?_
  refine ev_c0 dX2_allCarried_2 ?_
  refine ev_istore_n2 dX2_allCarried_3 ?_
  exact loop (n + 1) 0 none none (by omega)
