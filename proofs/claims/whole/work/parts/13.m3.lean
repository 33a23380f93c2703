theorem ct_lt {p q : Nat → Bool} : ∀ {n : Nat}, (∀ k, k < n → p k = true → q k = true) → (∃ i, i < n ∧ q i = true ∧ p i = false) → fb_ct p n < fb_ct q n
  | 0, _, h => by obtain ⟨i, h, -⟩ := h; omega
  | n + 1, h, ⟨i, h1, h2, h3⟩ => by
    rw [fb_ct_succ, fb_ct_succ]
    have hs := fb_ct_sub (p := p) (q := q) (n := n) (fun k hk => h k (by omega))
    by_cases e : i = n
    · subst e
      rw [h2, h3]
      simp
      omega
    · have := ct_lt (p := p) (q := q) (n := n) (fun k hk => h k (by omega)) ⟨i, by omega, h2, h3⟩
      have hn := h n (by omega)
      cases hp : p n
      · simp; omega
      · rw [hn hp]; simp; omega
theorem pcn_lt {a b : Int32} (h : ∀ i, bt a i = true → bt b i = true) (hne : a ≠ b) : pcn a < pcn b := by
  refine ct_lt (fun k _ => h k) ?_
  refine Classical.byContradiction fun hc => hne (b_ext fun i hi => ?_)
  cases hb : bt b i with
  | false =>
    cases ha : bt a i with
    | false => rfl
    | true => rw [h i ha] at hb; cases hb
  | true =>
    cases ha : bt a i with
    | true => rfl
    | false => exact absurd ⟨i, hi, hb, ha⟩ hc
theorem pcn_sub {a b : Int32} (h : ∀ i, bt a i = true → bt b i = true) : pcn a ≤ pcn b := fb_ct_sub fun k _ => h k
/-- what a receipt's letter was born by, in the reference's row -/
def BH (m : Nat → Int32) (n : Nat) (rr : Nat → Nat) (bir : Nat → Nat → Int32) : Prop := ∀ q r, q < n → r < rr q → (∃ x k, x < 5 ∧ k < 8 ∧ m (7 + 24 * q + 3 * r + 0) = nI x ∧ m (7 + 24 * q + 3 * r + 1) = nI k ∧ m (143 + 7 * (8 * (4 * x + q) + k) + 1) = bir q r) ∧ (bir q r = -9 ∨ ∃ b, b < 32 ∧ bir q r = nI b)
theorem c_X2_birthOf2 {ks : List Nat} (hM : InM ks) {S : St} {n : Nat} {rr : Nat → Nat} {bir : Nat → Nat → Int32} (hB : BH (S 104) n rr bir) (h4 : n ≤ 4) (h8 : ∀ q, q < n → rr q ≤ 8) {q r : Nat} (hq : q < n) (hr : r < rr q) : Cn ks mX2_birthOf yX2_birthOf [.inr 103, .inl (nI q), .inl (nI r)] S (Ri (bir q r) S) := by
  obtain ⟨⟨x, k, hx, hk, e1, e2, e3⟩, -⟩ := hB q r hq hr
  have := h8 q hq
  rw [← e3]
  exact c_X2_birthOf hM (by omega) (by omega) e1 e2 hx hk
def Clo (n : Nat) (rr : Nat → Nat) (bir : Nat → Nat → Int32) (C : Nat → Prop) : Prop := ∀ q r, q < n → r < rr q → C (8 * q + r) → (0 < r → C (8 * q + r - 1)) ∧ ∀ b, b < 32 → bir q r = nI b → C b
/-- the least closed set with a code in it -/
def Lfp (n : Nat) (rr : Nat → Nat) (bir : Nat → Nat → Int32) (c : Nat) (x : Int32) : Prop := bt x c = true ∧ Clo n rr bir (fun d => bt x d = true) ∧ ∀ C : Nat → Prop, C c → Clo n rr bir C → ∀ d, bt x d = true → C d
theorem b_onen (k : Nat) (hk : k < 32) (i : Nat) : bt (nI 1 <<< (nI k &&& 31)) i = decide (i = k) := by rw [nI_lit1]; exact b_one k hk i
set_option maxHeartbeats 1000000 in
theorem c_X2_pastOf {ks : List Nat} (hM : InM ks) {S : St} {n q0 r0 : Nat} {rr : Nat → Nat} {bir : Nat → Nat → Int32} {y : Int32} (hn : S 104 0 = nI n) (h4 : n ≤ 4) (hr : ∀ q, q < n → S 104 (3 + q) = nI (rr q) ∧ rr q ≤ 8) (hB : BH (S 104) n rr bir) (hq0 : q0 < n) (hr0 : r0 < rr q0) (hy : Lfp n rr bir (8 * q0 + r0) y) : Cn ks mX2_pastOf yX2_pastOf [.inr 103, .inl (nI q0), .inl (nI r0)] S (Ri y S) := by
  refine cnV okX2_pastOf 5 rfl ?_
  show Ev ks mX2_pastOf 0 [some (.inr 103), some (.inl (nI q0)), some (.inl (nI r0)), none, none, none, none, none] [] S _
  have h8 : ∀ q, q < n → rr q ≤ 8 := fun q hq => (hr q hq).2
  obtain ⟨hy1, hy2, hy3⟩ := hy
  have h80 := h8 q0 hq0
  have hexit : ∀ s v5 v6 v7, bt s (8 * q0 + r0) = true → (∀ d, bt s d = true → bt y d = true) → Clo n rr bir (fun d => bt s d = true) → Ev ks mX2_pastOf 12 [some (.inr 103), some (.inl (nI q0)), some (.inl (nI r0)), some (.inl s), some (.inl s), v5, v6, v7] [] S (Ri y S) := by
    intro s v5 v6 v7 s1 s2 s3
    refine ev_iload4 dX2_pastOf_12 ?_
    refine ev_iload_n3 dX2_pastOf_14 ?_
    first | refine ev_icmp_eq 129 (by decide) dX2_pastOf_15 (fun h15 => ?_) (fun h15 => by exact absurd rfl h15)
    refine ev_iload_n3 dX2_pastOf_129 ?_
    refine ev_ireturn rfl dX2_pastOf_130 ?_
    refine ⟨congrArg some (b_ext fun i hi => ?_), rfl⟩
    cases hb : bt s i with
    | true => exact (s2 i hb).symm
    | false =>
      cases hy : bt y i with
      | false => rfl
      | true => rw [hy3 _ s1 s3 i hy] at hb; cases hb
  -- a pass: from was on
  have pass : ∀ (was : Int32) (N : Nat), (∀ s v5 v6 v7, (∀ i, bt was i = true → bt s i = true) → (∀ i, bt s i = true → bt y i = true) → (∀ q' r', q' < n → r' < rr q' → bt was (8 * q' + r') = true → (0 < r' → bt s (8 * q' + r' - 1) = true) ∧ ∀ b, b < 32 → bir q' r' = nI b → bt s b = true) → Ev ks mX2_pastOf 12 [some (.inr 103), some (.inl (nI q0)), some (.inl (nI r0)), some (.inl s), some (.inl was), v5, v6, v7] [] S (Ri y S)) →
      ∀ f q s v6 v7, q + f = n → (∀ i, bt was i = true → bt s i = true) → (∀ i, bt s i = true → bt y i = true) → (∀ q' r', q' < n → r' < rr q' → q' < q → bt was (8 * q' + r') = true → (0 < r' → bt s (8 * q' + r' - 1) = true) ∧ ∀ b, b < 32 → bir q' r' = nI b → bt s b = true) → Ev ks mX2_pastOf 24 [some (.inr 103), some (.inl (nI q0)), some (.inl (nI r0)), some (.inl s), some (.inl was), some (.inl (nI q)), v6, v7] [] S (Ri y S) := by
    intro was N hnext f
    induction f with
    | zero =>
      intro q s v6 v7 hq s1 s2 s3
      refine ev_iload5 dX2_pastOf_24 ?_
      refine ev_aload_n0 dX2_pastOf_26 ?_
      refine ev_cV0f okX2_many lkX2_82 (Nat.le_of_ble_eq_true rfl) (Nat.le_of_ble_eq_true rfl) (hM 103 rfl) isO_103 (c_X2_many hM hn) dX2_pastOf_27 ?_
      first | refine ev_icmp_geN 126 (by omega) (by omega) (by decide) dX2_pastOf_30 (fun h30 => ?_) (fun h30 => by exfalso; omega) | refine ev_icmp_ge 126 (by decide) dX2_pastOf_30 (fun h30 => ?_) (fun h30 => by exfalso; omega)
      refine ev_goto 12 (by decide) dX2_pastOf_126 ?_
      exact hnext s _ _ _ s1 s2 (fun q' r' h1 h2 => s3 q' r' h1 h2 (by omega))
    | succ f ih =>
      intro q s v6 v7 hq s1 s2 s3
      have hr2 := hr q (by omega)
      have inner : ∀ z r s v7, r + z = rr q → (∀ i, bt was i = true → bt s i = true) → (∀ i, bt s i = true → bt y i = true) → (∀ q' r', q' < n → r' < rr q' → (q' < q ∨ (q' = q ∧ r' < r)) → bt was (8 * q' + r') = true → (0 < r' → bt s (8 * q' + r' - 1) = true) ∧ ∀ b, b < 32 → bir q' r' = nI b → bt s b = true) → Ev ks mX2_pastOf 36 [some (.inr 103), some (.inl (nI q0)), some (.inl (nI r0)), some (.inl s), some (.inl was), some (.inl (nI q)), some (.inl (nI r)), v7] [] S (Ri y S) := by
        intro z
        induction z with
        | zero =>
          intro r s v7 hz s1 s2 s3
          refine ev_iload6 dX2_pastOf_36 ?_
          refine ev_aload_n0 dX2_pastOf_38 ?_
          refine ev_iload5 dX2_pastOf_39 ?_
          refine ev_cV1f okX2_receipts lkX2_47 (Nat.le_of_ble_eq_true rfl) (Nat.le_of_ble_eq_true rfl) (hM 103 rfl) isO_103 (c_X2_receipts hM (by omega)) dX2_pastOf_41 ?_
          rw [hr2.1]
          first | refine ev_icmp_geN 120 (by omega) (by omega) (by decide) dX2_pastOf_44 (fun h44 => ?_) (fun h44 => by exfalso; omega) | refine ev_icmp_ge 120 (by decide) dX2_pastOf_44 (fun h44 => ?_) (fun h44 => by exfalso; omega)
          refine ev_iinc5 dX2_pastOf_120 ?_
          refine ev_goto 24 (by decide) dX2_pastOf_123 ?_
          refine ih (q + 1) s _ _ (by omega) s1 s2 (fun q' r' h1 h2 h3 => s3 q' r' h1 h2 ?_)
          by_cases e : q' = q
          · subst e; exact Or.inr ⟨rfl, by omega⟩
          · exact Or.inl (by omega)
        | succ z ih2 =>
          intro r s v7 hz s1 s2 s3
          have hbq := hB q r (by omega) (by omega)
          by_cases hbit : bt s (8 * q + r) = true
          · -- its birth, and the one ahead
            have cy := hy2 q r (by omega) (by omega) (s2 _ hbit)
            have fin : ∀ s' v7, (∀ i, bt s' i = true ↔ bt s i = true ∨ (∃ b, b < 32 ∧ bir q r = nI b ∧ i = b) ∨ (0 < r ∧ i = 8 * q + r - 1)) → Ev ks mX2_pastOf 36 [some (.inr 103), some (.inl (nI q0)), some (.inl (nI r0)), some (.inl s'), some (.inl was), some (.inl (nI q)), some (.inl (nI (r + 1))), v7] [] S (Ri y S) := by
              intro s' v7 hs'
              refine ih2 (r + 1) s' v7 (by omega) (fun i h => (hs' i).mpr (Or.inl (s1 i h))) (fun i h => ?_) (fun q' r' h1 h2 h3 h5 => ?_)
              · rcases (hs' i).mp h with h | ⟨b, hb, e1, rfl⟩ | ⟨hr', rfl⟩
                · exact s2 i h
                · exact cy.2 i hb e1
                · exact cy.1 hr'
              · by_cases e : q' = q ∧ r' = r
                · obtain ⟨rfl, rfl⟩ := e
                  exact ⟨fun h => (hs' _).mpr (Or.inr (Or.inr ⟨h, rfl⟩)), fun b hb e1 => (hs' _).mpr (Or.inr (Or.inl ⟨b, hb, e1, rfl⟩))⟩
                · have := s3 q' r' h1 h2 (by omega) h5
                  exact ⟨fun h => (hs' _).mpr (Or.inl (this.1 h)), fun b hb e1 => (hs' _).mpr (Or.inl (this.2 b hb e1))⟩
            rcases hbq.2 with hbn | ⟨b, hb, hbv⟩
            · have nb : ¬ ∃ b, b < 32 ∧ bir q r = nI b := fun ⟨b, hb, e⟩ => nI_neg (c := b) (by omega) m9_neg (e.symm.trans hbn)
              refine ev_iload6 dX2_pastOf_36 ?_
              refine ev_aload_n0 dX2_pastOf_38 ?_
              refine ev_iload5 dX2_pastOf_39 ?_
              refine ev_cV1f okX2_receipts lkX2_47 (Nat.le_of_ble_eq_true rfl) (Nat.le_of_ble_eq_true rfl) (hM 103 rfl) isO_103 (c_X2_receipts hM (by omega)) dX2_pastOf_41 ?_
              rw [hr2.1]
              first | refine ev_icmp_geN 120 (by omega) (by omega) (by decide) dX2_pastOf_44 (fun h44 => by exfalso; omega) (fun h44 => ?_) | refine ev_icmp_ge 120 (by decide) dX2_pastOf_44 (fun h44 => by exfalso; omega) (fun h44 => ?_)
              refine ev_iload_n3 dX2_pastOf_47 ?_
              refine ev_bipush (nI 8) kb_8 dX2_pastOf_48 ?_
              refine ev_iload5 dX2_pastOf_50 ?_
              first | refine ev_imulN dX2_pastOf_52 ?_ | refine ev_imul dX2_pastOf_52 ?_
              refine ev_iload6 dX2_pastOf_53 ?_
              first | refine ev_iaddN dX2_pastOf_55 ?_ | refine ev_iadd dX2_pastOf_55 ?_
              refine ev_cS2f okX2_has lkX2_39 (Nat.le_of_ble_eq_true rfl) (Nat.le_of_ble_eq_true rfl) (c_X2_has (by omega)) dX2_pastOf_56 ?_
              first | refine ev_if_eqB 114 (by decide) dX2_pastOf_59 (fun h59 => by rw [hbit] at h59; cases h59) (fun h59 => ?_)
              refine ev_aload_n0 dX2_pastOf_62 ?_
              refine ev_iload5 dX2_pastOf_63 ?_
              refine ev_iload6 dX2_pastOf_65 ?_
              refine ev_cV2f okX2_birthOf lkX2_118 (Nat.le_of_ble_eq_true rfl) (Nat.le_of_ble_eq_true rfl) (hM 103 rfl) isO_103 (c_X2_birthOf2 hM hB h4 h8 (by omega) (by omega)) dX2_pastOf_67 ?_
              rw [hbn]
              refine ev_istore7 dX2_pastOf_70 ?_
              refine ev_iload_n3 dX2_pastOf_72 ?_
              refine ev_iload7 dX2_pastOf_73 ?_
              refine ev_bipush (-9 : Int32) kb_m9 dX2_pastOf_75 ?_
              first | refine ev_icmp_ne 84 (by decide) dX2_pastOf_77 (fun h77 => by exact absurd rfl h77) (fun h77 => ?_)
              refine ev_c0 dX2_pastOf_80 ?_
              refine ev_goto 88 (by decide) dX2_pastOf_81 ?_
              refine ev_ior dX2_pastOf_88 ?_
              refine ev_istore_n3 dX2_pastOf_89 ?_
              refine ev_iload_n3 dX2_pastOf_90 ?_
              refine ev_iload6 dX2_pastOf_91 ?_
              first | refine ev_if_neN 100 (by omega) (by decide) dX2_pastOf_93 (fun h93 => ?_) (fun h93 => ?_) | refine ev_if_ne 100 (by decide) dX2_pastOf_93 (fun h93 => ?_) (fun h93 => ?_)
              · refine ev_c1 dX2_pastOf_100 ?_
                refine ev_bipush (nI 8) kb_8 dX2_pastOf_101 ?_
                refine ev_iload5 dX2_pastOf_103 ?_
                first | refine ev_imulN dX2_pastOf_105 ?_ | refine ev_imul dX2_pastOf_105 ?_
                refine ev_iload6 dX2_pastOf_106 ?_
                first | refine ev_iaddN dX2_pastOf_108 ?_ | refine ev_iadd dX2_pastOf_108 ?_
                refine ev_c1 dX2_pastOf_109 ?_
                first | refine ev_isubN (by omega) dX2_pastOf_110 ?_ | refine ev_isub dX2_pastOf_110 ?_
                refine ev_ishl dX2_pastOf_111 ?_
                refine ev_ior dX2_pastOf_112 ?_
                refine ev_istore_n3 dX2_pastOf_113 ?_
                refine ev_iinc6 dX2_pastOf_114 ?_
                refine ev_goto 36 (by decide) dX2_pastOf_117 ?_
                refine fin _ _ (fun i => ?_)
                simp only [b_or, Bool.or_eq_true, nI_0, b_0, Bool.false_eq_true, or_false]
                constructor
                · intro h
                  first | exact Or.inl h | (rcases h with h | h; exact Or.inl h; rw [b_onen _ (by omega)] at h; exact Or.inr (Or.inr ⟨h93, of_decide_eq_true h⟩))
                · rintro (h | ⟨b, hb, e1, -⟩ | ⟨h1, h2⟩)
                  · first | exact h | exact Or.inl h
                  · exact absurd ⟨b, hb, e1⟩ nb
                  · first | (exfalso; omega) | (refine Or.inr ?_; rw [b_onen _ (by omega)]; exact decide_eq_true h2)
              · refine ev_c0 dX2_pastOf_96 ?_
                refine ev_goto 112 (by decide) dX2_pastOf_97 ?_
                refine ev_ior dX2_pastOf_112 ?_
                refine ev_istore_n3 dX2_pastOf_113 ?_
                refine ev_iinc6 dX2_pastOf_114 ?_
                refine ev_goto 36 (by decide) dX2_pastOf_117 ?_
                refine fin _ _ (fun i => ?_)
                simp only [b_or, Bool.or_eq_true, nI_0, b_0, Bool.false_eq_true, or_false]
                constructor
                · intro h
                  first | exact Or.inl h | (rcases h with h | h; exact Or.inl h; rw [b_onen _ (by omega)] at h; exact Or.inr (Or.inr ⟨h93, of_decide_eq_true h⟩))
                · rintro (h | ⟨b, hb, e1, -⟩ | ⟨h1, h2⟩)
                  · first | exact h | exact Or.inl h
                  · exact absurd ⟨b, hb, e1⟩ nb
                  · first | (exfalso; omega) | (refine Or.inr ?_; rw [b_onen _ (by omega)]; exact decide_eq_true h2)
            · have ub : ∀ b', b' < 32 → bir q r = nI b' → b' = b := fun b' hb' e => (nI_eq (by omega) (by omega)).mp (e.symm.trans hbv)
              refine ev_iload6 dX2_pastOf_36 ?_
              refine ev_aload_n0 dX2_pastOf_38 ?_
              refine ev_iload5 dX2_pastOf_39 ?_
              refine ev_cV1f okX2_receipts lkX2_47 (Nat.le_of_ble_eq_true rfl) (Nat.le_of_ble_eq_true rfl) (hM 103 rfl) isO_103 (c_X2_receipts hM (by omega)) dX2_pastOf_41 ?_
              rw [hr2.1]
              first | refine ev_icmp_geN 120 (by omega) (by omega) (by decide) dX2_pastOf_44 (fun h44 => by exfalso; omega) (fun h44 => ?_) | refine ev_icmp_ge 120 (by decide) dX2_pastOf_44 (fun h44 => by exfalso; omega) (fun h44 => ?_)
              refine ev_iload_n3 dX2_pastOf_47 ?_
              refine ev_bipush (nI 8) kb_8 dX2_pastOf_48 ?_
              refine ev_iload5 dX2_pastOf_50 ?_
              first | refine ev_imulN dX2_pastOf_52 ?_ | refine ev_imul dX2_pastOf_52 ?_
              refine ev_iload6 dX2_pastOf_53 ?_
              first | refine ev_iaddN dX2_pastOf_55 ?_ | refine ev_iadd dX2_pastOf_55 ?_
              refine ev_cS2f okX2_has lkX2_39 (Nat.le_of_ble_eq_true rfl) (Nat.le_of_ble_eq_true rfl) (c_X2_has (by omega)) dX2_pastOf_56 ?_
              first | refine ev_if_eqB 114 (by decide) dX2_pastOf_59 (fun h59 => by rw [hbit] at h59; cases h59) (fun h59 => ?_)
              refine ev_aload_n0 dX2_pastOf_62 ?_
              refine ev_iload5 dX2_pastOf_63 ?_
              refine ev_iload6 dX2_pastOf_65 ?_
              refine ev_cV2f okX2_birthOf lkX2_118 (Nat.le_of_ble_eq_true rfl) (Nat.le_of_ble_eq_true rfl) (hM 103 rfl) isO_103 (c_X2_birthOf2 hM hB h4 h8 (by omega) (by omega)) dX2_pastOf_67 ?_
              rw [hbv]
              refine ev_istore7 dX2_pastOf_70 ?_
              refine ev_iload_n3 dX2_pastOf_72 ?_
              refine ev_iload7 dX2_pastOf_73 ?_
              refine ev_bipush (-9 : Int32) kb_m9 dX2_pastOf_75 ?_
              first | refine ev_icmp_ne 84 (by decide) dX2_pastOf_77 (fun h77 => ?_) (fun h77 => by exact absurd h77 (nI_neg (by omega) m9_neg))
              refine ev_c1 dX2_pastOf_84 ?_
              refine ev_iload7 dX2_pastOf_85 ?_
              refine ev_ishl dX2_pastOf_87 ?_
              refine ev_ior dX2_pastOf_88 ?_
              refine ev_istore_n3 dX2_pastOf_89 ?_
              refine ev_iload_n3 dX2_pastOf_90 ?_
              refine ev_iload6 dX2_pastOf_91 ?_
              first | refine ev_if_neN 100 (by omega) (by decide) dX2_pastOf_93 (fun h93 => ?_) (fun h93 => ?_) | refine ev_if_ne 100 (by decide) dX2_pastOf_93 (fun h93 => ?_) (fun h93 => ?_)
              · refine ev_c1 dX2_pastOf_100 ?_
                refine ev_bipush (nI 8) kb_8 dX2_pastOf_101 ?_
                refine ev_iload5 dX2_pastOf_103 ?_
                first | refine ev_imulN dX2_pastOf_105 ?_ | refine ev_imul dX2_pastOf_105 ?_
                refine ev_iload6 dX2_pastOf_106 ?_
                first | refine ev_iaddN dX2_pastOf_108 ?_ | refine ev_iadd dX2_pastOf_108 ?_
                refine ev_c1 dX2_pastOf_109 ?_
                first | refine ev_isubN (by omega) dX2_pastOf_110 ?_ | refine ev_isub dX2_pastOf_110 ?_
                refine ev_ishl dX2_pastOf_111 ?_
                refine ev_ior dX2_pastOf_112 ?_
                refine ev_istore_n3 dX2_pastOf_113 ?_
                refine ev_iinc6 dX2_pastOf_114 ?_
                refine ev_goto 36 (by decide) dX2_pastOf_117 ?_
                refine fin _ _ (fun i => ?_)
                simp only [b_or, Bool.or_eq_true, nI_0, b_0, Bool.false_eq_true, or_false, b_onen b hb, decide_eq_true_eq]
                constructor
                · intro h
                  first | (rcases h with h | h; exact Or.inl h; exact Or.inr (Or.inl ⟨b, hb, hbv, h⟩)) | (rcases h with (h | h) | h; exact Or.inl h; exact Or.inr (Or.inl ⟨b, hb, hbv, h⟩); rw [b_onen _ (by omega)] at h; exact Or.inr (Or.inr ⟨h93, of_decide_eq_true h⟩))
                · rintro (h | ⟨b', hb', e1, e2⟩ | ⟨h1, h2⟩)
                  · first | exact Or.inl h | exact Or.inl (Or.inl h)
                  · first | exact Or.inr (e2.trans (ub b' hb' e1)) | exact Or.inl (Or.inr (e2.trans (ub b' hb' e1)))
                  · first | (exfalso; omega) | (refine Or.inr ?_; rw [b_onen _ (by omega)]; exact decide_eq_true h2)
              · refine ev_c0 dX2_pastOf_96 ?_
                refine ev_goto 112 (by decide) dX2_pastOf_97 ?_
                refine ev_ior dX2_pastOf_112 ?_
                refine ev_istore_n3 dX2_pastOf_113 ?_
                refine ev_iinc6 dX2_pastOf_114 ?_
                refine ev_goto 36 (by decide) dX2_pastOf_117 ?_
                refine fin _ _ (fun i => ?_)
                simp only [b_or, Bool.or_eq_true, nI_0, b_0, Bool.false_eq_true, or_false, b_onen b hb, decide_eq_true_eq]
                constructor
                · intro h
                  first | (rcases h with h | h; exact Or.inl h; exact Or.inr (Or.inl ⟨b, hb, hbv, h⟩)) | (rcases h with (h | h) | h; exact Or.inl h; exact Or.inr (Or.inl ⟨b, hb, hbv, h⟩); rw [b_onen _ (by omega)] at h; exact Or.inr (Or.inr ⟨h93, of_decide_eq_true h⟩))
                · rintro (h | ⟨b', hb', e1, e2⟩ | ⟨h1, h2⟩)
                  · first | exact Or.inl h | exact Or.inl (Or.inl h)
                  · first | exact Or.inr (e2.trans (ub b' hb' e1)) | exact Or.inl (Or.inr (e2.trans (ub b' hb' e1)))
                  · first | (exfalso; omega) | (refine Or.inr ?_; rw [b_onen _ (by omega)]; exact decide_eq_true h2)
          · have hbf : bt s (8 * q + r) = false := by simpa using hbit
            refine ev_iload6 dX2_pastOf_36 ?_
            refine ev_aload_n0 dX2_pastOf_38 ?_
            refine ev_iload5 dX2_pastOf_39 ?_
            refine ev_cV1f okX2_receipts lkX2_47 (Nat.le_of_ble_eq_true rfl) (Nat.le_of_ble_eq_true rfl) (hM 103 rfl) isO_103 (c_X2_receipts hM (by omega)) dX2_pastOf_41 ?_
            rw [hr2.1]
            first | refine ev_icmp_geN 120 (by omega) (by omega) (by decide) dX2_pastOf_44 (fun h44 => by exfalso; omega) (fun h44 => ?_) | refine ev_icmp_ge 120 (by decide) dX2_pastOf_44 (fun h44 => by exfalso; omega) (fun h44 => ?_)
            refine ev_iload_n3 dX2_pastOf_47 ?_
            refine ev_bipush (nI 8) kb_8 dX2_pastOf_48 ?_
            refine ev_iload5 dX2_pastOf_50 ?_
            first | refine ev_imulN dX2_pastOf_52 ?_ | refine ev_imul dX2_pastOf_52 ?_
            refine ev_iload6 dX2_pastOf_53 ?_
            first | refine ev_iaddN dX2_pastOf_55 ?_ | refine ev_iadd dX2_pastOf_55 ?_
            refine ev_cS2f okX2_has lkX2_39 (Nat.le_of_ble_eq_true rfl) (Nat.le_of_ble_eq_true rfl) (c_X2_has (by omega)) dX2_pastOf_56 ?_
            first | refine ev_if_eqB 114 (by decide) dX2_pastOf_59 (fun h59 => ?_) (fun h59 => by rw [hbf] at h59; cases h59)
            refine ev_iinc6 dX2_pastOf_114 ?_
            refine ev_goto 36 (by decide) dX2_pastOf_117 ?_
            refine ih2 (r + 1) s _ (by omega) s1 s2 (fun q' r' h1 h2 h3 h5 => ?_)
            by_cases e : q' = q ∧ r' = r
            · obtain ⟨rfl, rfl⟩ := e
              exact absurd (s1 _ h5) hbit
            · exact s3 q' r' h1 h2 (by omega) h5
      refine ev_iload5 dX2_pastOf_24 ?_
      refine ev_aload_n0 dX2_pastOf_26 ?_
      refine ev_cV0f okX2_many lkX2_82 (Nat.le_of_ble_eq_true rfl) (Nat.le_of_ble_eq_true rfl) (hM 103 rfl) isO_103 (c_X2_many hM hn) dX2_pastOf_27 ?_
      first | refine ev_icmp_geN 126 (by omega) (by omega) (by decide) dX2_pastOf_30 (fun h30 => by exfalso; omega) (fun h30 => ?_) | refine ev_icmp_ge 126 (by decide) dX2_pastOf_30 (fun h30 => by exfalso; omega) (fun h30 => ?_)
      refine ev_c0 dX2_pastOf_33 ?_
      refine ev_istore6 dX2_pastOf_34 ?_
      exact inner (rr q) 0 s _ (by omega) s1 s2 (fun q' r' h1 h2 h3 => s3 q' r' h1 h2 (by omega))
  have main : ∀ N s was v5 v6 v7, pcn y - pcn s < N → ¬ was = s → bt s (8 * q0 + r0) = true → (∀ d, bt s d = true → bt y d = true) → Ev ks mX2_pastOf 12 [some (.inr 103), some (.inl (nI q0)), some (.inl (nI r0)), some (.inl s), some (.inl was), v5, v6, v7] [] S (Ri y S) := by
    intro N
    induction N with
    | zero => intro s was v5 v6 v7 h; omega
    | succ N ih =>
      intro s was v5 v6 v7 hN hne s1 s2
      refine ev_iload4 dX2_pastOf_12 ?_
      refine ev_iload_n3 dX2_pastOf_14 ?_
      first | refine ev_icmp_eq 129 (by decide) dX2_pastOf_15 (fun h15 => by exact absurd h15 hne) (fun h15 => ?_)
      refine ev_iload_n3 dX2_pastOf_18 ?_
      refine ev_istore4 dX2_pastOf_19 ?_
      refine ev_c0 dX2_pastOf_21 ?_
      refine ev_istore5 dX2_pastOf_22 ?_
      refine pass s N (fun s' v5 v6 v7 t1 t2 t3 => ?_) n 0 s _ _ (by omega) (fun _ h => h) s2 (fun q' r' _ _ h => by omega)
      by_cases e : s = s'
      · subst e
        exact hexit s _ _ _ s1 s2 (fun q' r' h1 h2 h3 => t3 q' r' h1 h2 h3)
      · have hlt := pcn_lt t1 e
        have hle := pcn_sub t2
        exact ih s' s _ _ _ (by omega) e (t1 _ s1) t2
  refine ev_c1 dX2_pastOf_0 ?_
  refine ev_bipush (nI 8) kb_8 dX2_pastOf_1 ?_
  refine ev_iload_n1 dX2_pastOf_3 ?_
  first | refine ev_imulN dX2_pastOf_4 ?_ | refine ev_imul dX2_pastOf_4 ?_
  refine ev_iload_n2 dX2_pastOf_5 ?_
  first | refine ev_iaddN dX2_pastOf_6 ?_ | refine ev_iadd dX2_pastOf_6 ?_
  refine ev_ishl dX2_pastOf_7 ?_
  refine ev_istore_n3 dX2_pastOf_8 ?_
  refine ev_c0 dX2_pastOf_9 ?_
  refine ev_istore4 dX2_pastOf_10 ?_
  refine main (pcn y + 1) _ _ _ _ _ (by omega) ?_ ?_ ?_
  · intro e
    have := congrArg (fun z => bt z (8 * q0 + r0)) e
    simp only [nI_0, b_0] at this
    rw [b_onen _ (by omega)] at this
    simp at this
  · rw [b_onen _ (by omega)]; simp
  · intro d hd
    rw [b_onen _ (by omega)] at hd
    rw [of_decide_eq_true hd]
    exact hy1

/-- whether a birth is kept -/
def kbB (K : Nat → Nat) (v : Int32) : Bool := decide (v = -9) || decide (tn v % 8 < K (tn v / 8))
theorem kbB_none (K : Nat → Nat) : kbB K (-9) = true := by unfold kbB; simp
theorem kbB_code (K : Nat → Nat) {b : Nat} (hb : b < 32) : kbB K (nI b) = decide (b % 8 < K (b / 8)) := by
  unfold kbB
  rw [decide_eq_false (nI_neg (by omega) m9_neg), tn_nI (by omega), Bool.false_or]
theorem c_X2_isKeptCode2 {ks : List Nat} (hM : InM ks) {S : St} {K : Nat → Nat} (hK : ∀ q, q < 4 → S 110 q = nI (K q) ∧ K q ≤ 8) {v : Int32} (hv : v = -9 ∨ ∃ b, b < 32 ∧ v = nI b) : Cn ks mX2_isKeptCode yX2_isKeptCode [.inr 103, .inl v] S (Ri (bI (kbB K v)) S) := by
  rcases hv with rfl | ⟨b, hb, rfl⟩
  · rw [kbB_none]
    exact c_X2_isKeptCode_none hM
  · rw [kbB_code K hb]
    have := hK (b / 8) (by omega)
    exact c_X2_isKeptCode hM hb this.1 this.2
/-- what may be kept, of each site how many -/
def Kad (n : Nat) (rr : Nat → Nat) (d held : Int32) (bir : Nat → Nat → Int32) (K : Nat → Nat) : Prop := (∀ q, q < n → K q ≤ rr q) ∧ (∀ q, n ≤ q → K q = 0) ∧ (∀ q r, q < n → r < K q → bt d q = true → bt held (8 * q + r) = true) ∧ ∀ q r, q < n → r < K q → kbB K (bir q r) = true
def Gfp (n : Nat) (rr : Nat → Nat) (d held : Int32) (bir : Nat → Nat → Int32) (K : Nat → Nat) : Prop := Kad n rr d held bir K ∧ ∀ K', Kad n rr d held bir K' → ∀ q, q < n → K' q ≤ K q
theorem kbB_mono {K K' : Nat → Nat} (h : ∀ q, K q ≤ K' q) {v : Int32} (hv : kbB K v = true) : kbB K' v = true := by
  unfold kbB at hv ⊢
  rw [Bool.or_eq_true, decide_eq_true_eq, decide_eq_true_eq] at hv ⊢
  rcases hv with hv | hv
  · exact Or.inl hv
  · exact Or.inr (Nat.lt_of_lt_of_le hv (h _))
theorem sm_lt {f g : Nat → Nat} : ∀ {n : Nat}, (∀ k, k < n → f k ≤ g k) → (∃ i, i < n ∧ f i < g i) → fb_sm f n < fb_sm g n
  | 0, _, h => by obtain ⟨i, h, -⟩ := h; omega
  | n + 1, h, ⟨i, h1, h2⟩ => by
    rw [fb_sm_succ, fb_sm_succ]
    have hs := fb_sm_le (f := f) (g := g) (n := n) (fun k hk => h k (by omega))
    have hn := h n (by omega)
    by_cases e : i = n
    · subst e; omega
    · have := sm_lt (f := f) (g := g) (n := n) (fun k hk => h k (by omega)) ⟨i, by omega, h2⟩
      omega
/-- the row of numbers kept -/
def kR (K : Nat → Nat) : Nat → Int32 := fun q => nI (K q)
theorem kR_upd (K : Nat → Nat) (q v : Nat) : upd (kR K) q (nI v) = kR (fun i => if i = q then v else K i) := by
  funext i
  unfold upd kR
  by_cases h : i = q
  · simp [h]
  · simp [h]
set_option maxHeartbeats 1000000 in
theorem c_X2_findKept {ks : List Nat} (hM : InM ks) {S : St} {n : Nat} {rr : Nat → Nat} {d : Int32} {bir : Nat → Nat → Int32} {K : Nat → Nat} (hn : S 104 0 = nI n) (h4 : n ≤ 4) (hr : ∀ q, q < n → S 104 (3 + q) = nI (rr q) ∧ rr q ≤ 8) (hB : BH (S 104) n rr bir) (hK : Gfp n rr d (orF (fun q => bif bt d q then 0 else S 104 (103 + q)) n) bir K) : Cn ks mX2_findKept yX2_findKept [.inr 103, .inl d] S (Rv (sr S 110 (kR K))) := by
  refine cnV okX2_findKept 4 rfl ?_
  show Ev ks mX2_findKept 0 [some (.inr 103), some (.inl d), none, none, none, none] [] S _
  generalize hH : orF (fun q => bif bt d q then 0 else S 104 (103 + q)) n = held at hK
  obtain ⟨⟨k1, k2, k3, k5⟩, kg⟩ := hK
  have h8 : ∀ q, q < n → rr q ≤ 8 := fun q hq => (hr q hq).2
  have n110 : ∀ (X : Nat → Int32) (j : Nat), j ≠ 110 → sr S 110 X j = S j := fun X j h => sr_n h
  -- the second part: less and less
  have exit : ∀ Kc v4 v5, (∀ q, q < n → Kc q ≤ rr q) → (∀ q, n ≤ q → Kc q = 0) → (∀ q r, q < n → r < Kc q → bt d q = true → bt held (8 * q + r) = true) → (∀ q, K q ≤ Kc q) → (∀ q r, q < n → r < Kc q → kbB Kc (bir q r) = true) → Ev ks mX2_findKept 78 [some (.inr 103), some (.inl d), some (.inl held), some (.inl (nI 0)), v4, v5] [] (sr S 110 (kR Kc)) (Rv (sr S 110 (kR K))) := by
    intro Kc v4 v5 c1 c2 c3 c4 c5
    have e : Kc = K := by
      funext q
      rcases Nat.lt_or_ge q n with h | h
      · exact Nat.le_antisymm (kg Kc ⟨c1, c2, c3, c5⟩ q h) (c4 q)
      · rw [c2 q h, k2 q h]
    subst e
    refine ev_iload_n3 dX2_findKept_78 ?_
    first | refine ev_if_eqN 172 (by omega) (by decide) dX2_findKept_79 (fun h79 => ?_) (fun h79 => by exfalso; omega)
    refine ev_return rfl dX2_findKept_172 ?_
    exact ⟨rfl, rfl⟩
  have pass : ∀ (K1 : Nat → Nat), (∀ Kc gv v4 v5, gv ≤ 1 → (∀ q, q < n → Kc q ≤ rr q) → (∀ q, n ≤ q → Kc q = 0) → (∀ q r, q < n → r < Kc q → bt d q = true → bt held (8 * q + r) = true) → (∀ q, K q ≤ Kc q) → (gv = 0 → Kc = K1 ∧ ∀ q r, q < n → r < K1 q → kbB K1 (bir q r) = true) → (0 < gv → fb_sm Kc n < fb_sm K1 n) → Ev ks mX2_findKept 78 [some (.inr 103), some (.inl d), some (.inl held), some (.inl (nI gv)), v4, v5] [] (sr S 110 (kR Kc)) (Rv (sr S 110 (kR K)))) →
      ∀ f q Kc gv v5, q + f = n → gv ≤ 1 → (∀ q, q < n → Kc q ≤ rr q) → (∀ q, n ≤ q → Kc q = 0) → (∀ q r, q < n → r < Kc q → bt d q = true → bt held (8 * q + r) = true) → (∀ q, K q ≤ Kc q) → (∀ q, Kc q ≤ K1 q) → (gv = 0 → Kc = K1 ∧ ∀ q' r, q' < q → r < K1 q' → kbB K1 (bir q' r) = true) → (0 < gv → ∃ q', q' < n ∧ Kc q' < K1 q') → Ev ks mX2_findKept 87 [some (.inr 103), some (.inl d), some (.inl held), some (.inl (nI gv)), some (.inl (nI q)), v5] [] (sr S 110 (kR Kc)) (Rv (sr S 110 (kR K))) := by
    intro K1 hnext f
    induction f with
    | zero =>
      intro q Kc gv v5 hq hg c1 c2 c3 c4 c6 c7 c8
      have hn' : sr S 110 (kR Kc) 104 0 = nI n := by rw [n110 _ _ (by decide)]; exact hn
      refine ev_iload4 dX2_findKept_87 ?_
      refine ev_aload_n0 dX2_findKept_89 ?_
      refine ev_cV0f okX2_many lkX2_82 (Nat.le_of_ble_eq_true rfl) (Nat.le_of_ble_eq_true rfl) (hM 103 rfl) isO_103 (c_X2_many hM hn') dX2_findKept_90 ?_
      first | refine ev_icmp_geN 169 (by omega) (by omega) (by decide) dX2_findKept_93 (fun h93 => ?_) (fun h93 => by exfalso; omega) | refine ev_icmp_ge 169 (by decide) dX2_findKept_93 (fun h93 => ?_) (fun h93 => by exfalso; omega)
      refine ev_goto 78 (by decide) dX2_findKept_169 ?_
      exact hnext Kc gv _ _ hg c1 c2 c3 c4 (fun h => ⟨(c7 h).1, fun q' r h1 h2 => (c7 h).2 q' r (by omega) h2⟩) (fun h => sm_lt (fun k _ => c6 k) (c8 h))
    | succ f ih =>
      intro q Kc gv v5 hq hg c1 c2 c3 c4 c6 c7 c8
      have hqn : q < n := by omega
      have hn' : sr S 110 (kR Kc) 104 0 = nI n := by rw [n110 _ _ (by decide)]; exact hn
      have hB' : BH (sr S 110 (kR Kc) 104) n rr bir := by rw [n110 _ _ (by decide)]; exact hB
      have hKc8 : ∀ i, Kc i ≤ 8 := fun i => by
        rcases Nat.lt_or_ge i n with h | h
        · exact Nat.le_trans (c1 i h) (h8 i h)
        · rw [c2 i h]; omega
      have hrow : ∀ i, sr S 110 (kR Kc) 110 i = nI (Kc i) := fun i => by rw [sr_s]; rfl
      have hKr : ∀ i, i < 4 → sr S 110 (kR Kc) 110 i = nI (Kc i) ∧ Kc i ≤ 8 := fun i _ => ⟨hrow i, hKc8 i⟩
      have hKq8 := hKc8 q
      have hq8 := h8 q hqn
      have hcq := c1 q hqn
      -- behind the inner loop: r0 of them
      have after : ∀ r0, r0 ≤ Kc q → (∀ r, r < r0 → kbB Kc (bir q r) = true) → (r0 < Kc q → kbB Kc (bir q r0) = false) → Ev ks mX2_findKept 132 [some (.inr 103), some (.inl d), some (.inl held), some (.inl (nI gv)), some (.inl (nI q)), some (.inl (nI r0))] [] (sr S 110 (kR Kc)) (Rv (sr S 110 (kR K))) := by
        intro r0 hr0 ha hb
        have hkq : K q ≤ r0 := by
          rcases Nat.lt_or_ge r0 (K q) with h | h
          · have := kbB_mono c4 (k5 q r0 hqn h)
            rw [hb (Nat.lt_of_lt_of_le h (c4 q))] at this
            cases this
          · exact h
        have go : ∀ gv', gv' ≤ 1 → (gv' = 0 ↔ gv = 0 ∧ r0 = Kc q) → Ev ks mX2_findKept 153 [some (.inr 103), some (.inl d), some (.inl held), some (.inl (nI gv)), some (.inl (nI q)), some (.inl (nI r0))] [.inl (nI gv')] (sr S 110 (kR Kc)) (Rv (sr S 110 (kR K))) := by
          intro gv' hg' he
          have hle : ∀ i, (fun i => if i = q then r0 else Kc i) i ≤ Kc i := fun i => by
            dsimp only
            by_cases h : i = q
            · rw [if_pos h, h]; exact hr0
            · rw [if_neg h]; exact Nat.le_refl _
          refine ev_istore_n3 dX2_findKept_153 ?_
          refine ev_aload_n0 dX2_findKept_154 ?_
          refine gfX2_29 rfl (hM 103 rfl) dX2_findKept_155 ?_
          refine ev_iload4 dX2_findKept_158 ?_
          refine ev_iload5 dX2_findKept_160 ?_
          refine ev_iast 4 rfl rfl (hM 110 rfl) (by omega) dX2_findKept_162 ?_
          refine ev_iinc4 dX2_findKept_163 ?_
          refine ev_goto 87 (by decide) dX2_findKept_166 ?_
          rw [st_sr, kR_upd]
          refine ih (q + 1) _ gv' _ (by omega) hg' (fun i hi => Nat.le_trans (hle i) (c1 i hi)) (fun i hi => Nat.le_zero.mp (by have := hle i; rw [c2 i hi] at this; exact this)) (fun i r hi hr2 => c3 i r hi (Nat.lt_of_lt_of_le hr2 (hle i))) (fun i => ?_) (fun i => Nat.le_trans (hle i) (c6 i)) (fun h0 => ?_) (fun h0 => ?_)
          · by_cases h : i = q
            · rw [if_pos h, h]; exact hkq
            · rw [if_neg h]; exact c4 i
          · obtain ⟨h1, h2⟩ := he.mp h0
            obtain ⟨e1, e2⟩ := c7 h1
            have e3 : (fun i => if i = q then r0 else Kc i) = Kc := by
              funext i
              by_cases h : i = q
              · rw [if_pos h, h, h2]
              · rw [if_neg h]
            refine ⟨e3.trans e1, fun q' r hq' hr2 => ?_⟩
            by_cases h : q' = q
            · subst h
              rw [← e1]
              rw [← e1] at hr2
              exact ha r (by omega)
            · exact e2 q' r (by omega) hr2
          · by_cases h1 : gv = 0
            · have h2 : ¬ r0 = Kc q := fun h => by have := he.mpr ⟨h1, h⟩; omega
              refine ⟨q, hqn, ?_⟩
              rw [if_pos rfl]
              have := c6 q
              omega
            · obtain ⟨i, hi, hlt⟩ := c8 (by omega)
              exact ⟨i, hi, Nat.lt_of_le_of_lt (hle i) hlt⟩
        refine ev_iload_n3 dX2_findKept_132 ?_
        first | refine ev_if_neN 148 (by omega) (by decide) dX2_findKept_133 (fun h133 => ?_) (fun h133 => ?_) | refine ev_if_ne 148 (by decide) dX2_findKept_133 (fun h133 => ?_) (fun h133 => ?_)
        · refine ev_c1 dX2_findKept_148 ?_
          refine ev_goto 153 (by decide) dX2_findKept_149 ?_
          first | exact go 1 (by omega) (by omega) | exact go 0 (by omega) (by omega)
        · refine ev_iload5 dX2_findKept_136 ?_
          refine ev_aload_n0 dX2_findKept_138 ?_
          refine gfX2_29 rfl (hM 103 rfl) dX2_findKept_139 ?_
          refine ev_iload4 dX2_findKept_142 ?_
          refine ev_iald 4 rfl rfl (hM 110 rfl) (by omega) dX2_findKept_144 ?_
          rw [hrow]
          first | refine ev_icmp_geN 152 (by omega) (by omega) (by decide) dX2_findKept_145 (fun h145 => ?_) (fun h145 => ?_) | refine ev_icmp_ge 152 (by decide) dX2_findKept_145 (fun h145 => ?_) (fun h145 => ?_)
          · refine ev_c0 dX2_findKept_152 ?_
            first | exact go 1 (by omega) (by omega) | exact go 0 (by omega) (by omega)
          · refine ev_c1 dX2_findKept_148 ?_
            refine ev_goto 153 (by decide) dX2_findKept_149 ?_
            first | exact go 1 (by omega) (by omega) | exact go 0 (by omega) (by omega)
      have inner : ∀ z r, r + z = Kc q → (∀ r', r' < r → kbB Kc (bir q r') = true) → Ev ks mX2_findKept 99 [some (.inr 103), some (.inl d), some (.inl held), some (.inl (nI gv)), some (.inl (nI q)), some (.inl (nI r))] [] (sr S 110 (kR Kc)) (Rv (sr S 110 (kR K))) := by
        intro z
        induction z with
        | zero =>
          intro r hz ha
          refine ev_iload5 dX2_findKept_99 ?_
          refine ev_aload_n0 dX2_findKept_101 ?_
          refine gfX2_29 rfl (hM 103 rfl) dX2_findKept_102 ?_
          refine ev_iload4 dX2_findKept_105 ?_
          refine ev_iald 4 rfl rfl (hM 110 rfl) (by omega) dX2_findKept_107 ?_
          rw [hrow]
          first | refine ev_icmp_geN 132 (by omega) (by omega) (by decide) dX2_findKept_108 (fun h108 => ?_) (fun h108 => by exfalso; omega) | refine ev_icmp_ge 132 (by decide) dX2_findKept_108 (fun h108 => ?_) (fun h108 => by exfalso; omega)
          exact after r (by omega) ha (fun h => by omega)
        | succ z ih2 =>
          intro r hz ha
          refine ev_iload5 dX2_findKept_99 ?_
          refine ev_aload_n0 dX2_findKept_101 ?_
          refine gfX2_29 rfl (hM 103 rfl) dX2_findKept_102 ?_
          refine ev_iload4 dX2_findKept_105 ?_
          refine ev_iald 4 rfl rfl (hM 110 rfl) (by omega) dX2_findKept_107 ?_
          rw [hrow]
          first | refine ev_icmp_geN 132 (by omega) (by omega) (by decide) dX2_findKept_108 (fun h108 => by exfalso; omega) (fun h108 => ?_) | refine ev_icmp_ge 132 (by decide) dX2_findKept_108 (fun h108 => by exfalso; omega) (fun h108 => ?_)
          refine ev_aload_n0 dX2_findKept_111 ?_
          refine ev_aload_n0 dX2_findKept_112 ?_
          refine ev_iload4 dX2_findKept_113 ?_
          refine ev_iload5 dX2_findKept_115 ?_
          refine ev_cV2f okX2_birthOf lkX2_118 (Nat.le_of_ble_eq_true rfl) (Nat.le_of_ble_eq_true rfl) (hM 103 rfl) isO_103 (c_X2_birthOf2 hM hB' h4 h8 hqn (by omega)) dX2_findKept_117 ?_
          refine ev_cV1f okX2_isKeptCode lkX2_121 (Nat.le_of_ble_eq_true rfl) (Nat.le_of_ble_eq_true rfl) (hM 103 rfl) isO_103 (c_X2_isKeptCode2 hM hKr (hB q r hqn (by omega)).2) dX2_findKept_120 ?_
          first | refine ev_if_eqB 132 (by decide) dX2_findKept_123 (fun h123 => ?_) (fun h123 => ?_)
          · exact after r (by omega) ha (fun _ => h123)
          · refine ev_iinc5 dX2_findKept_126 ?_
            refine ev_goto 99 (by decide) dX2_findKept_129 ?_
            refine ih2 (r + 1) (by omega) (fun r' hr' => ?_)
            by_cases h : r' = r
            · rw [h]; exact h123
            · exact ha r' (by omega)
      refine ev_iload4 dX2_findKept_87 ?_
      refine ev_aload_n0 dX2_findKept_89 ?_
      refine ev_cV0f okX2_many lkX2_82 (Nat.le_of_ble_eq_true rfl) (Nat.le_of_ble_eq_true rfl) (hM 103 rfl) isO_103 (c_X2_many hM hn') dX2_findKept_90 ?_
      first | refine ev_icmp_geN 169 (by omega) (by omega) (by decide) dX2_findKept_93 (fun h93 => by exfalso; omega) (fun h93 => ?_) | refine ev_icmp_ge 169 (by decide) dX2_findKept_93 (fun h93 => by exfalso; omega) (fun h93 => ?_)
      refine ev_c0 dX2_findKept_96 ?_
      refine ev_istore5 dX2_findKept_97 ?_
      exact inner (Kc q) 0 (by omega) (fun _ h => by omega)
  have main : ∀ N Kc v4 v5, fb_sm Kc n < N → (∀ q, q < n → Kc q ≤ rr q) → (∀ q, n ≤ q → Kc q = 0) → (∀ q r, q < n → r < Kc q → bt d q = true → bt held (8 * q + r) = true) → (∀ q, K q ≤ Kc q) → Ev ks mX2_findKept 78 [some (.inr 103), some (.inl d), some (.inl held), some (.inl (nI 1)), v4, v5] [] (sr S 110 (kR Kc)) (Rv (sr S 110 (kR K))) := by
    intro N
    induction N with
    | zero => intro Kc v4 v5 h; omega
    | succ N ih =>
      intro Kc v4 v5 hN c1 c2 c3 c4
      refine ev_iload_n3 dX2_findKept_78 ?_
      first | refine ev_if_eqN 172 (by omega) (by decide) dX2_findKept_79 (fun h79 => by exfalso; omega) (fun h79 => ?_)
      refine ev_c0 dX2_findKept_82 ?_
      refine ev_istore_n3 dX2_findKept_83 ?_
      refine ev_c0 dX2_findKept_84 ?_
      refine ev_istore4 dX2_findKept_85 ?_
      refine pass Kc (fun Kc' gv v4 v5 hg d1 d2 d3 d4 d5 d6 => ?_) n 0 Kc 0 _ (by omega) (by omega) c1 c2 c3 c4 (fun _ => Nat.le_refl _) (fun _ => ⟨rfl, fun q' r h => by omega⟩) (fun h => by omega)
      rcases (show gv = 0 ∨ gv = 1 by omega) with rfl | rfl
      · obtain ⟨e1, e2⟩ := d5 rfl
        subst e1
        exact exit Kc' _ _ d1 d2 d3 d4 e2
      · have := d6 (by omega)
        exact ih Kc' _ _ (by omega) d1 d2 d3 d4
  -- the first part
  generalize hK0 : (fun q => if q < n then lead (fun r => !bt d q || bt held (8 * q + r)) (rr q) else 0) = K0
  have hK0v : ∀ q, q < n → K0 q = lead (fun r => !bt d q || bt held (8 * q + r)) (rr q) := fun q h => by rw [← hK0]; exact if_pos h
  have hK0z : ∀ q, n ≤ q → K0 q = 0 := fun q h => by rw [← hK0]; exact if_neg (by omega)
  have first : ∀ f q v4, q + f = 4 → Ev ks mX2_findKept 8 [some (.inr 103), some (.inl d), some (.inl held), some (.inl (nI q)), v4, none] [] (sr S 110 (fun i => if i < q then nI (K0 i) else S 110 i)) (Rv (sr S 110 (kR K))) := by
    intro f
    induction f with
    | zero =>
      intro q v4 hq
      obtain rfl : q = 4 := by omega
      refine ev_iload_n3 dX2_findKept_8 ?_
      refine ev_c4 dX2_findKept_9 ?_
      first | refine ev_icmp_geN 76 (by omega) (by omega) (by decide) dX2_findKept_10 (fun h10 => ?_) (fun h10 => by exfalso; omega) | refine ev_icmp_ge 76 (by decide) dX2_findKept_10 (fun h10 => ?_) (fun h10 => by exfalso; omega)
      refine ev_c1 dX2_findKept_76 ?_
      refine ev_istore_n3 dX2_findKept_77 ?_
      refine ev_cong (S' := sr S 110 (kR K0)) (fun k hk i hi => ?_) ?_
      · by_cases h : k = 110
        · subst h
          rw [sr_s, sr_s]
          have hi : i < 4 := hi
          rw [if_pos hi]
          rfl
        · rw [sr_n h, sr_n h]
      · refine main (fb_sm K0 n + 1) K0 _ _ (by omega) (fun q h => by rw [hK0v q h]; exact lead_le _ _) hK0z (fun q r h1 h2 h3 => ?_) (fun q => ?_)
        · rw [hK0v q h1] at h2
          have := lead_all h2
          rw [h3] at this
          simpa using this
        · rcases Nat.lt_or_ge q n with h | h
          · rw [hK0v q h]
            refine lead_max (k1 q h) (fun i hi => ?_)
            cases hd : bt d q with
            | false => rfl
            | true => rw [k3 q i h hi hd]; rfl
          · rw [k2 q h]; exact Nat.zero_le _
    | succ f ih =>
      intro q v4 hq
      have store : ∀ r, r = K0 q → Ev ks mX2_findKept 62 [some (.inr 103), some (.inl d), some (.inl held), some (.inl (nI q)), some (.inl (nI r)), none] [] (sr S 110 (fun i => if i < q then nI (K0 i) else S 110 i)) (Rv (sr S 110 (kR K))) := by
        intro r hr0
        have e : upd (fun i => if i < q then nI (K0 i) else S 110 i) q (nI r) = (fun i => if i < q + 1 then nI (K0 i) else S 110 i) := by
          funext i
          unfold upd
          by_cases h : i = q
          · rw [if_pos h, if_pos (by omega), hr0, h]
          · rw [if_neg h]
            dsimp only
            by_cases h2 : i < q
            · rw [if_pos h2, if_pos (by omega)]
            · rw [if_neg h2, if_neg (by omega)]
        refine ev_aload_n0 dX2_findKept_62 ?_
        refine gfX2_29 rfl (hM 103 rfl) dX2_findKept_63 ?_
        refine ev_iload_n3 dX2_findKept_66 ?_
        refine ev_iload4 dX2_findKept_67 ?_
        refine ev_iast 4 rfl rfl (hM 110 rfl) (by omega) dX2_findKept_69 ?_
        refine ev_iinc3 dX2_findKept_70 ?_
        refine ev_goto 8 (by decide) dX2_findKept_73 ?_
        rw [st_sr, e]
        exact ih (q + 1) _ (by omega)
      have hn' : sr S 110 (fun i => if i < q then nI (K0 i) else S 110 i) 104 0 = nI n := by rw [n110 _ _ (by decide)]; exact hn
      rcases Nat.lt_or_ge q n with hqn | hqn
      · have hr2 := hr q hqn
        have hr' : sr S 110 (fun i => if i < q then nI (K0 i) else S 110 i) 104 (3 + q) = nI (rr q) := by rw [n110 _ _ (by decide)]; exact hr2.1
        obtain ⟨pp, hpp⟩ : ∃ p : Nat → Bool, p = fun r => !bt d q || bt held (8 * q + r) := ⟨_, rfl⟩
        have hpv : ∀ r, pp r = (!bt d q || bt held (8 * q + r)) := fun r => by rw [hpp]
        have hK0q := hK0v q hqn
        rw [← hpp] at hK0q
        have inner : ∀ z r, r + z = rr q → ldF pp z r = K0 q → Ev ks mX2_findKept 16 [some (.inr 103), some (.inl d), some (.inl held), some (.inl (nI q)), some (.inl (nI r)), none] [] (sr S 110 (fun i => if i < q then nI (K0 i) else S 110 i)) (Rv (sr S 110 (kR K))) := by
          intro z
          induction z with
          | zero =>
            intro r hz hl
            refine ev_iload_n3 dX2_findKept_16 ?_
            refine ev_aload_n0 dX2_findKept_17 ?_
            refine ev_cV0f okX2_many lkX2_82 (Nat.le_of_ble_eq_true rfl) (Nat.le_of_ble_eq_true rfl) (hM 103 rfl) isO_103 (c_X2_many hM hn') dX2_findKept_18 ?_
            first | refine ev_icmp_geN 62 (by omega) (by omega) (by decide) dX2_findKept_21 (fun h21 => by exfalso; omega) (fun h21 => ?_) | refine ev_icmp_ge 62 (by decide) dX2_findKept_21 (fun h21 => by exfalso; omega) (fun h21 => ?_)
            refine ev_iload4 dX2_findKept_24 ?_
            refine ev_aload_n0 dX2_findKept_26 ?_
            refine ev_iload_n3 dX2_findKept_27 ?_
            refine ev_cV1f okX2_receipts lkX2_47 (Nat.le_of_ble_eq_true rfl) (Nat.le_of_ble_eq_true rfl) (hM 103 rfl) isO_103 (c_X2_receipts hM (by omega)) dX2_findKept_28 ?_
            rw [hr']
            first | refine ev_icmp_geN 62 (by omega) (by omega) (by decide) dX2_findKept_31 (fun h31 => ?_) (fun h31 => by exfalso; omega) | refine ev_icmp_ge 62 (by decide) dX2_findKept_31 (fun h31 => ?_) (fun h31 => by exfalso; omega)
            exact store r hl
          | succ z ih2 =>
            intro r hz hl
            rw [ldF] at hl
            refine ev_iload_n3 dX2_findKept_16 ?_
            refine ev_aload_n0 dX2_findKept_17 ?_
            refine ev_cV0f okX2_many lkX2_82 (Nat.le_of_ble_eq_true rfl) (Nat.le_of_ble_eq_true rfl) (hM 103 rfl) isO_103 (c_X2_many hM hn') dX2_findKept_18 ?_
            first | refine ev_icmp_geN 62 (by omega) (by omega) (by decide) dX2_findKept_21 (fun h21 => by exfalso; omega) (fun h21 => ?_) | refine ev_icmp_ge 62 (by decide) dX2_findKept_21 (fun h21 => by exfalso; omega) (fun h21 => ?_)
            refine ev_iload4 dX2_findKept_24 ?_
            refine ev_aload_n0 dX2_findKept_26 ?_
            refine ev_iload_n3 dX2_findKept_27 ?_
            refine ev_cV1f okX2_receipts lkX2_47 (Nat.le_of_ble_eq_true rfl) (Nat.le_of_ble_eq_true rfl) (hM 103 rfl) isO_103 (c_X2_receipts hM (by omega)) dX2_findKept_28 ?_
            rw [hr']
            first | refine ev_icmp_geN 62 (by omega) (by omega) (by decide) dX2_findKept_31 (fun h31 => by exfalso; omega) (fun h31 => ?_) | refine ev_icmp_ge 62 (by decide) dX2_findKept_31 (fun h31 => by exfalso; omega) (fun h31 => ?_)
            refine ev_iload_n1 dX2_findKept_34 ?_
            refine ev_iload_n3 dX2_findKept_35 ?_
            refine ev_cS2f okX2_has lkX2_39 (Nat.le_of_ble_eq_true rfl) (Nat.le_of_ble_eq_true rfl) (c_X2_has (by omega)) dX2_findKept_36 ?_
            first | refine ev_if_eqB 56 (by decide) dX2_findKept_39 (fun h39 => ?_) (fun h39 => ?_)
            · refine ev_iinc4 dX2_findKept_56 ?_
              refine ev_goto 16 (by decide) dX2_findKept_59 ?_
              rw [if_pos (by rw [hpv, h39]; first | rfl | (rw [h53]; rfl))] at hl
              exact ih2 (r + 1) (by omega) hl
            · refine ev_iload_n2 dX2_findKept_42 ?_
              refine ev_bipush (nI 8) kb_8 dX2_findKept_43 ?_
              refine ev_iload_n3 dX2_findKept_45 ?_
              first | refine ev_imulN dX2_findKept_46 ?_ | refine ev_imul dX2_findKept_46 ?_
              refine ev_iload4 dX2_findKept_47 ?_
              first | refine ev_iaddN dX2_findKept_49 ?_ | refine ev_iadd dX2_findKept_49 ?_
              refine ev_cS2f okX2_has lkX2_39 (Nat.le_of_ble_eq_true rfl) (Nat.le_of_ble_eq_true rfl) (c_X2_has (by omega)) dX2_findKept_50 ?_
              first | refine ev_if_eqB 62 (by decide) dX2_findKept_53 (fun h53 => ?_) (fun h53 => ?_)
              · rw [if_neg (by rw [hpv, h39, h53]; decide)] at hl
                exact store r hl
              · refine ev_iinc4 dX2_findKept_56 ?_
                refine ev_goto 16 (by decide) dX2_findKept_59 ?_
                rw [if_pos (by rw [hpv, h39]; first | rfl | (rw [h53]; rfl))] at hl
                exact ih2 (r + 1) (by omega) hl
        refine ev_iload_n3 dX2_findKept_8 ?_
        refine ev_c4 dX2_findKept_9 ?_
        first | refine ev_icmp_geN 76 (by omega) (by omega) (by decide) dX2_findKept_10 (fun h10 => by exfalso; omega) (fun h10 => ?_) | refine ev_icmp_ge 76 (by decide) dX2_findKept_10 (fun h10 => by exfalso; omega) (fun h10 => ?_)
        refine ev_c0 dX2_findKept_13 ?_
        refine ev_istore4 dX2_findKept_14 ?_
        exact inner (rr q) 0 (by omega) hK0q.symm
      · refine ev_iload_n3 dX2_findKept_8 ?_
        refine ev_c4 dX2_findKept_9 ?_
        first | refine ev_icmp_geN 76 (by omega) (by omega) (by decide) dX2_findKept_10 (fun h10 => by exfalso; omega) (fun h10 => ?_) | refine ev_icmp_ge 76 (by decide) dX2_findKept_10 (fun h10 => by exfalso; omega) (fun h10 => ?_)
        refine ev_c0 dX2_findKept_13 ?_
        refine ev_istore4 dX2_findKept_14 ?_
        refine ev_iload_n3 dX2_findKept_16 ?_
        refine ev_aload_n0 dX2_findKept_17 ?_
        refine ev_cV0f okX2_many lkX2_82 (Nat.le_of_ble_eq_true rfl) (Nat.le_of_ble_eq_true rfl) (hM 103 rfl) isO_103 (c_X2_many hM hn') dX2_findKept_18 ?_
        first | refine ev_icmp_geN 62 (by omega) (by omega) (by decide) dX2_findKept_21 (fun h21 => ?_) (fun h21 => by exfalso; omega) | refine ev_icmp_ge 62 (by decide) dX2_findKept_21 (fun h21 => ?_) (fun h21 => by exfalso; omega)
        exact store 0 (hK0z q hqn).symm
  refine ev_aload_n0 dX2_findKept_0 ?_
  refine ev_iload_n1 dX2_findKept_1 ?_
  refine ev_cV1f okX2_heldBut lkX2_115 (Nat.le_of_ble_eq_true rfl) (Nat.le_of_ble_eq_true rfl) (hM 103 rfl) isO_103 (c_X2_heldBut hM hn h4) dX2_findKept_2 ?_
  rw [hH]
  refine ev_istore_n2 dX2_findKept_5 ?_
  refine ev_c0 dX2_findKept_6 ?_
  refine ev_istore_n3 dX2_findKept_7 ?_
  have h := first 4 0 none rfl
  have e : sr S 110 (fun i => if i < 0 then nI (K0 i) else S 110 i) = S := by
    have : (fun i => if i < 0 then nI (K0 i) else S 110 i) = S 110 := by funext i; rw [if_neg (by omega)]
    rw [this, sr_self]
  rw [e] at h
  exact h
