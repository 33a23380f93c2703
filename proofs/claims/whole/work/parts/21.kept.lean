theorem past_lfp {w : St} (hI : Inv w) {q r : Nat} (hq : q < nn w) (hr : r < rc w q) : Lfp (nn w) (rc w) (bir w) (8 * q + r) (w 5 (q * 8 + r)) := by
  obtain ⟨ihd, irc, iwr, ire, itk, ile, iin, ikn, ipa, ils, icl⟩ := hI
  refine ⟨(ipa q r hq hr _).mpr (Or.inl (by omega)), icl q r hq hr, fun C h1 h2 d hd => ?_⟩
  exact ils C h2 q r hq hr (by rw [show q * 8 + r = 8 * q + r by omega]; exact h1) d hd
theorem b_codes {p : Nat} (hp : p < 4) (i : Nat) : bt (nI 255 <<< (nI (p * 8) &&& 31)) i = decide (i / 8 = p) := by
  have h255 : ∀ i, bt (nI 255) i = decide (i < 8) := fun i => by
    rcases Nat.lt_or_ge i 32 with h | h
    · exact (by decide +kernel : ∀ i, i < 32 → bt (nI 255) i = decide (i < 8)) i h
    · rw [b_big h]; simp; omega
  rcases Nat.lt_or_ge i 32 with h | h
  · rw [b_shl _ (by omega) _ h, h255]
    by_cases e : i / 8 = p
    · have h1 : p * 8 ≤ i := by omega
      have h2 : i - p * 8 < 8 := by omega
      simp [h1, h2, e]
    · by_cases h1 : p * 8 ≤ i
      · have h2 : ¬ i - p * 8 < 8 := by omega
        simp [h1, h2, e]
      · simp [h1, e]
  · rw [b_big h]
    have : ¬ i / 8 = p := by omega
    simp [this]
theorem b_thr (w : St) {n : Nat} (hn : n ≤ 4) (D : Int32) (e : Nat) : bt (thr w n D) e = true ↔ ∃ p, p < n ∧ bt D p = false ∧ (e / 8 = p ∨ bt (w 11 (p * 4 + p)) e = true) := by
  unfold thr
  rw [b_orF]
  constructor
  · rintro ⟨p, h1, h2⟩
    cases hd : bt D p with
    | true => rw [hd] at h2; rw [show (bif true then (0 : Int32) else ((nI 255 <<< (nI (p * 8) &&& 31)) ||| w 11 (p * 4 + p))) = 0 from rfl, b_0] at h2; cases h2
    | false =>
      rw [hd] at h2
      rw [show (bif false then (0 : Int32) else ((nI 255 <<< (nI (p * 8) &&& 31)) ||| w 11 (p * 4 + p))) = ((nI 255 <<< (nI (p * 8) &&& 31)) ||| w 11 (p * 4 + p)) from rfl, b_or, b_codes (by omega), Bool.or_eq_true, decide_eq_true_eq] at h2
      exact ⟨p, h1, hd, h2⟩
  · rintro ⟨p, h1, hd, h2⟩
    refine ⟨p, h1, ?_⟩
    rw [hd, show (bif false then (0 : Int32) else ((nI 255 <<< (nI (p * 8) &&& 31)) ||| w 11 (p * 4 + p))) = ((nI 255 <<< (nI (p * 8) &&& 31)) ||| w 11 (p * 4 + p)) from rfl, b_or, b_codes (by omega), Bool.or_eq_true, decide_eq_true_eq]
    exact h2
theorem sub_iff (x T : Int32) : x &&& (T ^^^ (-1)) = 0 ↔ ∀ e, bt x e = true → bt T e = true := by
  constructor
  · intro h e he
    have he32 : e < 32 := by
      rcases Nat.lt_or_ge e 32 with q | q
      · exact q
      · rw [b_big q] at he; cases he
    have := congrArg (fun z => bt z e) h
    simp only [b_and, b_not _ he32, b_0, he, Bool.true_and] at this
    simpa using this
  · intro h
    apply b_ext
    intro i hi
    rw [b_and, b_not _ hi, b_0]
    cases e : bt x i with
    | false => rfl
    | true => rw [h i e]; rfl
theorem kf_iff (w : St) (rr : Nat → Nat) (T : Int32) (c : Nat) : kf w rr T c = true ↔ c % 8 < rr (c / 8) ∧ ∀ e, bt (w 5 c) e = true → bt T e = true := by
  unfold kf
  rw [Bool.and_eq_true, decide_eq_true_eq, decide_eq_true_eq, sub_iff]
/-- of each site how many would be kept -/
def kcn (w : St) (D : Int32) (q : Nat) : Nat := if q < nn w then fb_ct (fun r => kf w (rc w) (thr w (nn w) D) (q * 8 + r)) 8 else 0
theorem ct_pre {p : Nat → Bool} {n : Nat} (h : ∀ a b, a ≤ b → b < n → p b = true → p a = true) : ∀ r, r < n → (r < fb_ct p n ↔ p r = true) := by
  intro r hr
  constructor
  · intro h1
    cases e : p r with
    | true => rfl
    | false =>
      exfalso
      have h2 : fb_ct p n ≤ r := by
        have e2 : n = r + (n - r) := by omega
        rw [e2, fb_ct_split]
        have h3 : fb_ct (fun k => p (r + k)) (n - r) = 0 := fb_ct_zero.mpr (fun k hk => by
          cases e3 : p (r + k) with
          | false => rfl
          | true => rw [h r (r + k) (by omega) (by omega) e3] at e; cases e)
        have h4 := fb_ct_le p r
        omega
      omega
  · intro h1
    have h2 : fb_ct p (r + 1) = r + 1 := fb_ct_all.mpr (fun k hk => h k r (by omega) hr h1)
    have h3 := fb_ct_mono p (show r + 1 ≤ n from hr)
    omega
theorem kf_pre {w : St} (hI : Inv w) {T : Int32} {q a b : Nat} (hq : q < nn w) (hab : a ≤ b) (hb : b < 8) (h : kf w (rc w) T (q * 8 + b) = true) : kf w (rc w) T (q * 8 + a) = true := by
  have hI0 := hI
  obtain ⟨ihd, irc, iwr, ire, itk, ile, iin, ikn, ipa, ils, icl⟩ := hI
  rw [kf_iff, show (q * 8 + b) / 8 = q by omega, show (q * 8 + b) % 8 = b by omega] at h
  rw [kf_iff, show (q * 8 + a) / 8 = q by omega, show (q * 8 + a) % 8 = a by omega]
  refine ⟨by omega, fun e he => h.2 e ?_⟩
  have key : ∀ k, k ≤ b → b < rc w q → bt (w 5 (q * 8 + (b - k))) e = true → bt (w 5 (q * 8 + b)) e = true := by
    intro k
    induction k with
    | zero => intro _ _ h; exact h
    | succ k ih =>
      intro h1 h2 h3
      refine ih (by omega) h2 ((ipa q (b - k) hq (by omega) e).mpr (Or.inr (Or.inl ⟨by omega, ?_⟩)))
      rw [show b - k - 1 = b - (k + 1) by omega]
      exact h3
  have := key (b - a) (by omega) h.1 (by rw [show b - (b - a) = a by omega]; exact he)
  exact this
theorem kcn_iff {w : St} (hI : Inv w) (D : Int32) {q r : Nat} (hq : q < nn w) (hr : r < 8) : r < kcn w D q ↔ kf w (rc w) (thr w (nn w) D) (q * 8 + r) = true := by
  unfold kcn
  rw [if_pos hq]
  exact ct_pre (fun a b h1 h2 h3 => kf_pre hI hq h1 h2 h3) r hr
theorem kcn_le {w : St} (hI : Inv w) (D : Int32) (q : Nat) : kcn w D q ≤ rc w q ∧ kcn w D q ≤ 8 := by
  have hI0 := hI
  obtain ⟨ihd, irc, -⟩ := hI
  have h4 := ihd.1.2.2
  rcases Nat.lt_or_ge q (nn w) with hq | hq
  · have h8 := (irc q (by omega)).2.1
    have hk8 : kcn w D q ≤ 8 := by unfold kcn; rw [if_pos hq]; exact fb_ct_le _ _
    refine ⟨?_, hk8⟩
    rcases Nat.lt_or_ge (rc w q) (kcn w D q) with h | h
    · have := (kcn_iff hI0 D hq (by omega)).mp h
      rw [kf_iff, show (q * 8 + rc w q) / 8 = q by omega, show (q * 8 + rc w q) % 8 = rc w q by omega] at this
      omega
    · exact h
  · unfold kcn
    rw [if_neg (by omega)]
    omega
theorem kcn_z {w : St} (D : Int32) {q : Nat} (hq : nn w ≤ q) : kcn w D q = 0 := by unfold kcn; exact if_neg (by omega)
/-- what is kept is the most that can be -/
theorem kcn_gfp {w : St} (hI : Inv w) (D : Int32) {held : Int32} (hh : ∀ e, bt held e = true ↔ ∃ p, p < nn w ∧ bt D p = false ∧ bt (w 11 (p * 4 + p)) e = true) : Gfp (nn w) (rc w) D held (bir w) (kcn w D) := by
  have hI0 := hI
  obtain ⟨ihd, irc, iwr, ire, itk, ile, iin, ikn, ipa, ils, icl⟩ := hI
  have h4 := ihd.1.2.2
  refine ⟨⟨fun q _ => (kcn_le hI0 D q).1, fun q hq => kcn_z D hq, fun q r hq hr hd => ?_, fun q r hq hr => ?_⟩, fun K' hK' q hq => ?_⟩
  · have h8 := (kcn_le hI0 D q).2
    have hrc := (kcn_le hI0 D q).1
    have h := (kcn_iff hI0 D hq (by omega)).mp hr
    rw [kf_iff] at h
    have h1 := h.2 (q * 8 + r) ((ipa q r hq (by omega) _).mpr (Or.inl rfl))
    rw [b_thr w h4] at h1
    obtain ⟨p, p1, p2, p3⟩ := h1
    rw [hh]
    rcases p3 with p3 | p3
    · have : p = q := by omega
      rw [this, hd] at p2
      cases p2
    · exact ⟨p, p1, p2, by rw [show 8 * q + r = q * 8 + r by omega]; exact p3⟩
  · have h8 := (kcn_le hI0 D q).2
    have hrc := (kcn_le hI0 D q).1
    have h := (kcn_iff hI0 D hq (by omega)).mp hr
    rw [kf_iff] at h
    rcases bir_cases hI0 hq (by omega : r < rc w q) with e | ⟨b, hb, e, hR, -⟩
    · rw [e]; exact kbB_none _
    · rw [e, kbB_code _ hb]
      refine decide_eq_true ?_
      rw [kcn_iff hI0 D hR.1 (by omega), kf_iff, show b / 8 * 8 + b % 8 = b by omega]
      exact ⟨hR.2, fun d hd => h.2 d ((ipa q r hq (by omega) d).mpr (Or.inr (Or.inr ⟨b, hb, e, hd⟩)))⟩
  · obtain ⟨k1, k2, k3, k5⟩ := hK'
    have hKrc := k1 q hq
    have h8 := (irc q (by omega)).2.1
    have hClo : Clo (nn w) (rc w) (bir w) (fun d => d / 8 < nn w ∧ d % 8 < K' (d / 8)) := fun q' r' h1 h2 h3 => by
      have h8' := (irc q' (by omega)).2.1
      dsimp only at h3 ⊢
      rw [show (8 * q' + r') / 8 = q' by omega, show (8 * q' + r') % 8 = r' by omega] at h3
      refine ⟨fun h => ?_, fun b hb e => ?_⟩
      · rw [show (8 * q' + r' - 1) / 8 = q' by omega, show (8 * q' + r' - 1) % 8 = r' - 1 by omega]
        exact ⟨h1, by omega⟩
      · have := k5 q' r' h1 h3.2
        rw [e, kbB_code _ hb, decide_eq_true_eq] at this
        refine ⟨?_, this⟩
        rcases Nat.lt_or_ge (b / 8) (nn w) with q | q
        · exact q
        · rw [k2 _ q] at this; omega
    rcases Nat.lt_or_ge (kcn w D q) (K' q) with hlt | hge
    · exfalso
      have h9 := (kcn_le hI0 D q).2
      have hnot : ¬ kf w (rc w) (thr w (nn w) D) (q * 8 + kcn w D q) = true := fun h => by
        have := (kcn_iff hI0 D hq (r := kcn w D q) (by omega)).mpr h
        omega
      apply hnot
      rw [kf_iff, show (q * 8 + kcn w D q) / 8 = q by omega, show (q * 8 + kcn w D q) % 8 = kcn w D q by omega]
      refine ⟨by omega, fun d hd => ?_⟩
      have hc := ils _ hClo q (kcn w D q) hq (by omega) (by rw [show (q * 8 + kcn w D q) / 8 = q by omega, show (q * 8 + kcn w D q) % 8 = kcn w D q by omega]; exact ⟨hq, hlt⟩) d hd
      rw [b_thr w h4]
      cases hdd : bt D (d / 8) with
      | false => exact ⟨d / 8, hc.1, hdd, Or.inl rfl⟩
      | true =>
        have := k3 (d / 8) (d % 8) hc.1 hc.2 hdd
        rw [show 8 * (d / 8) + d % 8 = d by omega, hh] at this
        obtain ⟨p, p1, p2, p3⟩ := this
        exact ⟨p, p1, p2, Or.inr p3⟩
    · exact hge
theorem ct_sum (f : Nat → Bool) : ∀ n, fb_ct f (n * 8) = fb_sm (fun q => fb_ct (fun r => f (q * 8 + r)) 8) n
  | 0 => rfl
  | n + 1 => by rw [fb_sm_succ, ← ct_sum f n, show (n + 1) * 8 = n * 8 + 8 by omega, fb_ct_split]
theorem pcn_mk (f : Nat → Bool) {k : Nat} (hk : k ≤ 32) : pcn (mk f k) = fb_ct f k := by
  unfold pcn
  have e : 32 = k + (32 - k) := by omega
  rw [e, fb_ct_split]
  have h1 : fb_ct (bt (mk f k)) k = fb_ct f k := fb_ct_cong fun i hi => by rw [b_mk f k hk]; simp [hi]
  have h2 : fb_ct (fun i => bt (mk f k) (k + i)) (32 - k) = 0 := fb_ct_zero.mpr fun i hi => by rw [b_mk f k hk, decide_eq_false (by omega)]; rfl
  rw [h1, h2, Nat.add_zero]
/-- the codes kept, as bits -/
def kst (w : St) (D : Int32) : Int32 := mk (kf w (rc w) (thr w (nn w) D)) (nn w * 8)
theorem kst_pcn {w : St} (hI : Inv w) (D : Int32) : pcn (kst w D) = fb_sm (kcn w D) (nn w) := by
  have h4 := hI.1.1.2.2
  unfold kst
  rw [pcn_mk _ (by omega), ct_sum]
  exact fb_sm_cong fun q hq => by unfold kcn; rw [if_pos hq]
theorem kst_bt {w : St} (hI : Inv w) (D : Int32) (c : Nat) : bt (kst w D) c = decide (c % 8 < kcn w D (c / 8)) := by
  have h4 := hI.1.1.2.2
  unfold kst
  rw [b_mk _ _ (by omega)]
  by_cases h : c / 8 < nn w
  · have h1 : c < nn w * 8 := by omega
    have := kcn_iff hI D h (r := c % 8) (by omega)
    rw [show c / 8 * 8 + c % 8 = c by omega] at this
    cases e : kf w (rc w) (thr w (nn w) D) c with
    | true => rw [decide_eq_true h1, decide_eq_true (this.mpr e)]; rfl
    | false =>
      have h2 : ¬ c % 8 < kcn w D (c / 8) := fun z => by rw [this.mp z] at e; cases e
      rw [decide_eq_false h2]; simp
  · have h1 : ¬ c < nn w * 8 := by omega
    rw [kcn_z D (by omega)]
    simp [h1]
theorem kst_in {w : St} (hI : Inv w) (D : Int32) {q : Nat} (hq : q < 4) : pcn (kst w D &&& (nI 255 <<< (nI (q * 8) &&& 31))) = kcn w D q := by
  have h8 := (kcn_le hI D q).2
  unfold pcn
  have e1 : fb_ct (bt (kst w D &&& (nI 255 <<< (nI (q * 8) &&& 31)))) 32 = fb_ct (fun c => decide (c % 8 < kcn w D (c / 8)) && decide (c / 8 = q)) (4 * 8) := fb_ct_cong fun c hc => by rw [b_and, kst_bt hI, b_codes hq]
  rw [e1, ct_sum]
  have e2 : ∀ q', q' < 4 → fb_ct (fun r => decide ((q' * 8 + r) % 8 < kcn w D ((q' * 8 + r) / 8)) && decide ((q' * 8 + r) / 8 = q)) 8 = if q' = q then kcn w D q else 0 := fun q' hq' => by
    by_cases h : q' = q
    · rw [if_pos h]
      have : fb_ct (fun r => decide ((q' * 8 + r) % 8 < kcn w D ((q' * 8 + r) / 8)) && decide ((q' * 8 + r) / 8 = q)) 8 = fb_ct (fun r => decide (r < kcn w D q)) 8 := fb_ct_cong fun r hr => by
        rw [show (q' * 8 + r) % 8 = r by omega, show (q' * 8 + r) / 8 = q' by omega, h]
        simp
      rw [this]
      generalize kcn w D q = K at h8
      exact (by decide +kernel : ∀ K, K ≤ 8 → fb_ct (fun r => decide (r < K)) 8 = K) K h8
    · rw [if_neg h]
      refine fb_ct_zero.mpr fun r hr => ?_
      rw [show (q' * 8 + r) / 8 = q' by omega]
      simp [h]
  rw [fb_sm_cong (fun q' hq' => e2 q' hq')]
  rcases (show q = 0 ∨ q = 1 ∨ q = 2 ∨ q = 3 by omega) with rfl | rfl | rfl | rfl <;> simp [fb_sm]
theorem sm_sub {f g : Nat → Nat} : ∀ {n : Nat}, (∀ k, k < n → g k ≤ f k) → fb_sm (fun k => f k - g k) n = fb_sm f n - fb_sm g n
  | 0, _ => rfl
  | n + 1, h => by
    rw [fb_sm_succ, fb_sm_succ, fb_sm_succ, sm_sub (fun k hk => h k (by omega))]
    have h1 := h n (by omega)
    have h2 := fb_sm_le (f := g) (g := f) (n := n) (fun k hk => h k (by omega))
    omega
