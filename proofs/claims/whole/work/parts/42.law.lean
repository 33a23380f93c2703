/-! THE CLAIM OUT OF ONE WALK OF THE LAW'S BODY. Your part is whole_start (and what it stands on); all else here is the same for every law, but numbers. -/
def R_law : String := "CarriedOrdersLaw"
def lw_P (b : Addr) (xs : List Int32) (args : Array Value) (s : State) : Prop := args = #[.ref b] ∧ s.IntsAt b xs ∧ xs.length ≤ 2560 ∧ (Jvm.Cond.and given_1 narrow_1).before args s = true
def lw_Q (_ : Array Value) (s : State) (o : Outcome) (t : State) : Prop := o = .returned (some (.int 1)) ∧ Framed s o t [] 600000 7302250
def lw_Z (below : List Frame) (a : Array Value) (s : State) : State → Prop := fun t => ∃ o, t.status = .running ∧ Ended t below o ∧ lw_Q a s o t
/-- the law's own end, with 1 on the stack, nothing written that was there before, its room as the claim has it -/
theorem lw_ret {p : Program} {l : Launch} {e : Env} {s : State} {m : MethodId} {below : List Frame} {meth : Method} {c : Code} {b : Nat} (hx : p.tables.exec = Jvm.exec) (hb : c.code = code) (hr : meth.sig.returnType = ret) (hlocks : meth.locks = false) {pc : Nat} {H : Heap} {ls : Array Slot} (hdg : decode code pc = .ok (.ireturn, 1)) : W p l e room_1 s m #[Value.ref b] below meth c H [] 600000 7302250 (lw_Z below #[Value.ref b] s) (F0 m pc ls [.int 1]) := by
  intro T hT X
  obtain ⟨fs, hret, hrun, hended, hW, hframe⟩ := X.leave (v := some (.int 1)) (hlocks := hlocks) (fun h => by rw [hr] at h; cases h)
  have hmeth' : T.vm.method? m = some meth := X.method'
  refine ⟨T.setFrames fs, ?_, .returned (some (.int 1)), hrun, hended, rfl, ⟨_, rfl⟩, hW, hframe⟩
  jvm_step X.here [X.here.top, hx, hb, hdg, hmeth', hr, ret, narrow_b1]
  (try refine ⟨rfl, ?_⟩); (try refine ⟨rfl, ?_⟩)
  first | (intro acts; rw [hret _ acts rfl rfl rfl]) | rw [hret _ _ rfl rfl rfl]
  exact Steps.refl _
/-- what holds at the law's entry: the machine, the code, the tables' words (any of lw_tbl by 'hts w (by decide +kernel)'), the script of L ints xs at the cell b, what the Statement gives of the start (any of its parts by flat_of_before) -/
def lw_At (p : Program) (s : State) (m : MethodId) (meth : Method) (c : Code) (b L : Nat) (xs : Nat → Int32) : Prop :=
  p.tables.exec = Jvm.exec ∧ c.code = code ∧ meth.sig.returnType = ret ∧ c.maxLocals = 4 ∧ s.vm.findClass R_law = some m.cls ∧ (∀ w ∈ lw_tbl, w.before #[Value.ref b] s = true) ∧ va_X b L xs s s.heap ∧ b < s.heap.size ∧ meth.locks = false ∧ (Jvm.Cond.and given_1 narrow_1).before #[Value.ref b] s = true
theorem law_lt {L i : Nat} (hL : L ≤ 2560) (hi : i ≤ 2560) (h : ¬ (Int32.ofNat L - nI 5 < nI i)) : i + 5 ≤ L := by
  rcases Nat.lt_or_ge L 5 with h5 | h5
  · exfalso
    apply h
    have h1 := pk_sneg (a := L) (b := 5) (by omega) h5
    exact Int32.lt_of_lt_of_le h1 (nI_pos' (by omega))
  · have e : Int32.ofNat L - nI 5 = nI (L - 5) := pk_sub (a := L) (b := 5) h5
    rw [e] at h
    rcases Nat.lt_or_ge L (i + 5) with h6 | h6
    · exact absurd (nI_lt (a := L - 5) (b := i) (by omega) (by omega)) h
    · exact h6
set_option maxHeartbeats 8000000 in
set_option maxRecDepth 100000 in
/-- the law's loop, with the class and the reference going together -/
theorem law_loop {p : Program} {l : Launch} {e : Env} {s : State} {m : MethodId} {below : List Frame} {meth : Method} {c : Code} {g : GG} {b L : Nat} {xs : Nat → Int32} (hL : L ≤ 2560) (C0 : lw_At p s m meth c b L xs) (hK : va_K g.2.1 cls3 (tys g) s) (hAA : ∀ q, AA K112 g q → (fun q : Nat => s.heap.size ≤ q) q) :
    ∀ (n i : Nat) (S : St) (H : Heap) (locs : List Loc) (ls : Array Slot), i ≤ L → L + 1 ≤ i + n → Top S S → Rp K112 g S H → va_S (fun q : Nat => s.heap.size ≤ q) s.heap H locs → lv_has ls 4 [(3, .int (nI i)), (2, .ref (g.1 103)), (1, .ref (g.1 96)), (0, .ref b)] → W p l e room_1 s m #[Value.ref b] below meth c H locs 600000 7302250 (lw_Z below #[Value.ref b] s) (F0 m 18 ls []) := by
  obtain ⟨hx, hb, hr, hml, hown, hts, hX, hbl, hlocks, hgv⟩ := C0
  have hgw : ∀ w ∈ gw, w.before #[Value.ref b] s = true := fun w hw => hts w (gw_sub hw)
  have hown : s.vm.findClass RL = some m.cls := hown
  have hbA : ¬ (fun q : Nat => s.heap.size ≤ q) b := Nat.not_le.mpr hbl
  intro n
  induction n with
  | zero =>
    intro i S H locs ls h1 h2 hT
    exact absurd h2 (by omega)
  | succ n ih =>
    intro i S H locs ls hi hin hT hR hS hl
    refine lv_iload_n hx hb dL_law_18 rfl (lv_at hl 0 rfl) ?_
    refine lv_aload_n hx hb dL_law_19 rfl (lv_at hl 3 rfl) ?_
    refine va_slen hx hb hX hbl hbA hS dL_law_20 ?_
    refine lv_iconst (v := nI 5) hx hb dL_law_21 (by decide +kernel) ?_
    refine lv_isub hx hb dL_law_22 ?_
    refine lv_icmp_gt (tgt := 751) hx hb dL_law_23 (by decide) (fun _ => ?_) (fun hno => ?_)
    · refine lv_iconst (v := 1) hx hb dL_law_751 (by decide) ?_
      refine va_forget (fun q hq => hS.2.2 q hq) ?_
      exact lw_ret hx hb hr hlocks dL_law_752
    · have h5 := law_lt hL (by omega) hno
      have hcont : ∀ (S : St) (H : Heap) (locs : List Loc), Top S S → Rp K112 g S H → va_S (fun q : Nat => s.heap.size ≤ q) s.heap H locs → W p l e room_1 s m #[Value.ref b] below meth c H locs 600000 7302250 (lw_Z below #[Value.ref b] s) (F0 m 745 ls []) := fun S H locs hT hR hS => by
        refine lv_iinc (v := nI (i + 5)) (lv' := [(3, .int (nI (i + 5))), (2, .ref (g.1 103)), (1, .ref (g.1 96)), (0, .ref b)]) hx hb dL_law_745 hl (k := 0) rfl (by rw [show Int32.ofInt 5 = nI 5 by decide +kernel]; exact nI_add i 5) (by decide) rfl (fun ls hl => ?_)
        refine lv_goto (tgt := 18) hx hb dL_law_748 (by decide) ?_
        exact ih (i + 5) S H locs ls (by omega) (by omega) hT hR hS hl
      refine lv_aload_n hx hb dL_law_26 rfl (lv_at hl 3 rfl) ?_
      refine lv_iload_n hx hb dL_law_27 rfl (lv_at hl 0 rfl) ?_
      refine va_sld hx hb hX hbl hbA hS (vp_in_nI (by omega) (by omega)) dL_law_28 ?_
      refine lv_bipush (v := nI 31) hx hb dL_law_29 (by decide +kernel) ?_
      refine lv_iand hx hb dL_law_31 ?_
      obtain ⟨z, hz, ez⟩ := pk_andE (xs (nI i).toNatClampNeg) (m := nI 31) 5 (by decide +kernel)
      rw [ez]
      rcases Nat.lt_or_ge z 21 with h21 | h21
      · rcases (show z = 0 ∨ z = 1 ∨ z = 2 ∨ z = 3 ∨ z = 4 ∨ z = 5 ∨ z = 6 ∨ z = 7 ∨ z = 8 ∨ z = 9 ∨ z = 10 ∨ z = 11 ∨ z = 12 ∨ z = 13 ∨ z = 14 ∨ z = 15 ∨ z = 16 ∨ z = 17 ∨ z = 18 ∨ z = 19 ∨ z = 20 by omega) with rfl | rfl | rfl | rfl | rfl | rfl | rfl | rfl | rfl | rfl | rfl | rfl | rfl | rfl | rfl | rfl | rfl | rfl | rfl | rfl | rfl
        · refine lv_tableIn (off := 100) (tgt := 132) hx hb dL_law_32 (by decide +kernel) (by decide +kernel) (by decide +kernel) (by decide) ?_
          refine lv_aload_n hx hb dL_law_132 rfl (lv_at hl 2 rfl) ?_
          refine lv_aload_n hx hb dL_law_133 rfl (lv_at hl 3 rfl) ?_
          refine lv_iload_n hx hb dL_law_134 rfl (lv_at hl 0 rfl) ?_
          refine lv_iconst (v := nI 1) hx hb dL_law_135 (by decide +kernel) ?_
          refine lv_iadd hx hb dL_law_136 ?_
          rw [nI_add i 1]
          refine va_sld hx hb hX hbl hbA hS (vp_in_nI (by omega) (by omega)) dL_law_137 ?_
          refine lv_aload_n hx hb dL_law_138 rfl (lv_at hl 3 rfl) ?_
          refine lv_iload_n hx hb dL_law_139 rfl (lv_at hl 0 rfl) ?_
          refine lv_iconst (v := nI 2) hx hb dL_law_140 (by decide +kernel) ?_
          refine lv_iadd hx hb dL_law_141 ?_
          rw [nI_add i 2]
          refine va_sld hx hb hX hbl hbA hS (vp_in_nI (by omega) (by omega)) dL_law_142 ?_
          have hop : Op K112 mX1_begins yX1_begins mX2_begins yX2_begins [.inl (xs (nI (i + 1)).toNatClampNeg), .inl (xs (nI (i + 2)).toNatClampNeg)] := op_begins inC112 inM112
          obtain ⟨v, P, hc1, hf1, hc2⟩ := hop S ⟨S, hT⟩
          refine W_callV (g := g) (ks := K112) (S := S) (o := 96) (av := [.inl (xs (nI (i + 1)).toNatClampNeg), .inl (xs (nI (i + 2)).toNatClampNeg)]) (nL := 4) (A0 := (fun q : Nat => s.heap.size ≤ q)) (H0 := s.heap) (rest := []) okX1_begins lkL_13 ⟨Nat.le_of_ble_eq_true rfl, Nat.le_of_ble_eq_true rfl⟩ rfl (Nat.le_of_ble_eq_true rfl) (in112 96 (by decide)) isO_96 hc1 dL_law_143 ⟨Nat.le_refl _, Nat.le_refl _⟩ hx hb hml hown hgw hK hR hS hAA hl.1 rfl (fun r S1 H1 locs1 hq hR hS => ?_)
          obtain ⟨rfl, hP1⟩ := hq
          have hT1 : Top S S1 := Top_cong (fun _ _ => rfl) (fun k h1 _ => hf1 S1 hP1 k h1) hT
          refine lv_aload_n hx hb dL_law_146 rfl (lv_at hl 1 rfl) ?_
          refine lv_aload_n hx hb dL_law_147 rfl (lv_at hl 3 rfl) ?_
          refine lv_iload_n hx hb dL_law_148 rfl (lv_at hl 0 rfl) ?_
          refine lv_iconst (v := nI 1) hx hb dL_law_149 (by decide +kernel) ?_
          refine lv_iadd hx hb dL_law_150 ?_
          rw [nI_add i 1]
          refine va_sld hx hb hX hbl hbA hS (vp_in_nI (by omega) (by omega)) dL_law_151 ?_
          refine lv_aload_n hx hb dL_law_152 rfl (lv_at hl 3 rfl) ?_
          refine lv_iload_n hx hb dL_law_153 rfl (lv_at hl 0 rfl) ?_
          refine lv_iconst (v := nI 2) hx hb dL_law_154 (by decide +kernel) ?_
          refine lv_iadd hx hb dL_law_155 ?_
          rw [nI_add i 2]
          refine va_sld hx hb hX hbl hbA hS (vp_in_nI (by omega) (by omega)) dL_law_156 ?_
          refine W_callV (g := g) (ks := K112) (S := S1) (o := 103) (av := [.inl (xs (nI (i + 1)).toNatClampNeg), .inl (xs (nI (i + 2)).toNatClampNeg)]) (nL := 4) (A0 := (fun q : Nat => s.heap.size ≤ q)) (H0 := s.heap) (rest := [.int v]) okX2_begins lkL_17 ⟨Nat.le_of_ble_eq_true rfl, Nat.le_of_ble_eq_true rfl⟩ rfl (Nat.le_of_ble_eq_true rfl) (in112 103 (by decide)) isO_103 (hc2 S1 hT1) dL_law_157 ⟨Nat.le_refl _, Nat.le_refl _⟩ hx hb hml hown hgw hK hR hS hAA hl.1 rfl (fun r S2 H2 locs2 hq hR hS => ?_)
          obtain ⟨rfl, hf2, hT2⟩ := hq
          refine lv_icmp_eq (tgt := 745) hx hb dL_law_160 (by decide) (fun _ => ?_) (fun h => absurd rfl h)
          exact hcont S2 H2 locs2 (Top_cong (fun k hk => hf2 k (by omega)) (fun _ _ _ => rfl) (hT2 S1 hP1)) hR hS
        · refine lv_tableIn (off := 133) (tgt := 165) hx hb dL_law_32 (by decide +kernel) (by decide +kernel) (by decide +kernel) (by decide) ?_
          refine lv_aload_n hx hb dL_law_165 rfl (lv_at hl 2 rfl) ?_
          refine lv_aload_n hx hb dL_law_166 rfl (lv_at hl 3 rfl) ?_
          refine lv_iload_n hx hb dL_law_167 rfl (lv_at hl 0 rfl) ?_
          refine lv_iconst (v := nI 1) hx hb dL_law_168 (by decide +kernel) ?_
          refine lv_iadd hx hb dL_law_169 ?_
          rw [nI_add i 1]
          refine va_sld hx hb hX hbl hbA hS (vp_in_nI (by omega) (by omega)) dL_law_170 ?_
          refine lv_aload_n hx hb dL_law_171 rfl (lv_at hl 3 rfl) ?_
          refine lv_iload_n hx hb dL_law_172 rfl (lv_at hl 0 rfl) ?_
          refine lv_iconst (v := nI 2) hx hb dL_law_173 (by decide +kernel) ?_
          refine lv_iadd hx hb dL_law_174 ?_
          rw [nI_add i 2]
          refine va_sld hx hb hX hbl hbA hS (vp_in_nI (by omega) (by omega)) dL_law_175 ?_
          have hop : Op K112 mX1_puts yX1_puts mX2_puts yX2_puts [.inl (xs (nI (i + 1)).toNatClampNeg), .inl (xs (nI (i + 2)).toNatClampNeg)] := op_puts inC112 inM112
          obtain ⟨v, P, hc1, hf1, hc2⟩ := hop S ⟨S, hT⟩
          refine W_callV (g := g) (ks := K112) (S := S) (o := 96) (av := [.inl (xs (nI (i + 1)).toNatClampNeg), .inl (xs (nI (i + 2)).toNatClampNeg)]) (nL := 4) (A0 := (fun q : Nat => s.heap.size ≤ q)) (H0 := s.heap) (rest := []) okX1_puts lkL_18 ⟨Nat.le_of_ble_eq_true rfl, Nat.le_of_ble_eq_true rfl⟩ rfl (Nat.le_of_ble_eq_true rfl) (in112 96 (by decide)) isO_96 hc1 dL_law_176 ⟨Nat.le_refl _, Nat.le_refl _⟩ hx hb hml hown hgw hK hR hS hAA hl.1 rfl (fun r S1 H1 locs1 hq hR hS => ?_)
          obtain ⟨rfl, hP1⟩ := hq
          have hT1 : Top S S1 := Top_cong (fun _ _ => rfl) (fun k h1 _ => hf1 S1 hP1 k h1) hT
          refine lv_aload_n hx hb dL_law_179 rfl (lv_at hl 1 rfl) ?_
          refine lv_aload_n hx hb dL_law_180 rfl (lv_at hl 3 rfl) ?_
          refine lv_iload_n hx hb dL_law_181 rfl (lv_at hl 0 rfl) ?_
          refine lv_iconst (v := nI 1) hx hb dL_law_182 (by decide +kernel) ?_
          refine lv_iadd hx hb dL_law_183 ?_
          rw [nI_add i 1]
          refine va_sld hx hb hX hbl hbA hS (vp_in_nI (by omega) (by omega)) dL_law_184 ?_
          refine lv_aload_n hx hb dL_law_185 rfl (lv_at hl 3 rfl) ?_
          refine lv_iload_n hx hb dL_law_186 rfl (lv_at hl 0 rfl) ?_
          refine lv_iconst (v := nI 2) hx hb dL_law_187 (by decide +kernel) ?_
          refine lv_iadd hx hb dL_law_188 ?_
          rw [nI_add i 2]
          refine va_sld hx hb hX hbl hbA hS (vp_in_nI (by omega) (by omega)) dL_law_189 ?_
          refine W_callV (g := g) (ks := K112) (S := S1) (o := 103) (av := [.inl (xs (nI (i + 1)).toNatClampNeg), .inl (xs (nI (i + 2)).toNatClampNeg)]) (nL := 4) (A0 := (fun q : Nat => s.heap.size ≤ q)) (H0 := s.heap) (rest := [.int v]) okX2_puts lkL_21 ⟨Nat.le_of_ble_eq_true rfl, Nat.le_of_ble_eq_true rfl⟩ rfl (Nat.le_of_ble_eq_true rfl) (in112 103 (by decide)) isO_103 (hc2 S1 hT1) dL_law_190 ⟨Nat.le_refl _, Nat.le_refl _⟩ hx hb hml hown hgw hK hR hS hAA hl.1 rfl (fun r S2 H2 locs2 hq hR hS => ?_)
          obtain ⟨rfl, hf2, hT2⟩ := hq
          refine lv_icmp_eq (tgt := 745) hx hb dL_law_193 (by decide) (fun _ => ?_) (fun h => absurd rfl h)
          exact hcont S2 H2 locs2 (Top_cong (fun k hk => hf2 k (by omega)) (fun _ _ _ => rfl) (hT2 S1 hP1)) hR hS
        · refine lv_tableIn (off := 166) (tgt := 198) hx hb dL_law_32 (by decide +kernel) (by decide +kernel) (by decide +kernel) (by decide) ?_
          refine lv_aload_n hx hb dL_law_198 rfl (lv_at hl 2 rfl) ?_
          refine lv_aload_n hx hb dL_law_199 rfl (lv_at hl 3 rfl) ?_
          refine lv_iload_n hx hb dL_law_200 rfl (lv_at hl 0 rfl) ?_
          refine lv_iconst (v := nI 1) hx hb dL_law_201 (by decide +kernel) ?_
          refine lv_iadd hx hb dL_law_202 ?_
          rw [nI_add i 1]
          refine va_sld hx hb hX hbl hbA hS (vp_in_nI (by omega) (by omega)) dL_law_203 ?_
          refine lv_aload_n hx hb dL_law_204 rfl (lv_at hl 3 rfl) ?_
          refine lv_iload_n hx hb dL_law_205 rfl (lv_at hl 0 rfl) ?_
          refine lv_iconst (v := nI 2) hx hb dL_law_206 (by decide +kernel) ?_
          refine lv_iadd hx hb dL_law_207 ?_
          rw [nI_add i 2]
          refine va_sld hx hb hX hbl hbA hS (vp_in_nI (by omega) (by omega)) dL_law_208 ?_
          have hop : Op K112 mX1_receives yX1_receives mX2_receives yX2_receives [.inl (xs (nI (i + 1)).toNatClampNeg), .inl (xs (nI (i + 2)).toNatClampNeg)] := op_receives inC112 inM112
          obtain ⟨v, P, hc1, hf1, hc2⟩ := hop S ⟨S, hT⟩
          refine W_callV (g := g) (ks := K112) (S := S) (o := 96) (av := [.inl (xs (nI (i + 1)).toNatClampNeg), .inl (xs (nI (i + 2)).toNatClampNeg)]) (nL := 4) (A0 := (fun q : Nat => s.heap.size ≤ q)) (H0 := s.heap) (rest := []) okX1_receives lkL_22 ⟨Nat.le_of_ble_eq_true rfl, Nat.le_of_ble_eq_true rfl⟩ rfl (Nat.le_of_ble_eq_true rfl) (in112 96 (by decide)) isO_96 hc1 dL_law_209 ⟨Nat.le_refl _, Nat.le_refl _⟩ hx hb hml hown hgw hK hR hS hAA hl.1 rfl (fun r S1 H1 locs1 hq hR hS => ?_)
          obtain ⟨rfl, hP1⟩ := hq
          have hT1 : Top S S1 := Top_cong (fun _ _ => rfl) (fun k h1 _ => hf1 S1 hP1 k h1) hT
          refine lv_aload_n hx hb dL_law_212 rfl (lv_at hl 1 rfl) ?_
          refine lv_aload_n hx hb dL_law_213 rfl (lv_at hl 3 rfl) ?_
          refine lv_iload_n hx hb dL_law_214 rfl (lv_at hl 0 rfl) ?_
          refine lv_iconst (v := nI 1) hx hb dL_law_215 (by decide +kernel) ?_
          refine lv_iadd hx hb dL_law_216 ?_
          rw [nI_add i 1]
          refine va_sld hx hb hX hbl hbA hS (vp_in_nI (by omega) (by omega)) dL_law_217 ?_
          refine lv_aload_n hx hb dL_law_218 rfl (lv_at hl 3 rfl) ?_
          refine lv_iload_n hx hb dL_law_219 rfl (lv_at hl 0 rfl) ?_
          refine lv_iconst (v := nI 2) hx hb dL_law_220 (by decide +kernel) ?_
          refine lv_iadd hx hb dL_law_221 ?_
          rw [nI_add i 2]
          refine va_sld hx hb hX hbl hbA hS (vp_in_nI (by omega) (by omega)) dL_law_222 ?_
          refine W_callV (g := g) (ks := K112) (S := S1) (o := 103) (av := [.inl (xs (nI (i + 1)).toNatClampNeg), .inl (xs (nI (i + 2)).toNatClampNeg)]) (nL := 4) (A0 := (fun q : Nat => s.heap.size ≤ q)) (H0 := s.heap) (rest := [.int v]) okX2_receives lkL_25 ⟨Nat.le_of_ble_eq_true rfl, Nat.le_of_ble_eq_true rfl⟩ rfl (Nat.le_of_ble_eq_true rfl) (in112 103 (by decide)) isO_103 (hc2 S1 hT1) dL_law_223 ⟨Nat.le_refl _, Nat.le_refl _⟩ hx hb hml hown hgw hK hR hS hAA hl.1 rfl (fun r S2 H2 locs2 hq hR hS => ?_)
          obtain ⟨rfl, hf2, hT2⟩ := hq
          refine lv_icmp_eq (tgt := 745) hx hb dL_law_226 (by decide) (fun _ => ?_) (fun h => absurd rfl h)
          exact hcont S2 H2 locs2 (Top_cong (fun k hk => hf2 k (by omega)) (fun _ _ _ => rfl) (hT2 S1 hP1)) hR hS
        · refine lv_tableIn (off := 199) (tgt := 231) hx hb dL_law_32 (by decide +kernel) (by decide +kernel) (by decide +kernel) (by decide) ?_
          refine lv_aload_n hx hb dL_law_231 rfl (lv_at hl 2 rfl) ?_
          refine lv_aload_n hx hb dL_law_232 rfl (lv_at hl 3 rfl) ?_
          refine lv_iload_n hx hb dL_law_233 rfl (lv_at hl 0 rfl) ?_
          refine lv_iconst (v := nI 1) hx hb dL_law_234 (by decide +kernel) ?_
          refine lv_iadd hx hb dL_law_235 ?_
          rw [nI_add i 1]
          refine va_sld hx hb hX hbl hbA hS (vp_in_nI (by omega) (by omega)) dL_law_236 ?_
          have hop : Op K112 mX1_crashes yX1_crashes mX2_crashes yX2_crashes [.inl (xs (nI (i + 1)).toNatClampNeg)] := op_crashes inC112 inM112
          obtain ⟨v, P, hc1, hf1, hc2⟩ := hop S ⟨S, hT⟩
          refine W_callV (g := g) (ks := K112) (S := S) (o := 96) (av := [.inl (xs (nI (i + 1)).toNatClampNeg)]) (nL := 4) (A0 := (fun q : Nat => s.heap.size ≤ q)) (H0 := s.heap) (rest := []) okX1_crashes lkL_26 ⟨Nat.le_of_ble_eq_true rfl, Nat.le_of_ble_eq_true rfl⟩ rfl (Nat.le_of_ble_eq_true rfl) (in112 96 (by decide)) isO_96 hc1 dL_law_237 ⟨Nat.le_refl _, Nat.le_refl _⟩ hx hb hml hown hgw hK hR hS hAA hl.1 rfl (fun r S1 H1 locs1 hq hR hS => ?_)
          obtain ⟨rfl, hP1⟩ := hq
          have hT1 : Top S S1 := Top_cong (fun _ _ => rfl) (fun k h1 _ => hf1 S1 hP1 k h1) hT
          refine lv_aload_n hx hb dL_law_240 rfl (lv_at hl 1 rfl) ?_
          refine lv_aload_n hx hb dL_law_241 rfl (lv_at hl 3 rfl) ?_
          refine lv_iload_n hx hb dL_law_242 rfl (lv_at hl 0 rfl) ?_
          refine lv_iconst (v := nI 1) hx hb dL_law_243 (by decide +kernel) ?_
          refine lv_iadd hx hb dL_law_244 ?_
          rw [nI_add i 1]
          refine va_sld hx hb hX hbl hbA hS (vp_in_nI (by omega) (by omega)) dL_law_245 ?_
          refine W_callV (g := g) (ks := K112) (S := S1) (o := 103) (av := [.inl (xs (nI (i + 1)).toNatClampNeg)]) (nL := 4) (A0 := (fun q : Nat => s.heap.size ≤ q)) (H0 := s.heap) (rest := [.int v]) okX2_crashes lkL_30 ⟨Nat.le_of_ble_eq_true rfl, Nat.le_of_ble_eq_true rfl⟩ rfl (Nat.le_of_ble_eq_true rfl) (in112 103 (by decide)) isO_103 (hc2 S1 hT1) dL_law_246 ⟨Nat.le_refl _, Nat.le_refl _⟩ hx hb hml hown hgw hK hR hS hAA hl.1 rfl (fun r S2 H2 locs2 hq hR hS => ?_)
          obtain ⟨rfl, hf2, hT2⟩ := hq
          refine lv_icmp_eq (tgt := 745) hx hb dL_law_249 (by decide) (fun _ => ?_) (fun h => absurd rfl h)
          exact hcont S2 H2 locs2 (Top_cong (fun k hk => hf2 k (by omega)) (fun _ _ _ => rfl) (hT2 S1 hP1)) hR hS
        · refine lv_tableIn (off := 222) (tgt := 254) hx hb dL_law_32 (by decide +kernel) (by decide +kernel) (by decide +kernel) (by decide) ?_
          refine lv_aload_n hx hb dL_law_254 rfl (lv_at hl 2 rfl) ?_
          have hop : Op K112 mX1_raises yX1_raises mX2_raises yX2_raises [] := op_raises inC112 inM112
          obtain ⟨v, P, hc1, hf1, hc2⟩ := hop S ⟨S, hT⟩
          refine W_callV (g := g) (ks := K112) (S := S) (o := 96) (av := []) (nL := 4) (A0 := (fun q : Nat => s.heap.size ≤ q)) (H0 := s.heap) (rest := []) okX1_raises lkL_31 ⟨Nat.le_of_ble_eq_true rfl, Nat.le_of_ble_eq_true rfl⟩ rfl (Nat.le_of_ble_eq_true rfl) (in112 96 (by decide)) isO_96 hc1 dL_law_255 ⟨Nat.le_refl _, Nat.le_refl _⟩ hx hb hml hown hgw hK hR hS hAA hl.1 rfl (fun r S1 H1 locs1 hq hR hS => ?_)
          obtain ⟨rfl, hP1⟩ := hq
          have hT1 : Top S S1 := Top_cong (fun _ _ => rfl) (fun k h1 _ => hf1 S1 hP1 k h1) hT
          refine lv_aload_n hx hb dL_law_258 rfl (lv_at hl 1 rfl) ?_
          refine W_callV (g := g) (ks := K112) (S := S1) (o := 103) (av := []) (nL := 4) (A0 := (fun q : Nat => s.heap.size ≤ q)) (H0 := s.heap) (rest := [.int v]) okX2_raises lkL_35 ⟨Nat.le_of_ble_eq_true rfl, Nat.le_of_ble_eq_true rfl⟩ rfl (Nat.le_of_ble_eq_true rfl) (in112 103 (by decide)) isO_103 (hc2 S1 hT1) dL_law_259 ⟨Nat.le_refl _, Nat.le_refl _⟩ hx hb hml hown hgw hK hR hS hAA hl.1 rfl (fun r S2 H2 locs2 hq hR hS => ?_)
          obtain ⟨rfl, hf2, hT2⟩ := hq
          refine lv_icmp_eq (tgt := 745) hx hb dL_law_262 (by decide) (fun _ => ?_) (fun h => absurd rfl h)
          exact hcont S2 H2 locs2 (Top_cong (fun k hk => hf2 k (by omega)) (fun _ _ _ => rfl) (hT2 S1 hP1)) hR hS
        · refine lv_tableIn (off := 235) (tgt := 267) hx hb dL_law_32 (by decide +kernel) (by decide +kernel) (by decide +kernel) (by decide) ?_
          refine lv_aload_n hx hb dL_law_267 rfl (lv_at hl 2 rfl) ?_
          have hop : Op K112 mX1_undo yX1_undo mX2_undo yX2_undo [] := op_undo inC112 inM112
          obtain ⟨v, P, hc1, hf1, hc2⟩ := hop S ⟨S, hT⟩
          refine W_callV (g := g) (ks := K112) (S := S) (o := 96) (av := []) (nL := 4) (A0 := (fun q : Nat => s.heap.size ≤ q)) (H0 := s.heap) (rest := []) okX1_undo lkL_36 ⟨Nat.le_of_ble_eq_true rfl, Nat.le_of_ble_eq_true rfl⟩ rfl (Nat.le_of_ble_eq_true rfl) (in112 96 (by decide)) isO_96 hc1 dL_law_268 ⟨Nat.le_refl _, Nat.le_refl _⟩ hx hb hml hown hgw hK hR hS hAA hl.1 rfl (fun r S1 H1 locs1 hq hR hS => ?_)
          obtain ⟨rfl, hP1⟩ := hq
          have hT1 : Top S S1 := Top_cong (fun _ _ => rfl) (fun k h1 _ => hf1 S1 hP1 k h1) hT
          refine lv_aload_n hx hb dL_law_271 rfl (lv_at hl 1 rfl) ?_
          refine W_callV (g := g) (ks := K112) (S := S1) (o := 103) (av := []) (nL := 4) (A0 := (fun q : Nat => s.heap.size ≤ q)) (H0 := s.heap) (rest := [.int v]) okX2_undo lkL_39 ⟨Nat.le_of_ble_eq_true rfl, Nat.le_of_ble_eq_true rfl⟩ rfl (Nat.le_of_ble_eq_true rfl) (in112 103 (by decide)) isO_103 (hc2 S1 hT1) dL_law_272 ⟨Nat.le_refl _, Nat.le_refl _⟩ hx hb hml hown hgw hK hR hS hAA hl.1 rfl (fun r S2 H2 locs2 hq hR hS => ?_)
          obtain ⟨rfl, hf2, hT2⟩ := hq
          refine lv_icmp_eq (tgt := 745) hx hb dL_law_275 (by decide) (fun _ => ?_) (fun h => absurd rfl h)
          exact hcont S2 H2 locs2 (Top_cong (fun k hk => hf2 k (by omega)) (fun _ _ _ => rfl) (hT2 S1 hP1)) hR hS
        · refine lv_tableIn (off := 248) (tgt := 280) hx hb dL_law_32 (by decide +kernel) (by decide +kernel) (by decide +kernel) (by decide) ?_
          refine lv_aload_n hx hb dL_law_280 rfl (lv_at hl 2 rfl) ?_
          refine lv_aload_n hx hb dL_law_281 rfl (lv_at hl 3 rfl) ?_
          refine lv_iload_n hx hb dL_law_282 rfl (lv_at hl 0 rfl) ?_
          refine lv_iconst (v := nI 1) hx hb dL_law_283 (by decide +kernel) ?_
          refine lv_iadd hx hb dL_law_284 ?_
          rw [nI_add i 1]
          refine va_sld hx hb hX hbl hbA hS (vp_in_nI (by omega) (by omega)) dL_law_285 ?_
          refine lv_aload_n hx hb dL_law_286 rfl (lv_at hl 3 rfl) ?_
          refine lv_iload_n hx hb dL_law_287 rfl (lv_at hl 0 rfl) ?_
          refine lv_iconst (v := nI 2) hx hb dL_law_288 (by decide +kernel) ?_
          refine lv_iadd hx hb dL_law_289 ?_
          rw [nI_add i 2]
          refine va_sld hx hb hX hbl hbA hS (vp_in_nI (by omega) (by omega)) dL_law_290 ?_
          have hop : Op K112 mX1_site yX1_site mX2_site yX2_site [.inl (xs (nI (i + 1)).toNatClampNeg), .inl (xs (nI (i + 2)).toNatClampNeg)] := op_site inC112 inM112
          obtain ⟨v, P, hc1, hf1, hc2⟩ := hop S ⟨S, hT⟩
          refine W_callV (g := g) (ks := K112) (S := S) (o := 96) (av := [.inl (xs (nI (i + 1)).toNatClampNeg), .inl (xs (nI (i + 2)).toNatClampNeg)]) (nL := 4) (A0 := (fun q : Nat => s.heap.size ≤ q)) (H0 := s.heap) (rest := []) okX1_site lkL_40 ⟨Nat.le_of_ble_eq_true rfl, Nat.le_of_ble_eq_true rfl⟩ rfl (Nat.le_of_ble_eq_true rfl) (in112 96 (by decide)) isO_96 hc1 dL_law_291 ⟨Nat.le_refl _, Nat.le_refl _⟩ hx hb hml hown hgw hK hR hS hAA hl.1 rfl (fun r S1 H1 locs1 hq hR hS => ?_)
          obtain ⟨rfl, hP1⟩ := hq
          have hT1 : Top S S1 := Top_cong (fun _ _ => rfl) (fun k h1 _ => hf1 S1 hP1 k h1) hT
          refine lv_aload_n hx hb dL_law_294 rfl (lv_at hl 1 rfl) ?_
          refine lv_aload_n hx hb dL_law_295 rfl (lv_at hl 3 rfl) ?_
          refine lv_iload_n hx hb dL_law_296 rfl (lv_at hl 0 rfl) ?_
          refine lv_iconst (v := nI 1) hx hb dL_law_297 (by decide +kernel) ?_
          refine lv_iadd hx hb dL_law_298 ?_
          rw [nI_add i 1]
          refine va_sld hx hb hX hbl hbA hS (vp_in_nI (by omega) (by omega)) dL_law_299 ?_
          refine lv_aload_n hx hb dL_law_300 rfl (lv_at hl 3 rfl) ?_
          refine lv_iload_n hx hb dL_law_301 rfl (lv_at hl 0 rfl) ?_
          refine lv_iconst (v := nI 2) hx hb dL_law_302 (by decide +kernel) ?_
          refine lv_iadd hx hb dL_law_303 ?_
          rw [nI_add i 2]
          refine va_sld hx hb hX hbl hbA hS (vp_in_nI (by omega) (by omega)) dL_law_304 ?_
          refine W_callV (g := g) (ks := K112) (S := S1) (o := 103) (av := [.inl (xs (nI (i + 1)).toNatClampNeg), .inl (xs (nI (i + 2)).toNatClampNeg)]) (nL := 4) (A0 := (fun q : Nat => s.heap.size ≤ q)) (H0 := s.heap) (rest := [.int v]) okX2_site lkL_43 ⟨Nat.le_of_ble_eq_true rfl, Nat.le_of_ble_eq_true rfl⟩ rfl (Nat.le_of_ble_eq_true rfl) (in112 103 (by decide)) isO_103 (hc2 S1 hT1) dL_law_305 ⟨Nat.le_refl _, Nat.le_refl _⟩ hx hb hml hown hgw hK hR hS hAA hl.1 rfl (fun r S2 H2 locs2 hq hR hS => ?_)
          obtain ⟨rfl, hf2, hT2⟩ := hq
          refine lv_icmp_eq (tgt := 745) hx hb dL_law_308 (by decide) (fun _ => ?_) (fun h => absurd rfl h)
          exact hcont S2 H2 locs2 (Top_cong (fun k hk => hf2 k (by omega)) (fun _ _ _ => rfl) (hT2 S1 hP1)) hR hS
        · refine lv_tableIn (off := 281) (tgt := 313) hx hb dL_law_32 (by decide +kernel) (by decide +kernel) (by decide +kernel) (by decide) ?_
          refine lv_aload_n hx hb dL_law_313 rfl (lv_at hl 2 rfl) ?_
          refine lv_aload_n hx hb dL_law_314 rfl (lv_at hl 3 rfl) ?_
          refine lv_iload_n hx hb dL_law_315 rfl (lv_at hl 0 rfl) ?_
          refine lv_iconst (v := nI 1) hx hb dL_law_316 (by decide +kernel) ?_
          refine lv_iadd hx hb dL_law_317 ?_
          rw [nI_add i 1]
          refine va_sld hx hb hX hbl hbA hS (vp_in_nI (by omega) (by omega)) dL_law_318 ?_
          refine lv_aload_n hx hb dL_law_319 rfl (lv_at hl 3 rfl) ?_
          refine lv_iload_n hx hb dL_law_320 rfl (lv_at hl 0 rfl) ?_
          refine lv_iconst (v := nI 2) hx hb dL_law_321 (by decide +kernel) ?_
          refine lv_iadd hx hb dL_law_322 ?_
          rw [nI_add i 2]
          refine va_sld hx hb hX hbl hbA hS (vp_in_nI (by omega) (by omega)) dL_law_323 ?_
          refine lv_aload_n hx hb dL_law_324 rfl (lv_at hl 3 rfl) ?_
          refine lv_iload_n hx hb dL_law_325 rfl (lv_at hl 0 rfl) ?_
          refine lv_iconst (v := nI 3) hx hb dL_law_326 (by decide +kernel) ?_
          refine lv_iadd hx hb dL_law_327 ?_
          rw [nI_add i 3]
          refine va_sld hx hb hX hbl hbA hS (vp_in_nI (by omega) (by omega)) dL_law_328 ?_
          have hop : Op K112 mX1_receipt yX1_receipt mX2_receipt yX2_receipt [.inl (xs (nI (i + 1)).toNatClampNeg), .inl (xs (nI (i + 2)).toNatClampNeg), .inl (xs (nI (i + 3)).toNatClampNeg)] := op_receipt inC112 inM112
          obtain ⟨v, P, hc1, hf1, hc2⟩ := hop S ⟨S, hT⟩
          refine W_callV (g := g) (ks := K112) (S := S) (o := 96) (av := [.inl (xs (nI (i + 1)).toNatClampNeg), .inl (xs (nI (i + 2)).toNatClampNeg), .inl (xs (nI (i + 3)).toNatClampNeg)]) (nL := 4) (A0 := (fun q : Nat => s.heap.size ≤ q)) (H0 := s.heap) (rest := []) okX1_receipt lkL_44 ⟨Nat.le_of_ble_eq_true rfl, Nat.le_of_ble_eq_true rfl⟩ rfl (Nat.le_of_ble_eq_true rfl) (in112 96 (by decide)) isO_96 hc1 dL_law_329 ⟨Nat.le_refl _, Nat.le_refl _⟩ hx hb hml hown hgw hK hR hS hAA hl.1 rfl (fun r S1 H1 locs1 hq hR hS => ?_)
          obtain ⟨rfl, hP1⟩ := hq
          have hT1 : Top S S1 := Top_cong (fun _ _ => rfl) (fun k h1 _ => hf1 S1 hP1 k h1) hT
          refine lv_aload_n hx hb dL_law_332 rfl (lv_at hl 1 rfl) ?_
          refine lv_aload_n hx hb dL_law_333 rfl (lv_at hl 3 rfl) ?_
          refine lv_iload_n hx hb dL_law_334 rfl (lv_at hl 0 rfl) ?_
          refine lv_iconst (v := nI 1) hx hb dL_law_335 (by decide +kernel) ?_
          refine lv_iadd hx hb dL_law_336 ?_
          rw [nI_add i 1]
          refine va_sld hx hb hX hbl hbA hS (vp_in_nI (by omega) (by omega)) dL_law_337 ?_
          refine lv_aload_n hx hb dL_law_338 rfl (lv_at hl 3 rfl) ?_
          refine lv_iload_n hx hb dL_law_339 rfl (lv_at hl 0 rfl) ?_
          refine lv_iconst (v := nI 2) hx hb dL_law_340 (by decide +kernel) ?_
          refine lv_iadd hx hb dL_law_341 ?_
          rw [nI_add i 2]
          refine va_sld hx hb hX hbl hbA hS (vp_in_nI (by omega) (by omega)) dL_law_342 ?_
          refine lv_aload_n hx hb dL_law_343 rfl (lv_at hl 3 rfl) ?_
          refine lv_iload_n hx hb dL_law_344 rfl (lv_at hl 0 rfl) ?_
          refine lv_iconst (v := nI 3) hx hb dL_law_345 (by decide +kernel) ?_
          refine lv_iadd hx hb dL_law_346 ?_
          rw [nI_add i 3]
          refine va_sld hx hb hX hbl hbA hS (vp_in_nI (by omega) (by omega)) dL_law_347 ?_
          refine W_callV (g := g) (ks := K112) (S := S1) (o := 103) (av := [.inl (xs (nI (i + 1)).toNatClampNeg), .inl (xs (nI (i + 2)).toNatClampNeg), .inl (xs (nI (i + 3)).toNatClampNeg)]) (nL := 4) (A0 := (fun q : Nat => s.heap.size ≤ q)) (H0 := s.heap) (rest := [.int v]) okX2_receipt lkL_48 ⟨Nat.le_of_ble_eq_true rfl, Nat.le_of_ble_eq_true rfl⟩ rfl (Nat.le_of_ble_eq_true rfl) (in112 103 (by decide)) isO_103 (hc2 S1 hT1) dL_law_348 ⟨Nat.le_refl _, Nat.le_refl _⟩ hx hb hml hown hgw hK hR hS hAA hl.1 rfl (fun r S2 H2 locs2 hq hR hS => ?_)
          obtain ⟨rfl, hf2, hT2⟩ := hq
          refine lv_icmp_eq (tgt := 745) hx hb dL_law_351 (by decide) (fun _ => ?_) (fun h => absurd rfl h)
          exact hcont S2 H2 locs2 (Top_cong (fun k hk => hf2 k (by omega)) (fun _ _ _ => rfl) (hT2 S1 hP1)) hR hS
        · refine lv_tableIn (off := 324) (tgt := 356) hx hb dL_law_32 (by decide +kernel) (by decide +kernel) (by decide +kernel) (by decide) ?_
          refine lv_aload_n hx hb dL_law_356 rfl (lv_at hl 2 rfl) ?_
          refine lv_aload_n hx hb dL_law_357 rfl (lv_at hl 3 rfl) ?_
          refine lv_iload_n hx hb dL_law_358 rfl (lv_at hl 0 rfl) ?_
          refine lv_iconst (v := nI 1) hx hb dL_law_359 (by decide +kernel) ?_
          refine lv_iadd hx hb dL_law_360 ?_
          rw [nI_add i 1]
          refine va_sld hx hb hX hbl hbA hS (vp_in_nI (by omega) (by omega)) dL_law_361 ?_
          refine lv_aload_n hx hb dL_law_362 rfl (lv_at hl 3 rfl) ?_
          refine lv_iload_n hx hb dL_law_363 rfl (lv_at hl 0 rfl) ?_
          refine lv_iconst (v := nI 2) hx hb dL_law_364 (by decide +kernel) ?_
          refine lv_iadd hx hb dL_law_365 ?_
          rw [nI_add i 2]
          refine va_sld hx hb hX hbl hbA hS (vp_in_nI (by omega) (by omega)) dL_law_366 ?_
          refine lv_aload_n hx hb dL_law_367 rfl (lv_at hl 3 rfl) ?_
          refine lv_iload_n hx hb dL_law_368 rfl (lv_at hl 0 rfl) ?_
          refine lv_iconst (v := nI 3) hx hb dL_law_369 (by decide +kernel) ?_
          refine lv_iadd hx hb dL_law_370 ?_
          rw [nI_add i 3]
          refine va_sld hx hb hX hbl hbA hS (vp_in_nI (by omega) (by omega)) dL_law_371 ?_
          refine lv_aload_n hx hb dL_law_372 rfl (lv_at hl 3 rfl) ?_
          refine lv_iload_n hx hb dL_law_373 rfl (lv_at hl 0 rfl) ?_
          refine lv_iconst (v := nI 4) hx hb dL_law_374 (by decide +kernel) ?_
          refine lv_iadd hx hb dL_law_375 ?_
          rw [nI_add i 4]
          refine va_sld hx hb hX hbl hbA hS (vp_in_nI (by omega) (by omega)) dL_law_376 ?_
          have hop : Op K112 mX1_letter yX1_letter mX2_letter yX2_letter [.inl (xs (nI (i + 1)).toNatClampNeg), .inl (xs (nI (i + 2)).toNatClampNeg), .inl (xs (nI (i + 3)).toNatClampNeg), .inl (xs (nI (i + 4)).toNatClampNeg)] := op_letter inC112 inM112
          obtain ⟨v, P, hc1, hf1, hc2⟩ := hop S ⟨S, hT⟩
          refine W_callV (g := g) (ks := K112) (S := S) (o := 96) (av := [.inl (xs (nI (i + 1)).toNatClampNeg), .inl (xs (nI (i + 2)).toNatClampNeg), .inl (xs (nI (i + 3)).toNatClampNeg), .inl (xs (nI (i + 4)).toNatClampNeg)]) (nL := 4) (A0 := (fun q : Nat => s.heap.size ≤ q)) (H0 := s.heap) (rest := []) okX1_letter lkL_49 ⟨Nat.le_of_ble_eq_true rfl, Nat.le_of_ble_eq_true rfl⟩ rfl (Nat.le_of_ble_eq_true rfl) (in112 96 (by decide)) isO_96 hc1 dL_law_377 ⟨Nat.le_refl _, Nat.le_refl _⟩ hx hb hml hown hgw hK hR hS hAA hl.1 rfl (fun r S1 H1 locs1 hq hR hS => ?_)
          obtain ⟨rfl, hP1⟩ := hq
          have hT1 : Top S S1 := Top_cong (fun _ _ => rfl) (fun k h1 _ => hf1 S1 hP1 k h1) hT
          refine lv_aload_n hx hb dL_law_380 rfl (lv_at hl 1 rfl) ?_
          refine lv_aload_n hx hb dL_law_381 rfl (lv_at hl 3 rfl) ?_
          refine lv_iload_n hx hb dL_law_382 rfl (lv_at hl 0 rfl) ?_
          refine lv_iconst (v := nI 1) hx hb dL_law_383 (by decide +kernel) ?_
          refine lv_iadd hx hb dL_law_384 ?_
          rw [nI_add i 1]
          refine va_sld hx hb hX hbl hbA hS (vp_in_nI (by omega) (by omega)) dL_law_385 ?_
          refine lv_aload_n hx hb dL_law_386 rfl (lv_at hl 3 rfl) ?_
          refine lv_iload_n hx hb dL_law_387 rfl (lv_at hl 0 rfl) ?_
          refine lv_iconst (v := nI 2) hx hb dL_law_388 (by decide +kernel) ?_
          refine lv_iadd hx hb dL_law_389 ?_
          rw [nI_add i 2]
          refine va_sld hx hb hX hbl hbA hS (vp_in_nI (by omega) (by omega)) dL_law_390 ?_
          refine lv_aload_n hx hb dL_law_391 rfl (lv_at hl 3 rfl) ?_
          refine lv_iload_n hx hb dL_law_392 rfl (lv_at hl 0 rfl) ?_
          refine lv_iconst (v := nI 3) hx hb dL_law_393 (by decide +kernel) ?_
          refine lv_iadd hx hb dL_law_394 ?_
          rw [nI_add i 3]
          refine va_sld hx hb hX hbl hbA hS (vp_in_nI (by omega) (by omega)) dL_law_395 ?_
          refine lv_aload_n hx hb dL_law_396 rfl (lv_at hl 3 rfl) ?_
          refine lv_iload_n hx hb dL_law_397 rfl (lv_at hl 0 rfl) ?_
          refine lv_iconst (v := nI 4) hx hb dL_law_398 (by decide +kernel) ?_
          refine lv_iadd hx hb dL_law_399 ?_
          rw [nI_add i 4]
          refine va_sld hx hb hX hbl hbA hS (vp_in_nI (by omega) (by omega)) dL_law_400 ?_
          refine W_callV (g := g) (ks := K112) (S := S1) (o := 103) (av := [.inl (xs (nI (i + 1)).toNatClampNeg), .inl (xs (nI (i + 2)).toNatClampNeg), .inl (xs (nI (i + 3)).toNatClampNeg), .inl (xs (nI (i + 4)).toNatClampNeg)]) (nL := 4) (A0 := (fun q : Nat => s.heap.size ≤ q)) (H0 := s.heap) (rest := [.int v]) okX2_letter lkL_53 ⟨Nat.le_of_ble_eq_true rfl, Nat.le_of_ble_eq_true rfl⟩ rfl (Nat.le_of_ble_eq_true rfl) (in112 103 (by decide)) isO_103 (hc2 S1 hT1) dL_law_401 ⟨Nat.le_refl _, Nat.le_refl _⟩ hx hb hml hown hgw hK hR hS hAA hl.1 rfl (fun r S2 H2 locs2 hq hR hS => ?_)
          obtain ⟨rfl, hf2, hT2⟩ := hq
          refine lv_icmp_eq (tgt := 745) hx hb dL_law_404 (by decide) (fun _ => ?_) (fun h => absurd rfl h)
          exact hcont S2 H2 locs2 (Top_cong (fun k hk => hf2 k (by omega)) (fun _ _ _ => rfl) (hT2 S1 hP1)) hR hS
        · refine lv_tableIn (off := 377) (tgt := 409) hx hb dL_law_32 (by decide +kernel) (by decide +kernel) (by decide +kernel) (by decide) ?_
          refine lv_aload_n hx hb dL_law_409 rfl (lv_at hl 2 rfl) ?_
          refine lv_aload_n hx hb dL_law_410 rfl (lv_at hl 3 rfl) ?_
          refine lv_iload_n hx hb dL_law_411 rfl (lv_at hl 0 rfl) ?_
          refine lv_iconst (v := nI 1) hx hb dL_law_412 (by decide +kernel) ?_
          refine lv_iadd hx hb dL_law_413 ?_
          rw [nI_add i 1]
          refine va_sld hx hb hX hbl hbA hS (vp_in_nI (by omega) (by omega)) dL_law_414 ?_
          refine lv_aload_n hx hb dL_law_415 rfl (lv_at hl 3 rfl) ?_
          refine lv_iload_n hx hb dL_law_416 rfl (lv_at hl 0 rfl) ?_
          refine lv_iconst (v := nI 2) hx hb dL_law_417 (by decide +kernel) ?_
          refine lv_iadd hx hb dL_law_418 ?_
          rw [nI_add i 2]
          refine va_sld hx hb hX hbl hbA hS (vp_in_nI (by omega) (by omega)) dL_law_419 ?_
          refine lv_aload_n hx hb dL_law_420 rfl (lv_at hl 3 rfl) ?_
          refine lv_iload_n hx hb dL_law_421 rfl (lv_at hl 0 rfl) ?_
          refine lv_iconst (v := nI 3) hx hb dL_law_422 (by decide +kernel) ?_
          refine lv_iadd hx hb dL_law_423 ?_
          rw [nI_add i 3]
          refine va_sld hx hb hX hbl hbA hS (vp_in_nI (by omega) (by omega)) dL_law_424 ?_
          refine lv_aload_n hx hb dL_law_425 rfl (lv_at hl 3 rfl) ?_
          refine lv_iload_n hx hb dL_law_426 rfl (lv_at hl 0 rfl) ?_
          refine lv_iconst (v := nI 4) hx hb dL_law_427 (by decide +kernel) ?_
          refine lv_iadd hx hb dL_law_428 ?_
          rw [nI_add i 4]
          refine va_sld hx hb hX hbl hbA hS (vp_in_nI (by omega) (by omega)) dL_law_429 ?_
          have hop : Op K112 mX1_carries yX1_carries mX2_carries yX2_carries [.inl (xs (nI (i + 1)).toNatClampNeg), .inl (xs (nI (i + 2)).toNatClampNeg), .inl (xs (nI (i + 3)).toNatClampNeg), .inl (xs (nI (i + 4)).toNatClampNeg)] := op_carries inC112 inM112
          obtain ⟨v, P, hc1, hf1, hc2⟩ := hop S ⟨S, hT⟩
          refine W_callV (g := g) (ks := K112) (S := S) (o := 96) (av := [.inl (xs (nI (i + 1)).toNatClampNeg), .inl (xs (nI (i + 2)).toNatClampNeg), .inl (xs (nI (i + 3)).toNatClampNeg), .inl (xs (nI (i + 4)).toNatClampNeg)]) (nL := 4) (A0 := (fun q : Nat => s.heap.size ≤ q)) (H0 := s.heap) (rest := []) okX1_carries lkL_54 ⟨Nat.le_of_ble_eq_true rfl, Nat.le_of_ble_eq_true rfl⟩ rfl (Nat.le_of_ble_eq_true rfl) (in112 96 (by decide)) isO_96 hc1 dL_law_430 ⟨Nat.le_refl _, Nat.le_refl _⟩ hx hb hml hown hgw hK hR hS hAA hl.1 rfl (fun r S1 H1 locs1 hq hR hS => ?_)
          obtain ⟨rfl, hP1⟩ := hq
          have hT1 : Top S S1 := Top_cong (fun _ _ => rfl) (fun k h1 _ => hf1 S1 hP1 k h1) hT
          refine lv_aload_n hx hb dL_law_433 rfl (lv_at hl 1 rfl) ?_
          refine lv_aload_n hx hb dL_law_434 rfl (lv_at hl 3 rfl) ?_
          refine lv_iload_n hx hb dL_law_435 rfl (lv_at hl 0 rfl) ?_
          refine lv_iconst (v := nI 1) hx hb dL_law_436 (by decide +kernel) ?_
          refine lv_iadd hx hb dL_law_437 ?_
          rw [nI_add i 1]
          refine va_sld hx hb hX hbl hbA hS (vp_in_nI (by omega) (by omega)) dL_law_438 ?_
          refine lv_aload_n hx hb dL_law_439 rfl (lv_at hl 3 rfl) ?_
          refine lv_iload_n hx hb dL_law_440 rfl (lv_at hl 0 rfl) ?_
          refine lv_iconst (v := nI 2) hx hb dL_law_441 (by decide +kernel) ?_
          refine lv_iadd hx hb dL_law_442 ?_
          rw [nI_add i 2]
          refine va_sld hx hb hX hbl hbA hS (vp_in_nI (by omega) (by omega)) dL_law_443 ?_
          refine lv_aload_n hx hb dL_law_444 rfl (lv_at hl 3 rfl) ?_
          refine lv_iload_n hx hb dL_law_445 rfl (lv_at hl 0 rfl) ?_
          refine lv_iconst (v := nI 3) hx hb dL_law_446 (by decide +kernel) ?_
          refine lv_iadd hx hb dL_law_447 ?_
          rw [nI_add i 3]
          refine va_sld hx hb hX hbl hbA hS (vp_in_nI (by omega) (by omega)) dL_law_448 ?_
          refine lv_aload_n hx hb dL_law_449 rfl (lv_at hl 3 rfl) ?_
          refine lv_iload_n hx hb dL_law_450 rfl (lv_at hl 0 rfl) ?_
          refine lv_iconst (v := nI 4) hx hb dL_law_451 (by decide +kernel) ?_
          refine lv_iadd hx hb dL_law_452 ?_
          rw [nI_add i 4]
          refine va_sld hx hb hX hbl hbA hS (vp_in_nI (by omega) (by omega)) dL_law_453 ?_
          refine W_callV (g := g) (ks := K112) (S := S1) (o := 103) (av := [.inl (xs (nI (i + 1)).toNatClampNeg), .inl (xs (nI (i + 2)).toNatClampNeg), .inl (xs (nI (i + 3)).toNatClampNeg), .inl (xs (nI (i + 4)).toNatClampNeg)]) (nL := 4) (A0 := (fun q : Nat => s.heap.size ≤ q)) (H0 := s.heap) (rest := [.int v]) okX2_carries lkL_57 ⟨Nat.le_of_ble_eq_true rfl, Nat.le_of_ble_eq_true rfl⟩ rfl (Nat.le_of_ble_eq_true rfl) (in112 103 (by decide)) isO_103 (hc2 S1 hT1) dL_law_454 ⟨Nat.le_refl _, Nat.le_refl _⟩ hx hb hml hown hgw hK hR hS hAA hl.1 rfl (fun r S2 H2 locs2 hq hR hS => ?_)
          obtain ⟨rfl, hf2, hT2⟩ := hq
          refine lv_icmp_eq (tgt := 745) hx hb dL_law_457 (by decide) (fun _ => ?_) (fun h => absurd rfl h)
          exact hcont S2 H2 locs2 (Top_cong (fun k hk => hf2 k (by omega)) (fun _ _ _ => rfl) (hT2 S1 hP1)) hR hS
        · refine lv_tableIn (off := 430) (tgt := 462) hx hb dL_law_32 (by decide +kernel) (by decide +kernel) (by decide +kernel) (by decide) ?_
          refine lv_aload_n hx hb dL_law_462 rfl (lv_at hl 2 rfl) ?_
          refine lv_aload_n hx hb dL_law_463 rfl (lv_at hl 3 rfl) ?_
          refine lv_iload_n hx hb dL_law_464 rfl (lv_at hl 0 rfl) ?_
          refine lv_iconst (v := nI 1) hx hb dL_law_465 (by decide +kernel) ?_
          refine lv_iadd hx hb dL_law_466 ?_
          rw [nI_add i 1]
          refine va_sld hx hb hX hbl hbA hS (vp_in_nI (by omega) (by omega)) dL_law_467 ?_
          refine lv_aload_n hx hb dL_law_468 rfl (lv_at hl 3 rfl) ?_
          refine lv_iload_n hx hb dL_law_469 rfl (lv_at hl 0 rfl) ?_
          refine lv_iconst (v := nI 2) hx hb dL_law_470 (by decide +kernel) ?_
          refine lv_iadd hx hb dL_law_471 ?_
          rw [nI_add i 2]
          refine va_sld hx hb hX hbl hbA hS (vp_in_nI (by omega) (by omega)) dL_law_472 ?_
          have hop : Op K112 mX1_knows yX1_knows mX2_knows yX2_knows [.inl (xs (nI (i + 1)).toNatClampNeg), .inl (xs (nI (i + 2)).toNatClampNeg)] := op_knows inC112 inM112
          obtain ⟨v, P, hc1, hf1, hc2⟩ := hop S ⟨S, hT⟩
          refine W_callV (g := g) (ks := K112) (S := S) (o := 96) (av := [.inl (xs (nI (i + 1)).toNatClampNeg), .inl (xs (nI (i + 2)).toNatClampNeg)]) (nL := 4) (A0 := (fun q : Nat => s.heap.size ≤ q)) (H0 := s.heap) (rest := []) okX1_knows lkL_58 ⟨Nat.le_of_ble_eq_true rfl, Nat.le_of_ble_eq_true rfl⟩ rfl (Nat.le_of_ble_eq_true rfl) (in112 96 (by decide)) isO_96 hc1 dL_law_473 ⟨Nat.le_refl _, Nat.le_refl _⟩ hx hb hml hown hgw hK hR hS hAA hl.1 rfl (fun r S1 H1 locs1 hq hR hS => ?_)
          obtain ⟨rfl, hP1⟩ := hq
          have hT1 : Top S S1 := Top_cong (fun _ _ => rfl) (fun k h1 _ => hf1 S1 hP1 k h1) hT
          refine lv_aload_n hx hb dL_law_476 rfl (lv_at hl 1 rfl) ?_
          refine lv_aload_n hx hb dL_law_477 rfl (lv_at hl 3 rfl) ?_
          refine lv_iload_n hx hb dL_law_478 rfl (lv_at hl 0 rfl) ?_
          refine lv_iconst (v := nI 1) hx hb dL_law_479 (by decide +kernel) ?_
          refine lv_iadd hx hb dL_law_480 ?_
          rw [nI_add i 1]
          refine va_sld hx hb hX hbl hbA hS (vp_in_nI (by omega) (by omega)) dL_law_481 ?_
          refine lv_aload_n hx hb dL_law_482 rfl (lv_at hl 3 rfl) ?_
          refine lv_iload_n hx hb dL_law_483 rfl (lv_at hl 0 rfl) ?_
          refine lv_iconst (v := nI 2) hx hb dL_law_484 (by decide +kernel) ?_
          refine lv_iadd hx hb dL_law_485 ?_
          rw [nI_add i 2]
          refine va_sld hx hb hX hbl hbA hS (vp_in_nI (by omega) (by omega)) dL_law_486 ?_
          refine W_callV (g := g) (ks := K112) (S := S1) (o := 103) (av := [.inl (xs (nI (i + 1)).toNatClampNeg), .inl (xs (nI (i + 2)).toNatClampNeg)]) (nL := 4) (A0 := (fun q : Nat => s.heap.size ≤ q)) (H0 := s.heap) (rest := [.int v]) okX2_knows lkL_61 ⟨Nat.le_of_ble_eq_true rfl, Nat.le_of_ble_eq_true rfl⟩ rfl (Nat.le_of_ble_eq_true rfl) (in112 103 (by decide)) isO_103 (hc2 S1 hT1) dL_law_487 ⟨Nat.le_refl _, Nat.le_refl _⟩ hx hb hml hown hgw hK hR hS hAA hl.1 rfl (fun r S2 H2 locs2 hq hR hS => ?_)
          obtain ⟨rfl, hf2, hT2⟩ := hq
          refine lv_icmp_eq (tgt := 745) hx hb dL_law_490 (by decide) (fun _ => ?_) (fun h => absurd rfl h)
          exact hcont S2 H2 locs2 (Top_cong (fun k hk => hf2 k (by omega)) (fun _ _ _ => rfl) (hT2 S1 hP1)) hR hS
        · refine lv_tableIn (off := 463) (tgt := 495) hx hb dL_law_32 (by decide +kernel) (by decide +kernel) (by decide +kernel) (by decide) ?_
          refine lv_aload_n hx hb dL_law_495 rfl (lv_at hl 2 rfl) ?_
          refine lv_aload_n hx hb dL_law_496 rfl (lv_at hl 3 rfl) ?_
          refine lv_iload_n hx hb dL_law_497 rfl (lv_at hl 0 rfl) ?_
          refine lv_iconst (v := nI 1) hx hb dL_law_498 (by decide +kernel) ?_
          refine lv_iadd hx hb dL_law_499 ?_
          rw [nI_add i 1]
          refine va_sld hx hb hX hbl hbA hS (vp_in_nI (by omega) (by omega)) dL_law_500 ?_
          refine lv_aload_n hx hb dL_law_501 rfl (lv_at hl 3 rfl) ?_
          refine lv_iload_n hx hb dL_law_502 rfl (lv_at hl 0 rfl) ?_
          refine lv_iconst (v := nI 2) hx hb dL_law_503 (by decide +kernel) ?_
          refine lv_iadd hx hb dL_law_504 ?_
          rw [nI_add i 2]
          refine va_sld hx hb hX hbl hbA hS (vp_in_nI (by omega) (by omega)) dL_law_505 ?_
          refine lv_aload_n hx hb dL_law_506 rfl (lv_at hl 3 rfl) ?_
          refine lv_iload_n hx hb dL_law_507 rfl (lv_at hl 0 rfl) ?_
          refine lv_iconst (v := nI 3) hx hb dL_law_508 (by decide +kernel) ?_
          refine lv_iadd hx hb dL_law_509 ?_
          rw [nI_add i 3]
          refine va_sld hx hb hX hbl hbA hS (vp_in_nI (by omega) (by omega)) dL_law_510 ?_
          have hop : Op K112 mX1_past yX1_past mX2_past yX2_past [.inl (xs (nI (i + 1)).toNatClampNeg), .inl (xs (nI (i + 2)).toNatClampNeg), .inl (xs (nI (i + 3)).toNatClampNeg)] := op_past inC112 inM112
          obtain ⟨v, P, hc1, hf1, hc2⟩ := hop S ⟨S, hT⟩
          refine W_callV (g := g) (ks := K112) (S := S) (o := 96) (av := [.inl (xs (nI (i + 1)).toNatClampNeg), .inl (xs (nI (i + 2)).toNatClampNeg), .inl (xs (nI (i + 3)).toNatClampNeg)]) (nL := 4) (A0 := (fun q : Nat => s.heap.size ≤ q)) (H0 := s.heap) (rest := []) okX1_past lkL_62 ⟨Nat.le_of_ble_eq_true rfl, Nat.le_of_ble_eq_true rfl⟩ rfl (Nat.le_of_ble_eq_true rfl) (in112 96 (by decide)) isO_96 hc1 dL_law_511 ⟨Nat.le_refl _, Nat.le_refl _⟩ hx hb hml hown hgw hK hR hS hAA hl.1 rfl (fun r S1 H1 locs1 hq hR hS => ?_)
          obtain ⟨rfl, hP1⟩ := hq
          have hT1 : Top S S1 := Top_cong (fun _ _ => rfl) (fun k h1 _ => hf1 S1 hP1 k h1) hT
          refine lv_aload_n hx hb dL_law_514 rfl (lv_at hl 1 rfl) ?_
          refine lv_aload_n hx hb dL_law_515 rfl (lv_at hl 3 rfl) ?_
          refine lv_iload_n hx hb dL_law_516 rfl (lv_at hl 0 rfl) ?_
          refine lv_iconst (v := nI 1) hx hb dL_law_517 (by decide +kernel) ?_
          refine lv_iadd hx hb dL_law_518 ?_
          rw [nI_add i 1]
          refine va_sld hx hb hX hbl hbA hS (vp_in_nI (by omega) (by omega)) dL_law_519 ?_
          refine lv_aload_n hx hb dL_law_520 rfl (lv_at hl 3 rfl) ?_
          refine lv_iload_n hx hb dL_law_521 rfl (lv_at hl 0 rfl) ?_
          refine lv_iconst (v := nI 2) hx hb dL_law_522 (by decide +kernel) ?_
          refine lv_iadd hx hb dL_law_523 ?_
          rw [nI_add i 2]
          refine va_sld hx hb hX hbl hbA hS (vp_in_nI (by omega) (by omega)) dL_law_524 ?_
          refine lv_aload_n hx hb dL_law_525 rfl (lv_at hl 3 rfl) ?_
          refine lv_iload_n hx hb dL_law_526 rfl (lv_at hl 0 rfl) ?_
          refine lv_iconst (v := nI 3) hx hb dL_law_527 (by decide +kernel) ?_
          refine lv_iadd hx hb dL_law_528 ?_
          rw [nI_add i 3]
          refine va_sld hx hb hX hbl hbA hS (vp_in_nI (by omega) (by omega)) dL_law_529 ?_
          refine W_callV (g := g) (ks := K112) (S := S1) (o := 103) (av := [.inl (xs (nI (i + 1)).toNatClampNeg), .inl (xs (nI (i + 2)).toNatClampNeg), .inl (xs (nI (i + 3)).toNatClampNeg)]) (nL := 4) (A0 := (fun q : Nat => s.heap.size ≤ q)) (H0 := s.heap) (rest := [.int v]) okX2_past lkL_65 ⟨Nat.le_of_ble_eq_true rfl, Nat.le_of_ble_eq_true rfl⟩ rfl (Nat.le_of_ble_eq_true rfl) (in112 103 (by decide)) isO_103 (hc2 S1 hT1) dL_law_530 ⟨Nat.le_refl _, Nat.le_refl _⟩ hx hb hml hown hgw hK hR hS hAA hl.1 rfl (fun r S2 H2 locs2 hq hR hS => ?_)
          obtain ⟨rfl, hf2, hT2⟩ := hq
          refine lv_icmp_eq (tgt := 745) hx hb dL_law_533 (by decide) (fun _ => ?_) (fun h => absurd rfl h)
          exact hcont S2 H2 locs2 (Top_cong (fun k hk => hf2 k (by omega)) (fun _ _ _ => rfl) (hT2 S1 hP1)) hR hS
        · refine lv_tableIn (off := 506) (tgt := 538) hx hb dL_law_32 (by decide +kernel) (by decide +kernel) (by decide +kernel) (by decide) ?_
          refine lv_aload_n hx hb dL_law_538 rfl (lv_at hl 2 rfl) ?_
          refine lv_aload_n hx hb dL_law_539 rfl (lv_at hl 3 rfl) ?_
          refine lv_iload_n hx hb dL_law_540 rfl (lv_at hl 0 rfl) ?_
          refine lv_iconst (v := nI 1) hx hb dL_law_541 (by decide +kernel) ?_
          refine lv_iadd hx hb dL_law_542 ?_
          rw [nI_add i 1]
          refine va_sld hx hb hX hbl hbA hS (vp_in_nI (by omega) (by omega)) dL_law_543 ?_
          refine lv_aload_n hx hb dL_law_544 rfl (lv_at hl 3 rfl) ?_
          refine lv_iload_n hx hb dL_law_545 rfl (lv_at hl 0 rfl) ?_
          refine lv_iconst (v := nI 2) hx hb dL_law_546 (by decide +kernel) ?_
          refine lv_iadd hx hb dL_law_547 ?_
          rw [nI_add i 2]
          refine va_sld hx hb hX hbl hbA hS (vp_in_nI (by omega) (by omega)) dL_law_548 ?_
          have hop : Op K112 mX1_risk yX1_risk mX2_risk yX2_risk [.inl (xs (nI (i + 1)).toNatClampNeg), .inl (xs (nI (i + 2)).toNatClampNeg)] := op_risk inC112 inM112
          obtain ⟨v, P, hc1, hf1, hc2⟩ := hop S ⟨S, hT⟩
          refine W_callV (g := g) (ks := K112) (S := S) (o := 96) (av := [.inl (xs (nI (i + 1)).toNatClampNeg), .inl (xs (nI (i + 2)).toNatClampNeg)]) (nL := 4) (A0 := (fun q : Nat => s.heap.size ≤ q)) (H0 := s.heap) (rest := []) okX1_risk lkL_66 ⟨Nat.le_of_ble_eq_true rfl, Nat.le_of_ble_eq_true rfl⟩ rfl (Nat.le_of_ble_eq_true rfl) (in112 96 (by decide)) isO_96 hc1 dL_law_549 ⟨Nat.le_refl _, Nat.le_refl _⟩ hx hb hml hown hgw hK hR hS hAA hl.1 rfl (fun r S1 H1 locs1 hq hR hS => ?_)
          obtain ⟨rfl, hP1⟩ := hq
          have hT1 : Top S S1 := Top_cong (fun _ _ => rfl) (fun k h1 _ => hf1 S1 hP1 k h1) hT
          refine lv_aload_n hx hb dL_law_552 rfl (lv_at hl 1 rfl) ?_
          refine lv_aload_n hx hb dL_law_553 rfl (lv_at hl 3 rfl) ?_
          refine lv_iload_n hx hb dL_law_554 rfl (lv_at hl 0 rfl) ?_
          refine lv_iconst (v := nI 1) hx hb dL_law_555 (by decide +kernel) ?_
          refine lv_iadd hx hb dL_law_556 ?_
          rw [nI_add i 1]
          refine va_sld hx hb hX hbl hbA hS (vp_in_nI (by omega) (by omega)) dL_law_557 ?_
          refine lv_aload_n hx hb dL_law_558 rfl (lv_at hl 3 rfl) ?_
          refine lv_iload_n hx hb dL_law_559 rfl (lv_at hl 0 rfl) ?_
          refine lv_iconst (v := nI 2) hx hb dL_law_560 (by decide +kernel) ?_
          refine lv_iadd hx hb dL_law_561 ?_
          rw [nI_add i 2]
          refine va_sld hx hb hX hbl hbA hS (vp_in_nI (by omega) (by omega)) dL_law_562 ?_
          refine W_callV (g := g) (ks := K112) (S := S1) (o := 103) (av := [.inl (xs (nI (i + 1)).toNatClampNeg), .inl (xs (nI (i + 2)).toNatClampNeg)]) (nL := 4) (A0 := (fun q : Nat => s.heap.size ≤ q)) (H0 := s.heap) (rest := [.int v]) okX2_risk lkL_69 ⟨Nat.le_of_ble_eq_true rfl, Nat.le_of_ble_eq_true rfl⟩ rfl (Nat.le_of_ble_eq_true rfl) (in112 103 (by decide)) isO_103 (hc2 S1 hT1) dL_law_563 ⟨Nat.le_refl _, Nat.le_refl _⟩ hx hb hml hown hgw hK hR hS hAA hl.1 rfl (fun r S2 H2 locs2 hq hR hS => ?_)
          obtain ⟨rfl, hf2, hT2⟩ := hq
          refine lv_icmp_eq (tgt := 745) hx hb dL_law_566 (by decide) (fun _ => ?_) (fun h => absurd rfl h)
          exact hcont S2 H2 locs2 (Top_cong (fun k hk => hf2 k (by omega)) (fun _ _ _ => rfl) (hT2 S1 hP1)) hR hS
        · refine lv_tableIn (off := 539) (tgt := 571) hx hb dL_law_32 (by decide +kernel) (by decide +kernel) (by decide +kernel) (by decide) ?_
          refine lv_aload_n hx hb dL_law_571 rfl (lv_at hl 2 rfl) ?_
          refine lv_aload_n hx hb dL_law_572 rfl (lv_at hl 3 rfl) ?_
          refine lv_iload_n hx hb dL_law_573 rfl (lv_at hl 0 rfl) ?_
          refine lv_iconst (v := nI 1) hx hb dL_law_574 (by decide +kernel) ?_
          refine lv_iadd hx hb dL_law_575 ?_
          rw [nI_add i 1]
          refine va_sld hx hb hX hbl hbA hS (vp_in_nI (by omega) (by omega)) dL_law_576 ?_
          have hop : Op K112 mX1_worst yX1_worst mX2_worst yX2_worst [.inl (xs (nI (i + 1)).toNatClampNeg)] := op_worst inC112 inM112
          obtain ⟨v, P, hc1, hf1, hc2⟩ := hop S ⟨S, hT⟩
          refine W_callV (g := g) (ks := K112) (S := S) (o := 96) (av := [.inl (xs (nI (i + 1)).toNatClampNeg)]) (nL := 4) (A0 := (fun q : Nat => s.heap.size ≤ q)) (H0 := s.heap) (rest := []) okX1_worst lkL_70 ⟨Nat.le_of_ble_eq_true rfl, Nat.le_of_ble_eq_true rfl⟩ rfl (Nat.le_of_ble_eq_true rfl) (in112 96 (by decide)) isO_96 hc1 dL_law_577 ⟨Nat.le_refl _, Nat.le_refl _⟩ hx hb hml hown hgw hK hR hS hAA hl.1 rfl (fun r S1 H1 locs1 hq hR hS => ?_)
          obtain ⟨rfl, hP1⟩ := hq
          have hT1 : Top S S1 := Top_cong (fun _ _ => rfl) (fun k h1 _ => hf1 S1 hP1 k h1) hT
          refine lv_aload_n hx hb dL_law_580 rfl (lv_at hl 1 rfl) ?_
          refine lv_aload_n hx hb dL_law_581 rfl (lv_at hl 3 rfl) ?_
          refine lv_iload_n hx hb dL_law_582 rfl (lv_at hl 0 rfl) ?_
          refine lv_iconst (v := nI 1) hx hb dL_law_583 (by decide +kernel) ?_
          refine lv_iadd hx hb dL_law_584 ?_
          rw [nI_add i 1]
          refine va_sld hx hb hX hbl hbA hS (vp_in_nI (by omega) (by omega)) dL_law_585 ?_
          refine W_callV (g := g) (ks := K112) (S := S1) (o := 103) (av := [.inl (xs (nI (i + 1)).toNatClampNeg)]) (nL := 4) (A0 := (fun q : Nat => s.heap.size ≤ q)) (H0 := s.heap) (rest := [.int v]) okX2_worst lkL_73 ⟨Nat.le_of_ble_eq_true rfl, Nat.le_of_ble_eq_true rfl⟩ rfl (Nat.le_of_ble_eq_true rfl) (in112 103 (by decide)) isO_103 (hc2 S1 hT1) dL_law_586 ⟨Nat.le_refl _, Nat.le_refl _⟩ hx hb hml hown hgw hK hR hS hAA hl.1 rfl (fun r S2 H2 locs2 hq hR hS => ?_)
          obtain ⟨rfl, hf2, hT2⟩ := hq
          refine lv_icmp_eq (tgt := 745) hx hb dL_law_589 (by decide) (fun _ => ?_) (fun h => absurd rfl h)
          exact hcont S2 H2 locs2 (Top_cong (fun k hk => hf2 k (by omega)) (fun _ _ _ => rfl) (hT2 S1 hP1)) hR hS
        · refine lv_tableIn (off := 562) (tgt := 594) hx hb dL_law_32 (by decide +kernel) (by decide +kernel) (by decide +kernel) (by decide) ?_
          refine lv_aload_n hx hb dL_law_594 rfl (lv_at hl 2 rfl) ?_
          refine lv_aload_n hx hb dL_law_595 rfl (lv_at hl 3 rfl) ?_
          refine lv_iload_n hx hb dL_law_596 rfl (lv_at hl 0 rfl) ?_
          refine lv_iconst (v := nI 1) hx hb dL_law_597 (by decide +kernel) ?_
          refine lv_iadd hx hb dL_law_598 ?_
          rw [nI_add i 1]
          refine va_sld hx hb hX hbl hbA hS (vp_in_nI (by omega) (by omega)) dL_law_599 ?_
          refine lv_aload_n hx hb dL_law_600 rfl (lv_at hl 3 rfl) ?_
          refine lv_iload_n hx hb dL_law_601 rfl (lv_at hl 0 rfl) ?_
          refine lv_iconst (v := nI 2) hx hb dL_law_602 (by decide +kernel) ?_
          refine lv_iadd hx hb dL_law_603 ?_
          rw [nI_add i 2]
          refine va_sld hx hb hX hbl hbA hS (vp_in_nI (by omega) (by omega)) dL_law_604 ?_
          have hop : Op K112 mX1_sees yX1_sees mX2_sees yX2_sees [.inl (xs (nI (i + 1)).toNatClampNeg), .inl (xs (nI (i + 2)).toNatClampNeg)] := op_sees inC112 inM112
          obtain ⟨v, P, hc1, hf1, hc2⟩ := hop S ⟨S, hT⟩
          refine W_callV (g := g) (ks := K112) (S := S) (o := 96) (av := [.inl (xs (nI (i + 1)).toNatClampNeg), .inl (xs (nI (i + 2)).toNatClampNeg)]) (nL := 4) (A0 := (fun q : Nat => s.heap.size ≤ q)) (H0 := s.heap) (rest := []) okX1_sees lkL_74 ⟨Nat.le_of_ble_eq_true rfl, Nat.le_of_ble_eq_true rfl⟩ rfl (Nat.le_of_ble_eq_true rfl) (in112 96 (by decide)) isO_96 hc1 dL_law_605 ⟨Nat.le_refl _, Nat.le_refl _⟩ hx hb hml hown hgw hK hR hS hAA hl.1 rfl (fun r S1 H1 locs1 hq hR hS => ?_)
          obtain ⟨rfl, hP1⟩ := hq
          have hT1 : Top S S1 := Top_cong (fun _ _ => rfl) (fun k h1 _ => hf1 S1 hP1 k h1) hT
          refine lv_aload_n hx hb dL_law_608 rfl (lv_at hl 1 rfl) ?_
          refine lv_aload_n hx hb dL_law_609 rfl (lv_at hl 3 rfl) ?_
          refine lv_iload_n hx hb dL_law_610 rfl (lv_at hl 0 rfl) ?_
          refine lv_iconst (v := nI 1) hx hb dL_law_611 (by decide +kernel) ?_
          refine lv_iadd hx hb dL_law_612 ?_
          rw [nI_add i 1]
          refine va_sld hx hb hX hbl hbA hS (vp_in_nI (by omega) (by omega)) dL_law_613 ?_
          refine lv_aload_n hx hb dL_law_614 rfl (lv_at hl 3 rfl) ?_
          refine lv_iload_n hx hb dL_law_615 rfl (lv_at hl 0 rfl) ?_
          refine lv_iconst (v := nI 2) hx hb dL_law_616 (by decide +kernel) ?_
          refine lv_iadd hx hb dL_law_617 ?_
          rw [nI_add i 2]
          refine va_sld hx hb hX hbl hbA hS (vp_in_nI (by omega) (by omega)) dL_law_618 ?_
          refine W_callV (g := g) (ks := K112) (S := S1) (o := 103) (av := [.inl (xs (nI (i + 1)).toNatClampNeg), .inl (xs (nI (i + 2)).toNatClampNeg)]) (nL := 4) (A0 := (fun q : Nat => s.heap.size ≤ q)) (H0 := s.heap) (rest := [.int v]) okX2_sees lkL_77 ⟨Nat.le_of_ble_eq_true rfl, Nat.le_of_ble_eq_true rfl⟩ rfl (Nat.le_of_ble_eq_true rfl) (in112 103 (by decide)) isO_103 (hc2 S1 hT1) dL_law_619 ⟨Nat.le_refl _, Nat.le_refl _⟩ hx hb hml hown hgw hK hR hS hAA hl.1 rfl (fun r S2 H2 locs2 hq hR hS => ?_)
          obtain ⟨rfl, hf2, hT2⟩ := hq
          refine lv_icmp_eq (tgt := 745) hx hb dL_law_622 (by decide) (fun _ => ?_) (fun h => absurd rfl h)
          exact hcont S2 H2 locs2 (Top_cong (fun k hk => hf2 k (by omega)) (fun _ _ _ => rfl) (hT2 S1 hP1)) hR hS
        · refine lv_tableIn (off := 595) (tgt := 627) hx hb dL_law_32 (by decide +kernel) (by decide +kernel) (by decide +kernel) (by decide) ?_
          refine lv_aload_n hx hb dL_law_627 rfl (lv_at hl 2 rfl) ?_
          have hop : Op K112 mX1_forget yX1_forget mX2_forget yX2_forget [] := op_forget inC112 inM112
          obtain ⟨v, P, hc1, hf1, hc2⟩ := hop S ⟨S, hT⟩
          refine W_callV (g := g) (ks := K112) (S := S) (o := 96) (av := []) (nL := 4) (A0 := (fun q : Nat => s.heap.size ≤ q)) (H0 := s.heap) (rest := []) okX1_forget lkL_78 ⟨Nat.le_of_ble_eq_true rfl, Nat.le_of_ble_eq_true rfl⟩ rfl (Nat.le_of_ble_eq_true rfl) (in112 96 (by decide)) isO_96 hc1 dL_law_628 ⟨Nat.le_refl _, Nat.le_refl _⟩ hx hb hml hown hgw hK hR hS hAA hl.1 rfl (fun r S1 H1 locs1 hq hR hS => ?_)
          obtain ⟨rfl, hP1⟩ := hq
          have hT1 : Top S S1 := Top_cong (fun _ _ => rfl) (fun k h1 _ => hf1 S1 hP1 k h1) hT
          refine lv_aload_n hx hb dL_law_631 rfl (lv_at hl 1 rfl) ?_
          refine W_callV (g := g) (ks := K112) (S := S1) (o := 103) (av := []) (nL := 4) (A0 := (fun q : Nat => s.heap.size ≤ q)) (H0 := s.heap) (rest := [.int v]) okX2_forget lkL_81 ⟨Nat.le_of_ble_eq_true rfl, Nat.le_of_ble_eq_true rfl⟩ rfl (Nat.le_of_ble_eq_true rfl) (in112 103 (by decide)) isO_103 (hc2 S1 hT1) dL_law_632 ⟨Nat.le_refl _, Nat.le_refl _⟩ hx hb hml hown hgw hK hR hS hAA hl.1 rfl (fun r S2 H2 locs2 hq hR hS => ?_)
          obtain ⟨rfl, hf2, hT2⟩ := hq
          refine lv_icmp_eq (tgt := 745) hx hb dL_law_635 (by decide) (fun _ => ?_) (fun h => absurd rfl h)
          exact hcont S2 H2 locs2 (Top_cong (fun k hk => hf2 k (by omega)) (fun _ _ _ => rfl) (hT2 S1 hP1)) hR hS
        · refine lv_tableIn (off := 608) (tgt := 640) hx hb dL_law_32 (by decide +kernel) (by decide +kernel) (by decide +kernel) (by decide) ?_
          refine lv_aload_n hx hb dL_law_640 rfl (lv_at hl 2 rfl) ?_
          refine lv_aload_n hx hb dL_law_641 rfl (lv_at hl 3 rfl) ?_
          refine lv_iload_n hx hb dL_law_642 rfl (lv_at hl 0 rfl) ?_
          refine lv_iconst (v := nI 1) hx hb dL_law_643 (by decide +kernel) ?_
          refine lv_iadd hx hb dL_law_644 ?_
          rw [nI_add i 1]
          refine va_sld hx hb hX hbl hbA hS (vp_in_nI (by omega) (by omega)) dL_law_645 ?_
          have hop : Op K112 mX1_which yX1_which mX2_which yX2_which [.inl (xs (nI (i + 1)).toNatClampNeg)] := op_which inC112 inM112
          obtain ⟨v, P, hc1, hf1, hc2⟩ := hop S ⟨S, hT⟩
          refine W_callV (g := g) (ks := K112) (S := S) (o := 96) (av := [.inl (xs (nI (i + 1)).toNatClampNeg)]) (nL := 4) (A0 := (fun q : Nat => s.heap.size ≤ q)) (H0 := s.heap) (rest := []) okX1_which lkL_82 ⟨Nat.le_of_ble_eq_true rfl, Nat.le_of_ble_eq_true rfl⟩ rfl (Nat.le_of_ble_eq_true rfl) (in112 96 (by decide)) isO_96 hc1 dL_law_646 ⟨Nat.le_refl _, Nat.le_refl _⟩ hx hb hml hown hgw hK hR hS hAA hl.1 rfl (fun r S1 H1 locs1 hq hR hS => ?_)
          obtain ⟨rfl, hP1⟩ := hq
          have hT1 : Top S S1 := Top_cong (fun _ _ => rfl) (fun k h1 _ => hf1 S1 hP1 k h1) hT
          refine lv_aload_n hx hb dL_law_649 rfl (lv_at hl 1 rfl) ?_
          refine lv_aload_n hx hb dL_law_650 rfl (lv_at hl 3 rfl) ?_
          refine lv_iload_n hx hb dL_law_651 rfl (lv_at hl 0 rfl) ?_
          refine lv_iconst (v := nI 1) hx hb dL_law_652 (by decide +kernel) ?_
          refine lv_iadd hx hb dL_law_653 ?_
          rw [nI_add i 1]
          refine va_sld hx hb hX hbl hbA hS (vp_in_nI (by omega) (by omega)) dL_law_654 ?_
          refine W_callV (g := g) (ks := K112) (S := S1) (o := 103) (av := [.inl (xs (nI (i + 1)).toNatClampNeg)]) (nL := 4) (A0 := (fun q : Nat => s.heap.size ≤ q)) (H0 := s.heap) (rest := [.int v]) okX2_which lkL_85 ⟨Nat.le_of_ble_eq_true rfl, Nat.le_of_ble_eq_true rfl⟩ rfl (Nat.le_of_ble_eq_true rfl) (in112 103 (by decide)) isO_103 (hc2 S1 hT1) dL_law_655 ⟨Nat.le_refl _, Nat.le_refl _⟩ hx hb hml hown hgw hK hR hS hAA hl.1 rfl (fun r S2 H2 locs2 hq hR hS => ?_)
          obtain ⟨rfl, hf2, hT2⟩ := hq
          refine lv_icmp_eq (tgt := 745) hx hb dL_law_658 (by decide) (fun _ => ?_) (fun h => absurd rfl h)
          exact hcont S2 H2 locs2 (Top_cong (fun k hk => hf2 k (by omega)) (fun _ _ _ => rfl) (hT2 S1 hP1)) hR hS
        · refine lv_tableIn (off := 631) (tgt := 663) hx hb dL_law_32 (by decide +kernel) (by decide +kernel) (by decide +kernel) (by decide) ?_
          refine lv_aload_n hx hb dL_law_663 rfl (lv_at hl 2 rfl) ?_
          have hop : Op K112 mX1_ask yX1_ask mX2_ask yX2_ask [] := op_ask inC112 inM112
          obtain ⟨v, P, hc1, hf1, hc2⟩ := hop S ⟨S, hT⟩
          refine W_callV (g := g) (ks := K112) (S := S) (o := 96) (av := []) (nL := 4) (A0 := (fun q : Nat => s.heap.size ≤ q)) (H0 := s.heap) (rest := []) okX1_ask lkL_86 ⟨Nat.le_of_ble_eq_true rfl, Nat.le_of_ble_eq_true rfl⟩ rfl (Nat.le_of_ble_eq_true rfl) (in112 96 (by decide)) isO_96 hc1 dL_law_664 ⟨Nat.le_refl _, Nat.le_refl _⟩ hx hb hml hown hgw hK hR hS hAA hl.1 rfl (fun r S1 H1 locs1 hq hR hS => ?_)
          obtain ⟨rfl, hP1⟩ := hq
          have hT1 : Top S S1 := Top_cong (fun _ _ => rfl) (fun k h1 _ => hf1 S1 hP1 k h1) hT
          refine lv_aload_n hx hb dL_law_667 rfl (lv_at hl 1 rfl) ?_
          refine W_callV (g := g) (ks := K112) (S := S1) (o := 103) (av := []) (nL := 4) (A0 := (fun q : Nat => s.heap.size ≤ q)) (H0 := s.heap) (rest := [.int v]) okX2_ask lkL_89 ⟨Nat.le_of_ble_eq_true rfl, Nat.le_of_ble_eq_true rfl⟩ rfl (Nat.le_of_ble_eq_true rfl) (in112 103 (by decide)) isO_103 (hc2 S1 hT1) dL_law_668 ⟨Nat.le_refl _, Nat.le_refl _⟩ hx hb hml hown hgw hK hR hS hAA hl.1 rfl (fun r S2 H2 locs2 hq hR hS => ?_)
          obtain ⟨rfl, hf2, hT2⟩ := hq
          refine lv_icmp_eq (tgt := 745) hx hb dL_law_671 (by decide) (fun _ => ?_) (fun h => absurd rfl h)
          exact hcont S2 H2 locs2 (Top_cong (fun k hk => hf2 k (by omega)) (fun _ _ _ => rfl) (hT2 S1 hP1)) hR hS
        · refine lv_tableIn (off := 644) (tgt := 676) hx hb dL_law_32 (by decide +kernel) (by decide +kernel) (by decide +kernel) (by decide) ?_
          refine lv_aload_n hx hb dL_law_676 rfl (lv_at hl 2 rfl) ?_
          refine lv_aload_n hx hb dL_law_677 rfl (lv_at hl 3 rfl) ?_
          refine lv_iload_n hx hb dL_law_678 rfl (lv_at hl 0 rfl) ?_
          refine lv_iconst (v := nI 1) hx hb dL_law_679 (by decide +kernel) ?_
          refine lv_iadd hx hb dL_law_680 ?_
          rw [nI_add i 1]
          refine va_sld hx hb hX hbl hbA hS (vp_in_nI (by omega) (by omega)) dL_law_681 ?_
          have hop : Op K112 mX1_keep yX1_keep mX2_keep yX2_keep [.inl (xs (nI (i + 1)).toNatClampNeg)] := op_keep inC112 inM112
          obtain ⟨v, P, hc1, hf1, hc2⟩ := hop S ⟨S, hT⟩
          refine W_callV (g := g) (ks := K112) (S := S) (o := 96) (av := [.inl (xs (nI (i + 1)).toNatClampNeg)]) (nL := 4) (A0 := (fun q : Nat => s.heap.size ≤ q)) (H0 := s.heap) (rest := []) okX1_keep lkL_90 ⟨Nat.le_of_ble_eq_true rfl, Nat.le_of_ble_eq_true rfl⟩ rfl (Nat.le_of_ble_eq_true rfl) (in112 96 (by decide)) isO_96 hc1 dL_law_682 ⟨Nat.le_refl _, Nat.le_refl _⟩ hx hb hml hown hgw hK hR hS hAA hl.1 rfl (fun r S1 H1 locs1 hq hR hS => ?_)
          obtain ⟨rfl, hP1⟩ := hq
          have hT1 : Top S S1 := Top_cong (fun _ _ => rfl) (fun k h1 _ => hf1 S1 hP1 k h1) hT
          refine lv_aload_n hx hb dL_law_685 rfl (lv_at hl 1 rfl) ?_
          refine lv_aload_n hx hb dL_law_686 rfl (lv_at hl 3 rfl) ?_
          refine lv_iload_n hx hb dL_law_687 rfl (lv_at hl 0 rfl) ?_
          refine lv_iconst (v := nI 1) hx hb dL_law_688 (by decide +kernel) ?_
          refine lv_iadd hx hb dL_law_689 ?_
          rw [nI_add i 1]
          refine va_sld hx hb hX hbl hbA hS (vp_in_nI (by omega) (by omega)) dL_law_690 ?_
          refine W_callV (g := g) (ks := K112) (S := S1) (o := 103) (av := [.inl (xs (nI (i + 1)).toNatClampNeg)]) (nL := 4) (A0 := (fun q : Nat => s.heap.size ≤ q)) (H0 := s.heap) (rest := [.int v]) okX2_keep lkL_93 ⟨Nat.le_of_ble_eq_true rfl, Nat.le_of_ble_eq_true rfl⟩ rfl (Nat.le_of_ble_eq_true rfl) (in112 103 (by decide)) isO_103 (hc2 S1 hT1) dL_law_691 ⟨Nat.le_refl _, Nat.le_refl _⟩ hx hb hml hown hgw hK hR hS hAA hl.1 rfl (fun r S2 H2 locs2 hq hR hS => ?_)
          obtain ⟨rfl, hf2, hT2⟩ := hq
          refine lv_icmp_eq (tgt := 745) hx hb dL_law_694 (by decide) (fun _ => ?_) (fun h => absurd rfl h)
          exact hcont S2 H2 locs2 (Top_cong (fun k hk => hf2 k (by omega)) (fun _ _ _ => rfl) (hT2 S1 hP1)) hR hS
        · refine lv_tableIn (off := 667) (tgt := 699) hx hb dL_law_32 (by decide +kernel) (by decide +kernel) (by decide +kernel) (by decide) ?_
          refine lv_aload_n hx hb dL_law_699 rfl (lv_at hl 2 rfl) ?_
          refine lv_aload_n hx hb dL_law_700 rfl (lv_at hl 3 rfl) ?_
          refine lv_iload_n hx hb dL_law_701 rfl (lv_at hl 0 rfl) ?_
          refine lv_iconst (v := nI 1) hx hb dL_law_702 (by decide +kernel) ?_
          refine lv_iadd hx hb dL_law_703 ?_
          rw [nI_add i 1]
          refine va_sld hx hb hX hbl hbA hS (vp_in_nI (by omega) (by omega)) dL_law_704 ?_
          have hop : Op K112 mX1_back yX1_back mX2_back yX2_back [.inl (xs (nI (i + 1)).toNatClampNeg)] := op_back inC112 inM112
          obtain ⟨v, P, hc1, hf1, hc2⟩ := hop S ⟨S, hT⟩
          refine W_callV (g := g) (ks := K112) (S := S) (o := 96) (av := [.inl (xs (nI (i + 1)).toNatClampNeg)]) (nL := 4) (A0 := (fun q : Nat => s.heap.size ≤ q)) (H0 := s.heap) (rest := []) okX1_back lkL_94 ⟨Nat.le_of_ble_eq_true rfl, Nat.le_of_ble_eq_true rfl⟩ rfl (Nat.le_of_ble_eq_true rfl) (in112 96 (by decide)) isO_96 hc1 dL_law_705 ⟨Nat.le_refl _, Nat.le_refl _⟩ hx hb hml hown hgw hK hR hS hAA hl.1 rfl (fun r S1 H1 locs1 hq hR hS => ?_)
          obtain ⟨rfl, hP1⟩ := hq
          have hT1 : Top S S1 := Top_cong (fun _ _ => rfl) (fun k h1 _ => hf1 S1 hP1 k h1) hT
          refine lv_aload_n hx hb dL_law_708 rfl (lv_at hl 1 rfl) ?_
          refine lv_aload_n hx hb dL_law_709 rfl (lv_at hl 3 rfl) ?_
          refine lv_iload_n hx hb dL_law_710 rfl (lv_at hl 0 rfl) ?_
          refine lv_iconst (v := nI 1) hx hb dL_law_711 (by decide +kernel) ?_
          refine lv_iadd hx hb dL_law_712 ?_
          rw [nI_add i 1]
          refine va_sld hx hb hX hbl hbA hS (vp_in_nI (by omega) (by omega)) dL_law_713 ?_
          refine W_callV (g := g) (ks := K112) (S := S1) (o := 103) (av := [.inl (xs (nI (i + 1)).toNatClampNeg)]) (nL := 4) (A0 := (fun q : Nat => s.heap.size ≤ q)) (H0 := s.heap) (rest := [.int v]) okX2_back lkL_97 ⟨Nat.le_of_ble_eq_true rfl, Nat.le_of_ble_eq_true rfl⟩ rfl (Nat.le_of_ble_eq_true rfl) (in112 103 (by decide)) isO_103 (hc2 S1 hT1) dL_law_714 ⟨Nat.le_refl _, Nat.le_refl _⟩ hx hb hml hown hgw hK hR hS hAA hl.1 rfl (fun r S2 H2 locs2 hq hR hS => ?_)
          obtain ⟨rfl, hf2, hT2⟩ := hq
          refine lv_icmp_eq (tgt := 745) hx hb dL_law_717 (by decide) (fun _ => ?_) (fun h => absurd rfl h)
          exact hcont S2 H2 locs2 (Top_cong (fun k hk => hf2 k (by omega)) (fun _ _ _ => rfl) (hT2 S1 hP1)) hR hS
        · refine lv_tableIn (off := 690) (tgt := 722) hx hb dL_law_32 (by decide +kernel) (by decide +kernel) (by decide +kernel) (by decide) ?_
          refine lv_aload_n hx hb dL_law_722 rfl (lv_at hl 2 rfl) ?_
          refine lv_aload_n hx hb dL_law_723 rfl (lv_at hl 3 rfl) ?_
          refine lv_iload_n hx hb dL_law_724 rfl (lv_at hl 0 rfl) ?_
          refine lv_iconst (v := nI 1) hx hb dL_law_725 (by decide +kernel) ?_
          refine lv_iadd hx hb dL_law_726 ?_
          rw [nI_add i 1]
          refine va_sld hx hb hX hbl hbA hS (vp_in_nI (by omega) (by omega)) dL_law_727 ?_
          have hop : Op K112 mX1_count yX1_count mX2_count yX2_count [.inl (xs (nI (i + 1)).toNatClampNeg)] := op_count inC112 inM112
          obtain ⟨v, P, hc1, hf1, hc2⟩ := hop S ⟨S, hT⟩
          refine W_callV (g := g) (ks := K112) (S := S) (o := 96) (av := [.inl (xs (nI (i + 1)).toNatClampNeg)]) (nL := 4) (A0 := (fun q : Nat => s.heap.size ≤ q)) (H0 := s.heap) (rest := []) okX1_count lkL_98 ⟨Nat.le_of_ble_eq_true rfl, Nat.le_of_ble_eq_true rfl⟩ rfl (Nat.le_of_ble_eq_true rfl) (in112 96 (by decide)) isO_96 hc1 dL_law_728 ⟨Nat.le_refl _, Nat.le_refl _⟩ hx hb hml hown hgw hK hR hS hAA hl.1 rfl (fun r S1 H1 locs1 hq hR hS => ?_)
          obtain ⟨rfl, hP1⟩ := hq
          have hT1 : Top S S1 := Top_cong (fun _ _ => rfl) (fun k h1 _ => hf1 S1 hP1 k h1) hT
          refine lv_aload_n hx hb dL_law_731 rfl (lv_at hl 1 rfl) ?_
          refine lv_aload_n hx hb dL_law_732 rfl (lv_at hl 3 rfl) ?_
          refine lv_iload_n hx hb dL_law_733 rfl (lv_at hl 0 rfl) ?_
          refine lv_iconst (v := nI 1) hx hb dL_law_734 (by decide +kernel) ?_
          refine lv_iadd hx hb dL_law_735 ?_
          rw [nI_add i 1]
          refine va_sld hx hb hX hbl hbA hS (vp_in_nI (by omega) (by omega)) dL_law_736 ?_
          refine W_callV (g := g) (ks := K112) (S := S1) (o := 103) (av := [.inl (xs (nI (i + 1)).toNatClampNeg)]) (nL := 4) (A0 := (fun q : Nat => s.heap.size ≤ q)) (H0 := s.heap) (rest := [.int v]) okX2_count lkL_101 ⟨Nat.le_of_ble_eq_true rfl, Nat.le_of_ble_eq_true rfl⟩ rfl (Nat.le_of_ble_eq_true rfl) (in112 103 (by decide)) isO_103 (hc2 S1 hT1) dL_law_737 ⟨Nat.le_refl _, Nat.le_refl _⟩ hx hb hml hown hgw hK hR hS hAA hl.1 rfl (fun r S2 H2 locs2 hq hR hS => ?_)
          obtain ⟨rfl, hf2, hT2⟩ := hq
          refine lv_icmp_eq (tgt := 745) hx hb dL_law_740 (by decide) (fun _ => ?_) (fun h => absurd rfl h)
          exact hcont S2 H2 locs2 (Top_cong (fun k hk => hf2 k (by omega)) (fun _ _ _ => rfl) (hT2 S1 hP1)) hR hS
      · refine lv_tableOut (tgt := 745) hx hb dL_law_32 (Or.inr (by rw [nI_toInt (by omega)]; omega)) (by decide) ?_
        exact hcont S H locs hT hR hS
