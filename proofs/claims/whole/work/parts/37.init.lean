abbrev W12 : List Nat := [0, 1, 2, 3, 4, 5, 6, 7, 8, 9, 10, 11]
abbrev M9 : List Nat := [103, 104, 105, 106, 107, 108, 109, 110, 111]
theorem inW12 : InW W12 := fun k hk => by
  have h : k < 12 := by rw [Nat.blt, Nat.ble_eq] at hk; omega
  clear hk
  revert k
  decide
theorem inM9 : InM M9 := fun k hk => by
  have h : 103 ≤ k ∧ k < 112 := by rw [Bool.and_eq_true, Nat.blt, Nat.ble_eq, Nat.ble_eq] at hk; omega
  obtain ⟨j, rfl⟩ : ∃ j, k = 103 + j := ⟨k - 103, by omega⟩
  have : j < 9 := by omega
  clear hk h
  revert j
  decide
theorem wl_AA {ks : List Nat} {g : GG} {S : St} {i : Nat} {q : Nat × va_E} (h : (wl ks g S)[i]? = some q) : AA ks g q.1 := by
  unfold wl at h
  rw [List.getElem?_map] at h
  cases hk : ks[i]? with
  | none => rw [hk] at h; cases h
  | some k => rw [hk] at h; cases h; exact ⟨k, List.mem_of_getElem? hk, rfl⟩
section WC
variable {p : Program} {l : Launch} {e : Env} {R : Room} {s : State} {mi : MethodId} {args : Array Value} {below : List Frame} {meth : Method} {c : Code} {H H0 : Heap} {locs : List Loc} {cells slots : Nat} {QQ : State → Prop}
variable {pc : Nat} {ls : Array Slot} {rest : List Value}
/-- a call of a method with a contract of ours, from a frame of another kind -/
theorem W_callV {ks : List Nat} {g : GG} {S : St} {y : MethodName} {m' : MD} {idx n o nL : Nat} {own : String} {cc : ByteArray} {A0 : Nat → Prop} {av : List V} {Q' : Option Int32 → St → Prop} (ok : OkV y m' n) (hl : Cond.methodLink own idx y ∈ gw) (hlev : m'.2.2.2.2 + 1 ≤ R.frames ∧ 8 + (m'.2.2.1 + 11) + 40 * m'.2.2.2.2 ≤ R.locals) (hn : av.length = n) (hs : (rest.map fun v => v.category).sum ≤ 8) (ho : o ∈ ks) (hO : isO o y.cls)
    (hC : Cn ks m' y (.inr o :: av) S Q') (hd : decode cc pc = .ok (.invokevirtual idx, 3)) (hfit : cells ≤ R.cells ∧ slots ≤ R.slots) (hx : p.tables.exec = Jvm.exec) (hb : c.code = cc) (hml : c.maxLocals = nL) (hown : s.vm.findClass own = some mi.cls) (ht : ∀ w ∈ gw, w.before args s = true) (hK : va_K g.2.1 cls3 (tys g) s) (R1 : Rp ks g S H) (S1 : va_S A0 H0 H locs) (hA : ∀ q, AA ks g q → A0 q) (hls : ls.size = nL) {st0 : List Value} (hst : st0 = (av.map (vl g)).reverse ++ .ref (g.1 o) :: rest)
    (kk : ∀ (r : Option Int32) (S' : St) (H1 : Heap) (locs1 : List Loc), Q' r S' → Rp ks g S' H1 → va_S A0 H0 H1 locs1 → W p l e R s mi args below meth c H1 locs1 cells slots QQ (F0 mi (pc + 3) ls ((r.map Value.int).toList ++ rest))) : W p l e R s mi args below meth c H locs cells slots QQ (F0 mi pc ls st0) := by
  obtain ⟨⟨o1, o2, o3, o4, o5, o6⟩, o7, o8⟩ := ok
  obtain ⟨j, h1, h2⟩ := wl_at (g := g) (S := S) ho
  obtain ⟨ci, fs, q, h3, h4, h5⟩ := hO g (S o)
  rw [h3] at h2
  have hrecv := va_recv hK R1.1 h4 h2
  rw [h5] at hrecv
  have hrun := va_runV (e := e) (below := below) (meth := meth) (locs := locs) (cells := cells) (slots := slots) (R := R) (n := n) (As := av.map (vl g)) (rest := rest) (g := F0 mi pc ls st0) (cc := cc) (nL := nL) (Ts := gw) (own := own) (index := idx) ⟨hx, hb, hml, hown, ht⟩ (hC l g)
    ⟨callB_of (Ts := gw) (bytes := m'.2.1) (maxL := m'.2.2.1) (ret := m'.2.2.2.1) n ht (gwc_in o1) rfl rfl rfl (ht _ o2) (ht _ hl) o3 hlev, ht _ o7, ht _ o8⟩
    ⟨pre_blind, hrecv, fun U hU hW => ⟨rfl, by rw [hU]; exact R1, va_K.moved hW.alike hK⟩⟩ rfl (by rw [List.length_map]; exact hn) hls hst (lv_room hs) hd hfit
  exact cl_go hrun S1 hA kk
end WC
abbrev tys3 (cI cZ cW : ClassId) : List (ClassId × FieldType) := [(cI, .int), (cZ, .boolean), (cW, .object "CarriedOrders$World")]
abbrev fW0 : List Value := [.int 0, .int 0, .int 0, .null, .null, .null, .null, .null, .null, .null, .null, .null, .null, .null]
abbrev S00 : St := fun _ _ => 0
abbrev SW1 : St := startW S00 (nI 3) (nI 2)
abbrev rmW : Room := { frames := 2, cells := 11, slots := 1288, locals := 80 }
theorem cA_eq {D : va_G} {cI cZ cW cA : ClassId} {s : State} (hK : va_K D cls3 (tys3 cI cZ cW) s) (h : va_K D cls3 (tys3 cI cZ cW ++ [(cA, .int)]) s) : cA = cI := Option.some.inj ((h.2 3 (cA, .int) rfl).2.symm.trans (hK.2 0 (cI, .int) rfl).2)
theorem cZ_eq {D : va_G} {cI cZ cW cA : ClassId} {s : State} (hK : va_K D cls3 (tys3 cI cZ cW) s) (h : va_K D cls3 (tys3 cI cZ cW ++ [(cA, .boolean)]) s) : cA = cZ := Option.some.inj ((h.2 3 (cA, .boolean) rfl).2.symm.trans (hK.2 1 (cZ, .boolean) rfl).2)
theorem cW_eq {D : va_G} {cI cZ cW cA : ClassId} {s : State} (hK : va_K D cls3 (tys3 cI cZ cW) s) (h : va_K D cls3 (tys3 cI cZ cW ++ [(cA, .object "CarriedOrders$World")]) s) : cA = cW := by
  obtain ⟨-, -, -, -, -, h1⟩ := (h.2 3 (cA, .object "CarriedOrders$World") rfl).2
  obtain ⟨-, -, -, -, -, h2⟩ := (hK.2 2 (cW, .object "CarriedOrders$World") rfl).2
  exact Option.some.inj (h1.symm.trans h2)
theorem wd_oi : Cond.instanceMethod objectInit ∈ gw := gw_mem 53 (by decide +kernel) (by decide +kernel)
theorem wd_oc : Cond.code objectInit ⟨#[0xb1]⟩ 1 none ∈ gw := gw_mem 54 (by decide +kernel) (by decide +kernel)
theorem wd_o0 : Cond.methodLink RX0 3 objectInit ∈ gw := gw_mem 60 (by decide +kernel) (by decide +kernel)
theorem wd_o1 : Cond.methodLink RX1 3 objectInit ∈ gw := gw_mem 52 (by decide +kernel) (by decide +kernel)
theorem wd_o2 : Cond.methodLink RX2 1 objectInit ∈ gw := gw_mem 452 (by decide +kernel) (by decide +kernel)
theorem wd_aI : Cond.arrayClass .int ∈ gw := gw_mem 122 (by decide +kernel) (by decide +kernel)
theorem wd_aZ : Cond.arrayClass .boolean ∈ gw := gw_mem 488 (by decide +kernel) (by decide +kernel)
theorem wd_cW : Cond.classLink RX1 9 RX0 ∈ gw := gw_mem 55 (by decide +kernel) (by decide +kernel)
theorem wd_nW : Cond.instantiable RX0 14 ∈ gw := gw_mem 56 (by decide +kernel) (by decide +kernel)
theorem wd_iW : Cond.initialized RX0 ∈ gw := gw_mem 41 (by decide +kernel) (by decide +kernel)
theorem wd_lW : Cond.methodLink RX1 11 yX0_init ∈ gw := gw_mem 57 (by decide +kernel) (by decide +kernel)
theorem wd_mW : Cond.instanceMethod yX0_init ∈ gw := gw_mem 58 (by decide +kernel) (by decide +kernel)
theorem wd_kW : Cond.code yX0_init cX0_init 1 none ∈ gw := gw_mem 59 (by decide +kernel) (by decide +kernel)
theorem wd_k1 : Cond.code yX1_init cX1_init 2 none ∈ gw := gw_mem 51 (by decide +kernel) (by decide +kernel)
theorem wd_k2 : Cond.code yX2_init cX2_init 1 none ∈ gw := gw_mem 451 (by decide +kernel) (by decide +kernel)
theorem wd_n1 : Cond.instantiable RX1 11 ∈ gw := gw_mem 48 (by decide +kernel) (by decide +kernel)
theorem wd_n2 : Cond.instantiable RX2 10 ∈ gw := gw_mem 448 (by decide +kernel) (by decide +kernel)
theorem wd_i1 : Cond.initialized RX1 ∈ gw := gw_mem 40 (by decide +kernel) (by decide +kernel)
theorem wd_i2 : Cond.initialized RX2 ∈ gw := gw_mem 43 (by decide +kernel) (by decide +kernel)
theorem wd_m1 : Cond.instanceMethod yX1_init ∈ gw := gw_mem 50 (by decide +kernel) (by decide +kernel)
theorem wd_m2 : Cond.instanceMethod yX2_init ∈ gw := gw_mem 450 (by decide +kernel) (by decide +kernel)
theorem wd_c1 : Cond.classLink RL 7 RX1 ∈ gw := gw_mem 47 (by decide +kernel) (by decide +kernel)
theorem wd_c2 : Cond.classLink RL 10 RX2 ∈ gw := gw_mem 447 (by decide +kernel) (by decide +kernel)
theorem wd_l1 : Cond.methodLink RL 9 yX1_init ∈ gw := gw_mem 49 (by decide +kernel) (by decide +kernel)
theorem wd_l2 : Cond.methodLink RL 12 yX2_init ∈ gw := gw_mem 449 (by decide +kernel) (by decide +kernel)
set_option maxHeartbeats 4000000 in
set_option maxRecDepth 100000 in
/-- a World is made -/
theorem c_init_W (l : Launch) (D : va_G) (cI cZ cW : ClassId) (h0 sz : Nat) : Met l yX0_init (.code yX0_init cX0_init 1 none :: gw) rmW (va_Pc [.ref h0] (fun U => U.heap.size = sz ∧ va_P D cls3 [(h0, .inr (0, fW0))] U.heap ∧ va_K D cls3 (tys3 cI cZ cW) U ∧ va_D (fun _ => True) [(h0, .inr (0, fW0))])) (va_Qv (fun _ : Nat → Nat => True) (fun ad t => ad 0 = h0 ∧ va_P D cls3 (wl W12 (ad, D, cI, cZ, cW) SW1) t.heap ∧ va_D (va_A [(h0, .inr (0, fW0))] sz) (wl W12 (ad, D, cI, cZ, cW) SW1)) (va_A [(h0, .inr (0, fW0))] sz)) 11 1288 (va_A [(h0, .inr (0, fW0))] sz) := by
  refine Met.ofW (cc := cX0_init) (maxL := 1) (ret := none) (by decide) rfl ?_
  intro p e s m args below meth c s₁ B hml hv
  obtain ⟨rfl, hsz, hP, hK, hD0⟩ := hv
  have hx := B.exec
  have hb := B.bytes
  have hr := B.returns
  have hts0 := atoms_spec (ws := .code yX0_init cX0_init 1 none :: gw) B.pre
  have hts : ∀ w ∈ gw, w.before _ s = true := fun w hw => hts0 w (List.mem_cons_of_mem _ hw)
  have hown : s.vm.findClass RX0 = some m.cls := findClass_of_methodNamed B.named
  have hlocks := B.notSynchronized
  have hin : meth.name = "<init>" := (name_of_methodNamed B.named B.method).1
  subst hsz
  have hD := hD0.self (sz := s.heap.size)
  generalize hAe : va_A [(h0, .inr (0, fW0))] s.heap.size = A at hD ⊢
  have hA : ∀ q : Nat, s.heap.size ≤ q → A q := fun q h => by rw [← hAe]; exact Or.inr h
  have hS : va_S A s.heap s.heap [] := va_S.rf
  have hl := lv_entry ([.ref h0]) (n := 1) (Nat.le_of_ble_eq_true rfl)
  rw [lg_entry_eq]
  generalize (lg_sl ([.ref h0]) ++ List.replicate (1 - (lg_sl ([.ref h0])).length) Slot.unset).toArray = ls at hl ⊢
  have hl : lv_has ls 1 [(0, .ref h0)] := hl
  refine lv_aload_n hx hb dX0_init_0 rfl (lv_at hl 0 rfl) ?_
  refine W.objInit hx hb hown (hts _ wd_o0) (hts _ wd_oi) (hts _ wd_oc) rfl (by rw [hml]; exact hl.1) rfl dX0_init_1 (Nat.le_of_ble_eq_true rfl) (Nat.le_of_ble_eq_true rfl) ?_
  refine W.eq (g2 := F0 m 4 ls []) rfl ?_
  refine lv_aload_n hx hb dX0_init_4 rfl (lv_at hl 0 rfl) ?_
  refine lv_iconst (v := 4) hx hb dX0_init_5 (by decide) ?_
  refine va_newa (atype := .int) (ty := .int) (N' := 4) (a0 := (4, .inl (fun _ => 0))) hx hb (hts _ wd_aI) rfl hK hP hD hS hA (fun _ => rfl) (by decide +kernel) (by decide +kernel) (by decide) (Nat.le_of_ble_eq_true rfl) (Nat.le_of_ble_eq_true rfl) dX0_init_6 (fun q1 cA H hKn hP hD hS => ?_)
  obtain rfl := cA_eq hK hKn
  refine W.widen (k := 1) (n := 4) (by omega) (by omega) ?_
  refine va_putF (D := D) (ci := 0) (v := .ref q1) (ty := .array .int) (C := RX0) (T := TX0) (N := 14) hx hb hts igX0 tyX0 tyX0_ok nmX0 hown hK hP hD hS 0 rfl rfl 3 (by decide) (hts _ fkX0_9) (fun _ h9 => h9) rfl hin rfl (by decide +kernel) rfl rfl (Nat.le_of_ble_eq_true rfl) dX0_init_8 (fun H locs hP hD hS => ?_)
  have hP : va_P D cls3 [(h0, .inr (0, [.int 0, .int 0, .int 0, .ref q1, .null, .null, .null, .null, .null, .null, .null, .null, .null, .null])), (q1, .inl (cA, 4, .inl (fun _ => 0)))] H := hP
  have hD : va_D A [(h0, .inr (0, [.int 0, .int 0, .int 0, .ref q1, .null, .null, .null, .null, .null, .null, .null, .null, .null, .null])), (q1, .inl (cA, 4, .inl (fun _ => 0)))] := hD
  refine lv_aload_n hx hb dX0_init_11 rfl (lv_at hl 0 rfl) ?_
  refine lv_bipush (v := 32) hx hb dX0_init_12 (by decide) ?_
  refine va_newa (atype := .int) (ty := .int) (N' := 32) (a0 := (32, .inl (fun _ => 0))) hx hb (hts _ wd_aI) rfl hK hP hD hS hA (fun _ => rfl) (by decide +kernel) (by decide +kernel) (by decide) (Nat.le_of_ble_eq_true rfl) (Nat.le_of_ble_eq_true rfl) dX0_init_14 (fun q2 cA H hKn hP hD hS => ?_)
  obtain rfl := cA_eq hK hKn
  refine W.widen (k := 2) (n := 36) (by omega) (by omega) ?_
  refine va_putF (D := D) (ci := 0) (v := .ref q2) (ty := .array .int) (C := RX0) (T := TX0) (N := 14) hx hb hts igX0 tyX0 tyX0_ok nmX0 hown hK hP hD hS 0 rfl rfl 4 (by decide) (hts _ fkX0_15) (fun _ h9 => h9) rfl hin rfl (by decide +kernel) rfl rfl (Nat.le_of_ble_eq_true rfl) dX0_init_16 (fun H locs hP hD hS => ?_)
  have hP : va_P D cls3 [(h0, .inr (0, [.int 0, .int 0, .int 0, .ref q1, .ref q2, .null, .null, .null, .null, .null, .null, .null, .null, .null])), (q1, .inl (cA, 4, .inl (fun _ => 0))), (q2, .inl (cA, 32, .inl (fun _ => 0)))] H := hP
  have hD : va_D A [(h0, .inr (0, [.int 0, .int 0, .int 0, .ref q1, .ref q2, .null, .null, .null, .null, .null, .null, .null, .null, .null])), (q1, .inl (cA, 4, .inl (fun _ => 0))), (q2, .inl (cA, 32, .inl (fun _ => 0)))] := hD
  refine lv_aload_n hx hb dX0_init_19 rfl (lv_at hl 0 rfl) ?_
  refine lv_bipush (v := 32) hx hb dX0_init_20 (by decide) ?_
  refine va_newa (atype := .int) (ty := .int) (N' := 32) (a0 := (32, .inl (fun _ => 0))) hx hb (hts _ wd_aI) rfl hK hP hD hS hA (fun _ => rfl) (by decide +kernel) (by decide +kernel) (by decide) (Nat.le_of_ble_eq_true rfl) (Nat.le_of_ble_eq_true rfl) dX0_init_22 (fun q3 cA H hKn hP hD hS => ?_)
  obtain rfl := cA_eq hK hKn
  refine W.widen (k := 3) (n := 68) (by omega) (by omega) ?_
  refine va_putF (D := D) (ci := 0) (v := .ref q3) (ty := .array .int) (C := RX0) (T := TX0) (N := 14) hx hb hts igX0 tyX0 tyX0_ok nmX0 hown hK hP hD hS 0 rfl rfl 5 (by decide) (hts _ fkX0_18) (fun _ h9 => h9) rfl hin rfl (by decide +kernel) rfl rfl (Nat.le_of_ble_eq_true rfl) dX0_init_24 (fun H locs hP hD hS => ?_)
  have hP : va_P D cls3 [(h0, .inr (0, [.int 0, .int 0, .int 0, .ref q1, .ref q2, .ref q3, .null, .null, .null, .null, .null, .null, .null, .null])), (q1, .inl (cA, 4, .inl (fun _ => 0))), (q2, .inl (cA, 32, .inl (fun _ => 0))), (q3, .inl (cA, 32, .inl (fun _ => 0)))] H := hP
  have hD : va_D A [(h0, .inr (0, [.int 0, .int 0, .int 0, .ref q1, .ref q2, .ref q3, .null, .null, .null, .null, .null, .null, .null, .null])), (q1, .inl (cA, 4, .inl (fun _ => 0))), (q2, .inl (cA, 32, .inl (fun _ => 0))), (q3, .inl (cA, 32, .inl (fun _ => 0)))] := hD
  refine lv_aload_n hx hb dX0_init_27 rfl (lv_at hl 0 rfl) ?_
  refine lv_bipush (v := 32) hx hb dX0_init_28 (by decide) ?_
  refine va_newa (atype := .int) (ty := .int) (N' := 32) (a0 := (32, .inl (fun _ => 0))) hx hb (hts _ wd_aI) rfl hK hP hD hS hA (fun _ => rfl) (by decide +kernel) (by decide +kernel) (by decide) (Nat.le_of_ble_eq_true rfl) (Nat.le_of_ble_eq_true rfl) dX0_init_30 (fun q4 cA H hKn hP hD hS => ?_)
  obtain rfl := cA_eq hK hKn
  refine W.widen (k := 4) (n := 100) (by omega) (by omega) ?_
  refine va_putF (D := D) (ci := 0) (v := .ref q4) (ty := .array .int) (C := RX0) (T := TX0) (N := 14) hx hb hts igX0 tyX0 tyX0_ok nmX0 hown hK hP hD hS 0 rfl rfl 6 (by decide) (hts _ fkX0_21) (fun _ h9 => h9) rfl hin rfl (by decide +kernel) rfl rfl (Nat.le_of_ble_eq_true rfl) dX0_init_32 (fun H locs hP hD hS => ?_)
  have hP : va_P D cls3 [(h0, .inr (0, [.int 0, .int 0, .int 0, .ref q1, .ref q2, .ref q3, .ref q4, .null, .null, .null, .null, .null, .null, .null])), (q1, .inl (cA, 4, .inl (fun _ => 0))), (q2, .inl (cA, 32, .inl (fun _ => 0))), (q3, .inl (cA, 32, .inl (fun _ => 0))), (q4, .inl (cA, 32, .inl (fun _ => 0)))] H := hP
  have hD : va_D A [(h0, .inr (0, [.int 0, .int 0, .int 0, .ref q1, .ref q2, .ref q3, .ref q4, .null, .null, .null, .null, .null, .null, .null])), (q1, .inl (cA, 4, .inl (fun _ => 0))), (q2, .inl (cA, 32, .inl (fun _ => 0))), (q3, .inl (cA, 32, .inl (fun _ => 0))), (q4, .inl (cA, 32, .inl (fun _ => 0)))] := hD
  refine lv_aload_n hx hb dX0_init_35 rfl (lv_at hl 0 rfl) ?_
  refine lv_bipush (v := 32) hx hb dX0_init_36 (by decide) ?_
  refine va_newa (atype := .int) (ty := .int) (N' := 32) (a0 := (32, .inl (fun _ => 0))) hx hb (hts _ wd_aI) rfl hK hP hD hS hA (fun _ => rfl) (by decide +kernel) (by decide +kernel) (by decide) (Nat.le_of_ble_eq_true rfl) (Nat.le_of_ble_eq_true rfl) dX0_init_38 (fun q5 cA H hKn hP hD hS => ?_)
  obtain rfl := cA_eq hK hKn
  refine W.widen (k := 5) (n := 132) (by omega) (by omega) ?_
  refine va_putF (D := D) (ci := 0) (v := .ref q5) (ty := .array .int) (C := RX0) (T := TX0) (N := 14) hx hb hts igX0 tyX0 tyX0_ok nmX0 hown hK hP hD hS 0 rfl rfl 7 (by decide) (hts _ fkX0_24) (fun _ h9 => h9) rfl hin rfl (by decide +kernel) rfl rfl (Nat.le_of_ble_eq_true rfl) dX0_init_40 (fun H locs hP hD hS => ?_)
  have hP : va_P D cls3 [(h0, .inr (0, [.int 0, .int 0, .int 0, .ref q1, .ref q2, .ref q3, .ref q4, .ref q5, .null, .null, .null, .null, .null, .null])), (q1, .inl (cA, 4, .inl (fun _ => 0))), (q2, .inl (cA, 32, .inl (fun _ => 0))), (q3, .inl (cA, 32, .inl (fun _ => 0))), (q4, .inl (cA, 32, .inl (fun _ => 0))), (q5, .inl (cA, 32, .inl (fun _ => 0)))] H := hP
  have hD : va_D A [(h0, .inr (0, [.int 0, .int 0, .int 0, .ref q1, .ref q2, .ref q3, .ref q4, .ref q5, .null, .null, .null, .null, .null, .null])), (q1, .inl (cA, 4, .inl (fun _ => 0))), (q2, .inl (cA, 32, .inl (fun _ => 0))), (q3, .inl (cA, 32, .inl (fun _ => 0))), (q4, .inl (cA, 32, .inl (fun _ => 0))), (q5, .inl (cA, 32, .inl (fun _ => 0)))] := hD
  refine lv_aload_n hx hb dX0_init_43 rfl (lv_at hl 0 rfl) ?_
  refine lv_bipush (v := 20) hx hb dX0_init_44 (by decide) ?_
  refine va_newa (atype := .int) (ty := .int) (N' := 20) (a0 := (20, .inl (fun _ => 0))) hx hb (hts _ wd_aI) rfl hK hP hD hS hA (fun _ => rfl) (by decide +kernel) (by decide +kernel) (by decide) (Nat.le_of_ble_eq_true rfl) (Nat.le_of_ble_eq_true rfl) dX0_init_46 (fun q6 cA H hKn hP hD hS => ?_)
  obtain rfl := cA_eq hK hKn
  refine W.widen (k := 6) (n := 152) (by omega) (by omega) ?_
  refine va_putF (D := D) (ci := 0) (v := .ref q6) (ty := .array .int) (C := RX0) (T := TX0) (N := 14) hx hb hts igX0 tyX0 tyX0_ok nmX0 hown hK hP hD hS 0 rfl rfl 8 (by decide) (hts _ fkX0_27) (fun _ h9 => h9) rfl hin rfl (by decide +kernel) rfl rfl (Nat.le_of_ble_eq_true rfl) dX0_init_48 (fun H locs hP hD hS => ?_)
  have hP : va_P D cls3 [(h0, .inr (0, [.int 0, .int 0, .int 0, .ref q1, .ref q2, .ref q3, .ref q4, .ref q5, .ref q6, .null, .null, .null, .null, .null])), (q1, .inl (cA, 4, .inl (fun _ => 0))), (q2, .inl (cA, 32, .inl (fun _ => 0))), (q3, .inl (cA, 32, .inl (fun _ => 0))), (q4, .inl (cA, 32, .inl (fun _ => 0))), (q5, .inl (cA, 32, .inl (fun _ => 0))), (q6, .inl (cA, 20, .inl (fun _ => 0)))] H := hP
  have hD : va_D A [(h0, .inr (0, [.int 0, .int 0, .int 0, .ref q1, .ref q2, .ref q3, .ref q4, .ref q5, .ref q6, .null, .null, .null, .null, .null])), (q1, .inl (cA, 4, .inl (fun _ => 0))), (q2, .inl (cA, 32, .inl (fun _ => 0))), (q3, .inl (cA, 32, .inl (fun _ => 0))), (q4, .inl (cA, 32, .inl (fun _ => 0))), (q5, .inl (cA, 32, .inl (fun _ => 0))), (q6, .inl (cA, 20, .inl (fun _ => 0)))] := hD
  refine lv_aload_n hx hb dX0_init_51 rfl (lv_at hl 0 rfl) ?_
  refine lv_sipush (v := 160) hx hb dX0_init_52 (by decide) ?_
  refine va_newa (atype := .int) (ty := .int) (N' := 160) (a0 := (160, .inl (fun _ => 0))) hx hb (hts _ wd_aI) rfl hK hP hD hS hA (fun _ => rfl) (by decide +kernel) (by decide +kernel) (by decide) (Nat.le_of_ble_eq_true rfl) (Nat.le_of_ble_eq_true rfl) dX0_init_55 (fun q7 cA H hKn hP hD hS => ?_)
  obtain rfl := cA_eq hK hKn
  refine W.widen (k := 7) (n := 312) (by omega) (by omega) ?_
  refine va_putF (D := D) (ci := 0) (v := .ref q7) (ty := .array .int) (C := RX0) (T := TX0) (N := 14) hx hb hts igX0 tyX0 tyX0_ok nmX0 hown hK hP hD hS 0 rfl rfl 9 (by decide) (hts _ fkX0_30) (fun _ h9 => h9) rfl hin rfl (by decide +kernel) rfl rfl (Nat.le_of_ble_eq_true rfl) dX0_init_57 (fun H locs hP hD hS => ?_)
  have hP : va_P D cls3 [(h0, .inr (0, [.int 0, .int 0, .int 0, .ref q1, .ref q2, .ref q3, .ref q4, .ref q5, .ref q6, .ref q7, .null, .null, .null, .null])), (q1, .inl (cA, 4, .inl (fun _ => 0))), (q2, .inl (cA, 32, .inl (fun _ => 0))), (q3, .inl (cA, 32, .inl (fun _ => 0))), (q4, .inl (cA, 32, .inl (fun _ => 0))), (q5, .inl (cA, 32, .inl (fun _ => 0))), (q6, .inl (cA, 20, .inl (fun _ => 0))), (q7, .inl (cA, 160, .inl (fun _ => 0)))] H := hP
  have hD : va_D A [(h0, .inr (0, [.int 0, .int 0, .int 0, .ref q1, .ref q2, .ref q3, .ref q4, .ref q5, .ref q6, .ref q7, .null, .null, .null, .null])), (q1, .inl (cA, 4, .inl (fun _ => 0))), (q2, .inl (cA, 32, .inl (fun _ => 0))), (q3, .inl (cA, 32, .inl (fun _ => 0))), (q4, .inl (cA, 32, .inl (fun _ => 0))), (q5, .inl (cA, 32, .inl (fun _ => 0))), (q6, .inl (cA, 20, .inl (fun _ => 0))), (q7, .inl (cA, 160, .inl (fun _ => 0)))] := hD
  refine lv_aload_n hx hb dX0_init_60 rfl (lv_at hl 0 rfl) ?_
  refine lv_sipush (v := 160) hx hb dX0_init_61 (by decide) ?_
  refine va_newa (atype := .int) (ty := .int) (N' := 160) (a0 := (160, .inl (fun _ => 0))) hx hb (hts _ wd_aI) rfl hK hP hD hS hA (fun _ => rfl) (by decide +kernel) (by decide +kernel) (by decide) (Nat.le_of_ble_eq_true rfl) (Nat.le_of_ble_eq_true rfl) dX0_init_64 (fun q8 cA H hKn hP hD hS => ?_)
  obtain rfl := cA_eq hK hKn
  refine W.widen (k := 8) (n := 472) (by omega) (by omega) ?_
  refine va_putF (D := D) (ci := 0) (v := .ref q8) (ty := .array .int) (C := RX0) (T := TX0) (N := 14) hx hb hts igX0 tyX0 tyX0_ok nmX0 hown hK hP hD hS 0 rfl rfl 10 (by decide) (hts _ fkX0_33) (fun _ h9 => h9) rfl hin rfl (by decide +kernel) rfl rfl (Nat.le_of_ble_eq_true rfl) dX0_init_66 (fun H locs hP hD hS => ?_)
  have hP : va_P D cls3 [(h0, .inr (0, [.int 0, .int 0, .int 0, .ref q1, .ref q2, .ref q3, .ref q4, .ref q5, .ref q6, .ref q7, .ref q8, .null, .null, .null])), (q1, .inl (cA, 4, .inl (fun _ => 0))), (q2, .inl (cA, 32, .inl (fun _ => 0))), (q3, .inl (cA, 32, .inl (fun _ => 0))), (q4, .inl (cA, 32, .inl (fun _ => 0))), (q5, .inl (cA, 32, .inl (fun _ => 0))), (q6, .inl (cA, 20, .inl (fun _ => 0))), (q7, .inl (cA, 160, .inl (fun _ => 0))), (q8, .inl (cA, 160, .inl (fun _ => 0)))] H := hP
  have hD : va_D A [(h0, .inr (0, [.int 0, .int 0, .int 0, .ref q1, .ref q2, .ref q3, .ref q4, .ref q5, .ref q6, .ref q7, .ref q8, .null, .null, .null])), (q1, .inl (cA, 4, .inl (fun _ => 0))), (q2, .inl (cA, 32, .inl (fun _ => 0))), (q3, .inl (cA, 32, .inl (fun _ => 0))), (q4, .inl (cA, 32, .inl (fun _ => 0))), (q5, .inl (cA, 32, .inl (fun _ => 0))), (q6, .inl (cA, 20, .inl (fun _ => 0))), (q7, .inl (cA, 160, .inl (fun _ => 0))), (q8, .inl (cA, 160, .inl (fun _ => 0)))] := hD
  refine lv_aload_n hx hb dX0_init_69 rfl (lv_at hl 0 rfl) ?_
  refine lv_sipush (v := 160) hx hb dX0_init_70 (by decide) ?_
  refine va_newa (atype := .int) (ty := .int) (N' := 160) (a0 := (160, .inl (fun _ => 0))) hx hb (hts _ wd_aI) rfl hK hP hD hS hA (fun _ => rfl) (by decide +kernel) (by decide +kernel) (by decide) (Nat.le_of_ble_eq_true rfl) (Nat.le_of_ble_eq_true rfl) dX0_init_73 (fun q9 cA H hKn hP hD hS => ?_)
  obtain rfl := cA_eq hK hKn
  refine W.widen (k := 9) (n := 632) (by omega) (by omega) ?_
  refine va_putF (D := D) (ci := 0) (v := .ref q9) (ty := .array .int) (C := RX0) (T := TX0) (N := 14) hx hb hts igX0 tyX0 tyX0_ok nmX0 hown hK hP hD hS 0 rfl rfl 11 (by decide) (hts _ fkX0_36) (fun _ h9 => h9) rfl hin rfl (by decide +kernel) rfl rfl (Nat.le_of_ble_eq_true rfl) dX0_init_75 (fun H locs hP hD hS => ?_)
  have hP : va_P D cls3 [(h0, .inr (0, [.int 0, .int 0, .int 0, .ref q1, .ref q2, .ref q3, .ref q4, .ref q5, .ref q6, .ref q7, .ref q8, .ref q9, .null, .null])), (q1, .inl (cA, 4, .inl (fun _ => 0))), (q2, .inl (cA, 32, .inl (fun _ => 0))), (q3, .inl (cA, 32, .inl (fun _ => 0))), (q4, .inl (cA, 32, .inl (fun _ => 0))), (q5, .inl (cA, 32, .inl (fun _ => 0))), (q6, .inl (cA, 20, .inl (fun _ => 0))), (q7, .inl (cA, 160, .inl (fun _ => 0))), (q8, .inl (cA, 160, .inl (fun _ => 0))), (q9, .inl (cA, 160, .inl (fun _ => 0)))] H := hP
  have hD : va_D A [(h0, .inr (0, [.int 0, .int 0, .int 0, .ref q1, .ref q2, .ref q3, .ref q4, .ref q5, .ref q6, .ref q7, .ref q8, .ref q9, .null, .null])), (q1, .inl (cA, 4, .inl (fun _ => 0))), (q2, .inl (cA, 32, .inl (fun _ => 0))), (q3, .inl (cA, 32, .inl (fun _ => 0))), (q4, .inl (cA, 32, .inl (fun _ => 0))), (q5, .inl (cA, 32, .inl (fun _ => 0))), (q6, .inl (cA, 20, .inl (fun _ => 0))), (q7, .inl (cA, 160, .inl (fun _ => 0))), (q8, .inl (cA, 160, .inl (fun _ => 0))), (q9, .inl (cA, 160, .inl (fun _ => 0)))] := hD
  refine lv_aload_n hx hb dX0_init_78 rfl (lv_at hl 0 rfl) ?_
  refine lv_sipush (v := 640) hx hb dX0_init_79 (by decide) ?_
  refine va_newa (atype := .int) (ty := .int) (N' := 640) (a0 := (640, .inl (fun _ => 0))) hx hb (hts _ wd_aI) rfl hK hP hD hS hA (fun _ => rfl) (by decide +kernel) (by decide +kernel) (by decide) (Nat.le_of_ble_eq_true rfl) (Nat.le_of_ble_eq_true rfl) dX0_init_82 (fun q10 cA H hKn hP hD hS => ?_)
  obtain rfl := cA_eq hK hKn
  refine W.widen (k := 10) (n := 1272) (by omega) (by omega) ?_
  refine va_putF (D := D) (ci := 0) (v := .ref q10) (ty := .array .int) (C := RX0) (T := TX0) (N := 14) hx hb hts igX0 tyX0 tyX0_ok nmX0 hown hK hP hD hS 0 rfl rfl 12 (by decide) (hts _ fkX0_39) (fun _ h9 => h9) rfl hin rfl (by decide +kernel) rfl rfl (Nat.le_of_ble_eq_true rfl) dX0_init_84 (fun H locs hP hD hS => ?_)
  have hP : va_P D cls3 [(h0, .inr (0, [.int 0, .int 0, .int 0, .ref q1, .ref q2, .ref q3, .ref q4, .ref q5, .ref q6, .ref q7, .ref q8, .ref q9, .ref q10, .null])), (q1, .inl (cA, 4, .inl (fun _ => 0))), (q2, .inl (cA, 32, .inl (fun _ => 0))), (q3, .inl (cA, 32, .inl (fun _ => 0))), (q4, .inl (cA, 32, .inl (fun _ => 0))), (q5, .inl (cA, 32, .inl (fun _ => 0))), (q6, .inl (cA, 20, .inl (fun _ => 0))), (q7, .inl (cA, 160, .inl (fun _ => 0))), (q8, .inl (cA, 160, .inl (fun _ => 0))), (q9, .inl (cA, 160, .inl (fun _ => 0))), (q10, .inl (cA, 640, .inl (fun _ => 0)))] H := hP
  have hD : va_D A [(h0, .inr (0, [.int 0, .int 0, .int 0, .ref q1, .ref q2, .ref q3, .ref q4, .ref q5, .ref q6, .ref q7, .ref q8, .ref q9, .ref q10, .null])), (q1, .inl (cA, 4, .inl (fun _ => 0))), (q2, .inl (cA, 32, .inl (fun _ => 0))), (q3, .inl (cA, 32, .inl (fun _ => 0))), (q4, .inl (cA, 32, .inl (fun _ => 0))), (q5, .inl (cA, 32, .inl (fun _ => 0))), (q6, .inl (cA, 20, .inl (fun _ => 0))), (q7, .inl (cA, 160, .inl (fun _ => 0))), (q8, .inl (cA, 160, .inl (fun _ => 0))), (q9, .inl (cA, 160, .inl (fun _ => 0))), (q10, .inl (cA, 640, .inl (fun _ => 0)))] := hD
  refine lv_aload_n hx hb dX0_init_87 rfl (lv_at hl 0 rfl) ?_
  refine lv_bipush (v := 16) hx hb dX0_init_88 (by decide) ?_
  refine va_newa (atype := .int) (ty := .int) (N' := 16) (a0 := (16, .inl (fun _ => 0))) hx hb (hts _ wd_aI) rfl hK hP hD hS hA (fun _ => rfl) (by decide +kernel) (by decide +kernel) (by decide) (Nat.le_of_ble_eq_true rfl) (Nat.le_of_ble_eq_true rfl) dX0_init_90 (fun q11 cA H hKn hP hD hS => ?_)
  obtain rfl := cA_eq hK hKn
  refine W.widen (k := 11) (n := 1288) (by omega) (by omega) ?_
  refine va_putF (D := D) (ci := 0) (v := .ref q11) (ty := .array .int) (C := RX0) (T := TX0) (N := 14) hx hb hts igX0 tyX0 tyX0_ok nmX0 hown hK hP hD hS 0 rfl rfl 13 (by decide) (hts _ fkX0_42) (fun _ h9 => h9) rfl hin rfl (by decide +kernel) rfl rfl (Nat.le_of_ble_eq_true rfl) dX0_init_92 (fun H locs hP hD hS => ?_)
  have hP : va_P D cls3 [(h0, .inr (0, [.int 0, .int 0, .int 0, .ref q1, .ref q2, .ref q3, .ref q4, .ref q5, .ref q6, .ref q7, .ref q8, .ref q9, .ref q10, .ref q11])), (q1, .inl (cA, 4, .inl (fun _ => 0))), (q2, .inl (cA, 32, .inl (fun _ => 0))), (q3, .inl (cA, 32, .inl (fun _ => 0))), (q4, .inl (cA, 32, .inl (fun _ => 0))), (q5, .inl (cA, 32, .inl (fun _ => 0))), (q6, .inl (cA, 20, .inl (fun _ => 0))), (q7, .inl (cA, 160, .inl (fun _ => 0))), (q8, .inl (cA, 160, .inl (fun _ => 0))), (q9, .inl (cA, 160, .inl (fun _ => 0))), (q10, .inl (cA, 640, .inl (fun _ => 0))), (q11, .inl (cA, 16, .inl (fun _ => 0)))] H := hP
  have hD : va_D A [(h0, .inr (0, [.int 0, .int 0, .int 0, .ref q1, .ref q2, .ref q3, .ref q4, .ref q5, .ref q6, .ref q7, .ref q8, .ref q9, .ref q10, .ref q11])), (q1, .inl (cA, 4, .inl (fun _ => 0))), (q2, .inl (cA, 32, .inl (fun _ => 0))), (q3, .inl (cA, 32, .inl (fun _ => 0))), (q4, .inl (cA, 32, .inl (fun _ => 0))), (q5, .inl (cA, 32, .inl (fun _ => 0))), (q6, .inl (cA, 20, .inl (fun _ => 0))), (q7, .inl (cA, 160, .inl (fun _ => 0))), (q8, .inl (cA, 160, .inl (fun _ => 0))), (q9, .inl (cA, 160, .inl (fun _ => 0))), (q10, .inl (cA, 640, .inl (fun _ => 0))), (q11, .inl (cA, 16, .inl (fun _ => 0)))] := hD
  obtain ⟨ad, had⟩ : ∃ ad : Nat → Nat, ad = fun j => [h0, q1, q2, q3, q4, q5, q6, q7, q8, q9, q10, q11].getD j 0 := ⟨_, rfl⟩
  have hP : va_P D cls3 (wl W12 (ad, D, cA, cZ, cW) S00) H := by rw [had]; exact hP
  have hD : va_D A (wl W12 (ad, D, cA, cZ, cW) S00) := by rw [had]; exact hD
  have ha0 : ad 0 = h0 := by rw [had]; rfl
  have hAA : ∀ q, AA W12 (ad, D, cA, cZ, cW) q → A q := by
    rintro q ⟨k, hk, rfl⟩
    obtain ⟨j, -, hj⟩ := wl_at (g := (ad, D, cA, cZ, cW)) (S := S00) hk
    exact hD.2 j _ hj
  refine lv_aload_n hx hb dX0_init_95 rfl (lv_at hl 0 rfl) ?_
  refine lv_iconst (v := nI 3) hx hb dX0_init_96 (by decide +kernel) ?_
  refine lv_iconst (v := nI 2) hx hb dX0_init_97 (by decide +kernel) ?_
  refine W_callV (g := (ad, D, cA, cZ, cW)) (ks := W12) (S := S00) (o := 0) (av := [.inl (nI 3), .inl (nI 2)]) (nL := 1) (A0 := A) (H0 := s.heap) (rest := []) okX0_start lkX0_45 ⟨Nat.le_of_ble_eq_true rfl, Nat.le_of_ble_eq_true rfl⟩ rfl (Nat.le_of_ble_eq_true rfl) (by decide) isO_0 (c_X0_start inW12) dX0_init_98 ⟨Nat.le_of_ble_eq_true rfl, Nat.le_of_ble_eq_true rfl⟩ hx hb hml hown hts hK ⟨hP, ⟨hD.1, fun k q hk => ?_⟩, by decide⟩ hS hAA hl.1 (by rw [← ha0]; rfl) (fun r S' H1 locs1 hq hR hS => ?_)
  · exact wl_AA hk
  · obtain ⟨rfl, rfl⟩ := hq
    exact W.vret hx hb hr (fun t ht hW => ⟨⟨ad, rfl, trivial, ha0, by rw [ht]; exact hR.1, ⟨hR.2.1.1, fun k q hk => hAA _ (hR.2.1.2 k q hk)⟩⟩, hS.F ht⟩) hS.2.2 dX0_init_101
