abbrev fM0 : List Value := [.null, .null, .int 0, .null, .null, .int 0, .null, .null, .null, .null]
abbrev SM1 : St := sr S00 104 (fun i => if i = 0 then nI 3 else if i = 1 then nI 2 else 0)
abbrev rmM : Room := { frames := 1, cells := 8, slots := 10131, locals := 40 }
set_option maxHeartbeats 4000000 in
set_option maxRecDepth 100000 in
/-- the reference is made -/
theorem c_init_M (l : Launch) (D : va_G) (cI cZ cW : ClassId) (h0 sz : Nat) : Met l yX2_init (.code yX2_init cX2_init 1 none :: gw) rmM (va_Pc [.ref h0] (fun U => U.heap.size = sz ∧ va_P D cls3 [(h0, .inr (2, fM0))] U.heap ∧ va_K D cls3 (tys3 cI cZ cW) U ∧ va_D (fun _ => True) [(h0, .inr (2, fM0))])) (va_Qv (fun _ : Nat → Nat => True) (fun ad t => ad 103 = h0 ∧ va_P D cls3 (wl M9 (ad, D, cI, cZ, cW) SM1) t.heap ∧ va_D (va_A [(h0, .inr (2, fM0))] sz) (wl M9 (ad, D, cI, cZ, cW) SM1)) (va_A [(h0, .inr (2, fM0))] sz)) 8 10131 (va_A [(h0, .inr (2, fM0))] sz) := by
  refine Met.ofW (cc := cX2_init) (maxL := 1) (ret := none) (by decide) rfl ?_
  intro p e s m args below meth c s₁ B hml hv
  obtain ⟨rfl, hsz, hP, hK, hD0⟩ := hv
  have hx := B.exec
  have hb := B.bytes
  have hr := B.returns
  have hts0 := atoms_spec (ws := .code yX2_init cX2_init 1 none :: gw) B.pre
  have hts : ∀ w ∈ gw, w.before _ s = true := fun w hw => hts0 w (List.mem_cons_of_mem _ hw)
  have hown : s.vm.findClass RX2 = some m.cls := findClass_of_methodNamed B.named
  have hlocks := B.notSynchronized
  have hin : meth.name = "<init>" := (name_of_methodNamed B.named B.method).1
  subst hsz
  have hD := hD0.self (sz := s.heap.size)
  generalize hAe : va_A [(h0, .inr (2, fM0))] s.heap.size = A at hD ⊢
  have hA : ∀ q : Nat, s.heap.size ≤ q → A q := fun q h => by rw [← hAe]; exact Or.inr h
  have hS : va_S A s.heap s.heap [] := va_S.rf
  have hl := lv_entry ([.ref h0]) (n := 1) (Nat.le_of_ble_eq_true rfl)
  rw [lg_entry_eq]
  generalize (lg_sl ([.ref h0]) ++ List.replicate (1 - (lg_sl ([.ref h0])).length) Slot.unset).toArray = ls at hl ⊢
  have hl : lv_has ls 1 [(0, .ref h0)] := hl
  refine lv_aload_n hx hb dX2_init_0 rfl (lv_at hl 0 rfl) ?_
  refine W.objInit hx hb hown (hts _ wd_o2) (hts _ wd_oi) (hts _ wd_oc) rfl (by rw [hml]; exact hl.1) rfl dX2_init_1 (Nat.le_of_ble_eq_true rfl) (Nat.le_of_ble_eq_true rfl) ?_
  refine W.eq (g2 := F0 m 4 ls []) rfl ?_
  refine lv_aload_n hx hb dX2_init_4 rfl (lv_at hl 0 rfl) ?_
  refine lv_sipush (v := 1263) hx hb dX2_init_5 (by decide +kernel) ?_
  refine va_newa (atype := .int) (ty := .int) (N' := 1263) (a0 := (1263, .inl (fun _ => 0))) hx hb (hts _ wd_aI) rfl hK hP hD hS hA (fun _ => rfl) (by decide +kernel) (by decide +kernel) (by decide) (Nat.le_of_ble_eq_true rfl) (Nat.le_of_ble_eq_true rfl) dX2_init_8 (fun q1 cA H hKn hP hD hS => ?_)
  obtain rfl := cA_eq hK hKn
  refine W.widen (k := 1) (n := 1263) (by omega) (by omega) ?_
  refine va_putF (D := D) (ci := 2) (v := .ref q1) (ty := .array .int) (C := RX2) (T := TX2) (N := 10) hx hb hts igX2 tyX2 tyX2_ok nmX2 hown hK hP hD hS 0 rfl rfl 0 (by decide) (hts _ fkX2_7) (fun _ h9 => h9) rfl hin rfl (by decide +kernel) rfl rfl (Nat.le_of_ble_eq_true rfl) dX2_init_10 (fun H locs hP hD hS => ?_)
  refine lv_aload_n hx hb dX2_init_13 rfl (lv_at hl 0 rfl) ?_
  refine lv_sipush (v := 6315) hx hb dX2_init_14 (by decide +kernel) ?_
  refine va_newa (atype := .int) (ty := .int) (N' := 6315) (a0 := (6315, .inl (fun _ => 0))) hx hb (hts _ wd_aI) rfl hK hP hD hS hA (fun _ => rfl) (by decide +kernel) (by decide +kernel) (by decide) (Nat.le_of_ble_eq_true rfl) (Nat.le_of_ble_eq_true rfl) dX2_init_17 (fun q2 cA H hKn hP hD hS => ?_)
  obtain rfl := cA_eq hK hKn
  refine W.widen (k := 2) (n := 7578) (by omega) (by omega) ?_
  refine va_putF (D := D) (ci := 2) (v := .ref q2) (ty := .array .int) (C := RX2) (T := TX2) (N := 10) hx hb hts igX2 tyX2 tyX2_ok nmX2 hown hK hP hD hS 0 rfl rfl 1 (by decide) (hts _ fkX2_13) (fun _ h9 => h9) rfl hin rfl (by decide +kernel) rfl rfl (Nat.le_of_ble_eq_true rfl) dX2_init_19 (fun H locs hP hD hS => ?_)
  refine lv_aload_n hx hb dX2_init_22 rfl (lv_at hl 0 rfl) ?_
  refine lv_sipush (v := 2526) hx hb dX2_init_23 (by decide +kernel) ?_
  refine va_newa (atype := .int) (ty := .int) (N' := 2526) (a0 := (2526, .inl (fun _ => 0))) hx hb (hts _ wd_aI) rfl hK hP hD hS hA (fun _ => rfl) (by decide +kernel) (by decide +kernel) (by decide) (Nat.le_of_ble_eq_true rfl) (Nat.le_of_ble_eq_true rfl) dX2_init_26 (fun q3 cA H hKn hP hD hS => ?_)
  obtain rfl := cA_eq hK hKn
  refine W.widen (k := 3) (n := 10104) (by omega) (by omega) ?_
  refine va_putF (D := D) (ci := 2) (v := .ref q3) (ty := .array .int) (C := RX2) (T := TX2) (N := 10) hx hb hts igX2 tyX2 tyX2_ok nmX2 hown hK hP hD hS 0 rfl rfl 3 (by decide) (hts _ fkX2_16) (fun _ h9 => h9) rfl hin rfl (by decide +kernel) rfl rfl (Nat.le_of_ble_eq_true rfl) dX2_init_28 (fun H locs hP hD hS => ?_)
  refine lv_aload_n hx hb dX2_init_31 rfl (lv_at hl 0 rfl) ?_
  refine lv_iconst (v := 2) hx hb dX2_init_32 (by decide +kernel) ?_
  refine va_newa (atype := .boolean) (ty := .boolean) (N' := 2) (a0 := (2, .inl (fun _ => 0))) hx hb (hts _ wd_aZ) rfl hK hP hD hS hA (fun _ => rfl) (by decide +kernel) (by decide +kernel) (by decide) (Nat.le_of_ble_eq_true rfl) (Nat.le_of_ble_eq_true rfl) dX2_init_33 (fun q4 cB H hKn hP hD hS => ?_)
  obtain rfl := cZ_eq hK hKn
  refine W.widen (k := 4) (n := 10106) (by omega) (by omega) ?_
  refine va_putF (D := D) (ci := 2) (v := .ref q4) (ty := .array .boolean) (C := RX2) (T := TX2) (N := 10) hx hb hts igX2 tyX2 tyX2_ok nmX2 hown hK hP hD hS 0 rfl rfl 4 (by decide) (hts _ fkX2_19) (fun _ h9 => h9) rfl hin rfl (by decide +kernel) rfl rfl (Nat.le_of_ble_eq_true rfl) dX2_init_35 (fun H locs hP hD hS => ?_)
  refine lv_aload_n hx hb dX2_init_38 rfl (lv_at hl 0 rfl) ?_
  refine lv_bipush (v := 6) hx hb dX2_init_39 (by decide +kernel) ?_
  refine va_newa (atype := .int) (ty := .int) (N' := 6) (a0 := (6, .inl (fun _ => 0))) hx hb (hts _ wd_aI) rfl hK hP hD hS hA (fun _ => rfl) (by decide +kernel) (by decide +kernel) (by decide) (Nat.le_of_ble_eq_true rfl) (Nat.le_of_ble_eq_true rfl) dX2_init_41 (fun q5 cA H hKn hP hD hS => ?_)
  obtain rfl := cA_eq hK hKn
  refine W.widen (k := 5) (n := 10112) (by omega) (by omega) ?_
  refine va_putF (D := D) (ci := 2) (v := .ref q5) (ty := .array .int) (C := RX2) (T := TX2) (N := 10) hx hb hts igX2 tyX2 tyX2_ok nmX2 hown hK hP hD hS 0 rfl rfl 6 (by decide) (hts _ fkX2_23) (fun _ h9 => h9) rfl hin rfl (by decide +kernel) rfl rfl (Nat.le_of_ble_eq_true rfl) dX2_init_43 (fun H locs hP hD hS => ?_)
  refine lv_aload_n hx hb dX2_init_46 rfl (lv_at hl 0 rfl) ?_
  refine lv_bipush (v := 6) hx hb dX2_init_47 (by decide +kernel) ?_
  refine va_newa (atype := .int) (ty := .int) (N' := 6) (a0 := (6, .inl (fun _ => 0))) hx hb (hts _ wd_aI) rfl hK hP hD hS hA (fun _ => rfl) (by decide +kernel) (by decide +kernel) (by decide) (Nat.le_of_ble_eq_true rfl) (Nat.le_of_ble_eq_true rfl) dX2_init_49 (fun q6 cA H hKn hP hD hS => ?_)
  obtain rfl := cA_eq hK hKn
  refine W.widen (k := 6) (n := 10118) (by omega) (by omega) ?_
  refine va_putF (D := D) (ci := 2) (v := .ref q6) (ty := .array .int) (C := RX2) (T := TX2) (N := 10) hx hb hts igX2 tyX2 tyX2_ok nmX2 hown hK hP hD hS 0 rfl rfl 7 (by decide) (hts _ fkX2_26) (fun _ h9 => h9) rfl hin rfl (by decide +kernel) rfl rfl (Nat.le_of_ble_eq_true rfl) dX2_init_51 (fun H locs hP hD hS => ?_)
  refine lv_aload_n hx hb dX2_init_54 rfl (lv_at hl 0 rfl) ?_
  refine lv_iconst (v := 4) hx hb dX2_init_55 (by decide +kernel) ?_
  refine va_newa (atype := .int) (ty := .int) (N' := 4) (a0 := (4, .inl (fun _ => 0))) hx hb (hts _ wd_aI) rfl hK hP hD hS hA (fun _ => rfl) (by decide +kernel) (by decide +kernel) (by decide) (Nat.le_of_ble_eq_true rfl) (Nat.le_of_ble_eq_true rfl) dX2_init_56 (fun q7 cA H hKn hP hD hS => ?_)
  obtain rfl := cA_eq hK hKn
  refine W.widen (k := 7) (n := 10122) (by omega) (by omega) ?_
  refine va_putF (D := D) (ci := 2) (v := .ref q7) (ty := .array .int) (C := RX2) (T := TX2) (N := 10) hx hb hts igX2 tyX2 tyX2_ok nmX2 hown hK hP hD hS 0 rfl rfl 8 (by decide) (hts _ fkX2_29) (fun _ h9 => h9) rfl hin rfl (by decide +kernel) rfl rfl (Nat.le_of_ble_eq_true rfl) dX2_init_58 (fun H locs hP hD hS => ?_)
  refine lv_aload_n hx hb dX2_init_61 rfl (lv_at hl 0 rfl) ?_
  refine lv_bipush (v := 9) hx hb dX2_init_62 (by decide +kernel) ?_
  refine va_newa (atype := .int) (ty := .int) (N' := 9) (a0 := (9, .inl (fun _ => 0))) hx hb (hts _ wd_aI) rfl hK hP hD hS hA (fun _ => rfl) (by decide +kernel) (by decide +kernel) (by decide) (Nat.le_of_ble_eq_true rfl) (Nat.le_of_ble_eq_true rfl) dX2_init_64 (fun q8 cA H hKn hP hD hS => ?_)
  obtain rfl := cA_eq hK hKn
  refine W.widen (k := 8) (n := 10131) (by omega) (by omega) ?_
  refine va_putF (D := D) (ci := 2) (v := .ref q8) (ty := .array .int) (C := RX2) (T := TX2) (N := 10) hx hb hts igX2 tyX2 tyX2_ok nmX2 hown hK hP hD hS 0 rfl rfl 9 (by decide) (hts _ fkX2_32) (fun _ h9 => h9) rfl hin rfl (by decide +kernel) rfl rfl (Nat.le_of_ble_eq_true rfl) dX2_init_66 (fun H locs hP hD hS => ?_)
  obtain ⟨ad, had⟩ : ∃ ad : Nat → Nat, ad = fun j => [h0, q1, q2, q3, q4, q5, q6, q7, q8].getD (j - 103) 0 := ⟨_, rfl⟩
  have hP : va_P D cls3 (wl M9 (ad, D, cA, cB, cW) S00) H := by rw [had]; exact hP
  have hD : va_D A (wl M9 (ad, D, cA, cB, cW) S00) := by rw [had]; exact hD
  have ha0 : ad 103 = h0 := by rw [had]; rfl
  have hAA : ∀ q, AA M9 (ad, D, cA, cB, cW) q → A q := by
    rintro q ⟨k, hk, rfl⟩
    obtain ⟨j, -, hj⟩ := wl_at (g := (ad, D, cA, cB, cW)) (S := S00) hk
    exact hD.2 j _ hj
  refine lv_aload_n hx hb dX2_init_69 rfl (lv_at hl 0 rfl) ?_
  refine lv_iconst (v := nI 3) hx hb dX2_init_70 (by decide +kernel) ?_
  refine lv_iconst (v := nI 2) hx hb dX2_init_71 (by decide +kernel) ?_
  refine W_callV (g := (ad, D, cA, cB, cW)) (ks := M9) (S := S00) (o := 103) (av := [.inl (nI 3), .inl (nI 2)]) (nL := 1) (A0 := A) (H0 := s.heap) (rest := []) okX2_start lkX2_35 ⟨Nat.le_of_ble_eq_true rfl, Nat.le_of_ble_eq_true rfl⟩ rfl (Nat.le_of_ble_eq_true rfl) (by decide) isO_103 (c_X2_start inM9) dX2_init_72 ⟨Nat.le_of_ble_eq_true rfl, Nat.le_of_ble_eq_true rfl⟩ hx hb hml hown hts hK ⟨hP, ⟨hD.1, fun k q hk => ?_⟩, by decide⟩ hS hAA hl.1 (by rw [← ha0]; rfl) (fun r S' H1 locs1 hq hR hS => ?_)
  · exact wl_AA hk
  · obtain ⟨rfl, rfl⟩ := hq
    exact W.vret hx hb hr (fun t ht hW => ⟨⟨ad, rfl, trivial, ha0, by rw [ht]; exact hR.1, ⟨hR.2.1.1, fun k q hk => hAA _ (hR.2.1.2 k q hk)⟩⟩, hS.F ht⟩) hS.2.2 dX2_init_75
