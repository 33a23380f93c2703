theorem va_nd_of : ∀ {l : List Nat}, l.Nodup → va_nd l = true
  | [], _ => rfl
  | a :: l, h => by
    rw [List.nodup_cons] at h
    show (decide (a ∉ l) && va_nd l) = true
    rw [decide_eq_true h.1, va_nd_of h.2]
    rfl
theorem join_last {A0 : Nat → Prop} {D : va_G} {X w1 : va_W} {en : Nat × va_E} {H H1 : Heap} (hP : va_P D cls3 (X ++ [en]) H) (hD : va_D A0 (X ++ [en])) (hk : ∀ q : Nat, q < H.size → ¬ va_A [en] H.size q → H1[q]? = H[q]?) (hF : ∀ q, va_A [en] H.size q → A0 q) (hP1 : va_P D cls3 w1 H1) (hD1 : va_D (va_A [en] H.size) w1) : va_P D cls3 (X ++ w1) H1 ∧ va_D A0 (X ++ w1) := by
  refine va_join (wc := [en]) hP hD [X.length] (List.range X.length) (by simp) ?_ (va_nd_of List.nodup_range) (fun i hi hj => ?_) hk hF hP1 hD1
  · apply List.ext_getElem
    · simp
    · intro i h1 h2
      have hi : i < X.length := by simpa using h2
      simp [List.getElem?_append_left hi, hi]
  · have := List.mem_range.mp hi
    have e : i = X.length := by simpa using hj
    omega
abbrev rmC : Room := { frames := 3, cells := 102, slots := 10460, locals := 120 }
abbrev xw (D : va_G) (cI cZ cW : ClassId) (ad : Nat → Nat) : va_W := wl W12 (ad, D, cI, cZ, cW) SW1
section NW
variable {p : Program} {l : Launch} {e : Env} {R : Room} {s : State} {mi : MethodId} {args : Array Value} {below : List Frame} {meth : Method} {c : Code} {H H0 : Heap} {locs : List Loc} {cells slots : Nat} {QQ : State → Prop}
variable {pc : Nat} {ls : Array Slot} {rest : List Value} {D : va_G} {cI cZ cW : ClassId} {A : Nat → Prop} {X : va_W}
/-- a new World, with its constructor's call -/
theorem W_newW (hx : p.tables.exec = Jvm.exec) (hb : c.code = cX1_init) (hml : c.maxLocals = 2) (hown : s.vm.findClass RX1 = some mi.cls) (hts : ∀ w ∈ gw, w.before args s = true) (hK : va_K D cls3 (tys3 cI cZ cW) s) (hP : va_P D cls3 X H) (hD : va_D A X) (hS : va_S A H0 H locs) (hA : ∀ q, H0.size ≤ q → A q) (hls : ls.size = 2) (hst : ((rest.map fun v => v.category).sum) + 1 ≤ 8) (hR : 3 ≤ R.frames ∧ 100 ≤ R.locals) (hc : cells + 12 ≤ R.cells) (hsl : slots + 1302 ≤ R.slots) (d1 : decode cX1_init pc = .ok (.new 9, 3)) (d2 : decode cX1_init (pc + 3) = .ok (.dup, 1)) (d3 : decode cX1_init (pc + 4) = .ok (.invokespecial 11, 3))
    (kk : ∀ (ad : Nat → Nat) (H1 : Heap) (locs1 : List Loc), va_P D cls3 (X ++ xw D cI cZ cW ad) H1 → va_D A (X ++ xw D cI cZ cW ad) → va_S A H0 H1 locs1 → W p l e R s mi args below meth c H1 locs1 (cells + 12) (slots + 1302) QQ (F0 mi (pc + 7) ls (.ref (ad 0) :: rest))) : W p l e R s mi args below meth c H locs cells slots QQ (F0 mi pc ls rest) := by
  refine va_new (ci := 0) (fs := fW0) (C := RX0) (T := TX0) (N := 14) hx hb hts igX0 tyX0 tyX0_ok hown (hts _ wd_cW) (hts _ wd_nW) (hts _ wd_iW) hK hP hD hS hA rfl (fun j hj => by
    rcases (show j = 0 ∨ j = 1 ∨ j = 2 ∨ j = 3 ∨ j = 4 ∨ j = 5 ∨ j = 6 ∨ j = 7 ∨ j = 8 ∨ j = 9 ∨ j = 10 ∨ j = 11 ∨ j = 12 ∨ j = 13 by omega) with rfl | rfl | rfl | rfl | rfl | rfl | rfl | rfl | rfl | rfl | rfl | rfl | rfl | rfl <;> rfl) (by omega) (by omega) d1 (fun q H hP hD hS => ?_)
  refine lv_dup hx hb d2 rfl ?_
  have hPc : va_P D cls3 [(q, .inr (0, fW0))] H := hP.sub (ws' := [(q, .inr (0, fW0))]) [X.length] (by simp)
  have hDc : va_D A [(q, .inr (0, fW0))] := hD.sub (ws' := [(q, .inr (0, fW0))]) [X.length] rfl (by simp)
  have hFc := va_free (wc := [(q, .inr (0, fW0))]) hD hS hA [X.length] (by simp)
  refine va_callv (va_runI (As := []) (rest := .ref q :: rest) (mc := 11) (ms := 1288) ⟨hx, hb, hml, hown, hts⟩ (c_init_W l D cI cZ cW q H.size) (cwI 0 hts (gwc_in (y := yX0_init) (m := (RX0, cX0_init, 1, none, 2)) wd_kW) rfl rfl rfl (hts _ wd_iW) (hts _ wd_lW) (hts _ wd_mW) rfl (by decide +kernel) ⟨hR.1, hR.2⟩) ⟨fun a U g mk q => by obtain ⟨q0, q1, qP, qK, qD⟩ := q; exact ⟨q0, q1, qP, va_K.moved (u := U) (U := U.calling g mk a) (Vm.Alike.refl U.vm) qK, qD⟩, fun U hU hW => ⟨rfl, by rw [hU], by rw [hU]; exact hPc, va_K.moved hW.alike hK, hDc.weaken (fun _ _ _ _ => trivial)⟩⟩ rfl rfl hls rfl (lv_room (by show 1 + (rest.map fun v => v.category).sum ≤ 8; omega)) d3 ⟨by omega, by omega⟩) hS (fun q _ h => hFc q h) hFc (fun ad t H1 locs ht hvm hw hB hz1 hk1 hS => ?_)
  obtain ⟨ha0, hP1, hD1⟩ := hB
  rw [ht] at hP1
  obtain ⟨hP, hD⟩ := join_last hP hD hk1 hFc hP1 hD1
  have := kk ad H1 locs hP hD hS
  rw [ha0] at this
  exact W.widen (by omega) (by omega) this
end NW
