/-- what the tables say of a method that is called: its code, that it is there, how many it takes -/
def OkM (y : MethodName) (m : MD) (n : Nat) : Prop := Cond.code y m.2.1 m.2.2.1 m.2.2.2.1 ∈ gw ∧ Cond.initialized y.cls ∈ gw ∧ (y.cls ≠ "java/lang/invoke/MethodHandle" ∧ y.cls ≠ "java/lang/invoke/VarHandle" ∧ (parseMethodDescriptor y.desc).map (fun d => d.parameters.length) = some n) ∧ m.2.2.1 ≤ 21 ∧ plainName y.cls = true ∧ y.cls = m.1
def OkV (y : MethodName) (m : MD) (n : Nat) : Prop := OkM y m n ∧ Cond.instanceMethod y ∈ gw ∧ Cond.selects y.cls y y ∈ gw
def OkS (y : MethodName) (m : MD) (n : Nat) : Prop := OkM y m n ∧ Cond.static y ∈ gw
theorem gwc_in {y : MethodName} {m : MD} (h : Cond.code y m.2.1 m.2.2.1 m.2.2.2.1 ∈ gw) : GoodIn gw (.code y m.2.1 m.2.2.1 m.2.2.2.1 :: gw) := fun w hw => by
  rcases List.mem_cons.mp hw with rfl | hw
  · exact gw_in _ h
  · exact gw_in _ hw
/-- an object's class -/
def isO (k : Nat) (C : String) : Prop := ∀ (g : GG) (r : Nat → Int32), ∃ (ci : Nat) (fs : List Value) (q : vw_C), ct g r k = .inr (ci, fs) ∧ cls3[ci]? = some q ∧ q.1 = C
theorem ct_W {g : GG} {r : Nat → Int32} {k : Nat} (h : k < 96) (h0 : k % 12 = 0) : ct g r k = .inr (0, fW g r k) := by
  have h1 : Nat.blt k 96 = true := by rw [Nat.blt, Nat.ble_eq]; omega
  have h2 : isA k = false := by
    unfold isA
    rw [h1, h0]
    have h3 : Nat.ble 99 k = false := by rw [← Bool.not_eq_true, Nat.ble_eq]; omega
    have h4 : Nat.ble 104 k = false := by rw [← Bool.not_eq_true, Nat.ble_eq]; omega
    rw [h3, h4]
    rfl
  unfold ct
  rw [h2, h1]
  rfl
theorem isO_W {k : Nat} (h : k < 96) (h0 : k % 12 = 0) : isO k RX0 := fun _ _ => ⟨0, _, _, ct_W h h0, rfl, rfl⟩
theorem isO_0 : isO 0 RX0 := fun _ _ => ⟨0, _, _, rfl, rfl, rfl⟩
theorem isO_96 : isO 96 RX1 := fun _ _ => ⟨1, _, _, rfl, rfl, rfl⟩
theorem isO_103 : isO 103 RX2 := fun _ _ => ⟨2, _, _, rfl, rfl, rfl⟩
section CL
variable {p : Program} {l : Launch} {e : Env} {R : Room} {s : State} {mi : MethodId} {args : Array Value} {below : List Frame} {meth : Method} {c : Code} {H : Heap} {locs : List Loc} {cells slots : Nat} {QQ : State → Prop}
variable {pc : Nat} {ls : Array Slot} {rest st0 : List Value} {a : Array Value} {H0 : Heap}
/-- behind a call of a contract of ours -/
theorem cl_go {ks : List Nat} {g : GG} {A0 : Nat → Prop} {Q : Option Int32 → St → Prop} (hr : va_Run p l e R s mi args below meth c H locs cells slots 0 0 (F0 mi pc ls st0) rest (PQ ks g Q a) (AA ks g)) (hS : va_S A0 H0 H locs) (hA : ∀ q, AA ks g q → A0 q)
    (kk : ∀ (r : Option Int32) (S : St) (H1 : Heap) (locs1 : List Loc), Q r S → Rp ks g S H1 → va_S A0 H0 H1 locs1 → W p l e R s mi args below meth c H1 locs1 cells slots QQ (F0 mi (pc + 3) ls ((r.map Value.int).toList ++ rest))) : W p l e R s mi args below meth c H locs cells slots QQ (F0 mi pc ls st0) := by
  intro T hT X
  obtain ⟨v, st₀, t, T', L, h0, X', hL, e1, e2, ⟨⟨r, S, hv, hq, hR, hK⟩, hz, hk⟩, st⟩ := hr T hT X
  cases hv
  rw [h0] at hz hk
  obtain ⟨t2, a1, b1⟩ := kk r S T'.heap (locs ++ L) hq (by rw [e1]; exact hR)
    ⟨Nat.le_trans hS.1 (by rw [e1]; exact hz), fun q h1 h2 => by rw [e1, hk q (Nat.lt_of_lt_of_le h1 hS.1) (fun z => h2 (hA q z))]; exact hS.2.1 q h1 h2, fun q hq => by
      rcases List.mem_append.mp hq with h | h
      · exact hS.2.2 q h
      · exact hA _ (hL q h)⟩ T' rfl X'
  exact ⟨t2, st t2 a1, b1⟩
end CL
theorem cats (g : GG) : ∀ (sk : List V), ((sk.map (vl g)).map fun v => v.category).sum = sk.length
  | [] => rfl
  | v :: t => by
    have h := cats g t
    simp only [List.map_cons, List.sum_cons, vl_cat, List.length_cons]
    omega
theorem opt_vl (g : GG) (r : Option Int32) (sk : List V) : (r.map Value.int).toList ++ sk.map (vl g) = ((r.map Sum.inl).toList ++ sk).map (vl g) := by
  cases r <;> rfl
/-- a contract's start holds at a call -/
theorem pre_blind {ks : List Nat} {g : GG} {S : St} {av : List V} : FrameBlind (va_Pc (av.map (vl g)) (fun U => Rp ks g S U.heap ∧ va_K g.2.1 cls3 (tys g) U)) := fun a U gg mk q => by
  obtain ⟨q0, q1, q2⟩ := q
  exact ⟨q0, q1, va_K.moved (u := U) (U := U.calling gg mk a) (Vm.Alike.refl U.vm) q2⟩
section EV
variable {ks : List Nat} {m : MD} {pc : Nat} {L : List (Option V)} {sk : List V} {S : St} {Q : Option Int32 → St → Prop}
theorem ev_callV {y : MethodName} {m' : MD} {idx n o : Nat} {av : List V} {Q' : Option Int32 → St → Prop} (ok : OkV y m' n) (hl : Cond.methodLink m.1 idx y ∈ gw) (hlev : m'.2.2.2.2 < m.2.2.2.2) (hn : av.length = n) (hs : sk.length ≤ 8) (ho : o ∈ ks) (hO : isO o y.cls)
    (hC : Cn ks m' y (.inr o :: av) S Q') (hd : decode m.2.1 pc = .ok (.invokevirtual idx, 3)) (kk : ∀ (r : Option Int32) (S' : St), Q' r S' → Ev ks m (pc + 3) L ((r.map Sum.inl).toList ++ sk) S' Q) : Ev ks m pc L (av.reverse ++ .inr o :: sk) S Q := by
  intro l g p e s mi args below meth c H locs ls C0 R1 S1 L1
  obtain ⟨⟨o1, o2, o3, o4, o5, o6⟩, o7, o8⟩ := ok
  have ht := C0.2.2.2.2.2.2.1
  have hK := C0.2.2.2.2.2.2.2
  obtain ⟨j, h1, h2⟩ := wl_at (g := g) (S := S) ho
  obtain ⟨ci, fs, q, h3, h4, h5⟩ := hO g (S o)
  rw [h3] at h2
  have hrecv := va_recv hK R1.1 h4 h2
  rw [h5] at hrecv
  have hrun := va_runV (e := e) (below := below) (meth := meth) (locs := locs) (cells := 0) (slots := 0) (R := rmv m.2.2.2.2) (n := n) (As := av.map (vl g)) (rest := sk.map (vl g)) (g := F0 mi pc ls ((av.reverse ++ .inr o :: sk).map (vl g))) (cc := m.2.1) (nL := m.2.2.1) (Ts := gw) (own := m.1) (index := idx) ⟨C0.1, C0.2.1, C0.2.2.1, C0.2.2.2.1, ht⟩ (hC l g)
    ⟨callB_of (Ts := gw) (bytes := m'.2.1) (maxL := m'.2.2.1) (ret := m'.2.2.2.1) n ht (gwc_in o1) rfl rfl rfl (ht _ o2) (ht _ hl) o3 ⟨hlev, by show 8 + (m'.2.2.1 + 11) + 40 * m'.2.2.2.2 ≤ 40 * m.2.2.2.2; omega⟩, ht _ o7, ht _ o8⟩
    ⟨pre_blind, hrecv, fun U hU hW => ⟨rfl, by rw [hU]; exact R1, va_K.moved hW.alike hK⟩⟩ rfl (by rw [List.length_map]; exact hn) L1.2.1 (by rw [List.map_append, List.map_reverse]; rfl) (lv_room (by rw [cats]; exact hs)) hd ⟨Nat.zero_le _, Nat.zero_le _⟩
  refine cl_go hrun S1 (fun q h => h) (fun r S' H1 locs1 hq hR hS => ?_)
  rw [opt_vl]
  exact kk r S' hq l g p e s mi args below meth c H1 locs1 ls C0 hR hS L1
theorem ev_callS {y : MethodName} {m' : MD} {idx n : Nat} {av : List V} {Q' : Option Int32 → St → Prop} (ok : OkS y m' n) (hl : Cond.methodLink m.1 idx y ∈ gw) (hlev : m'.2.2.2.2 < m.2.2.2.2) (hn : av.length = n) (hs : sk.length ≤ 8)
    (hC : Cn ks m' y av S Q') (hd : decode m.2.1 pc = .ok (.invokestatic idx, 3)) (kk : ∀ (r : Option Int32) (S' : St), Q' r S' → Ev ks m (pc + 3) L ((r.map Sum.inl).toList ++ sk) S' Q) : Ev ks m pc L (av.reverse ++ sk) S Q := by
  intro l g p e s mi args below meth c H locs ls C0 R1 S1 L1
  obtain ⟨⟨o1, o2, o3, o4, o5, o6⟩, o7⟩ := ok
  have ht := C0.2.2.2.2.2.2.1
  have hK := C0.2.2.2.2.2.2.2
  have hrun := va_runS (e := e) (below := below) (meth := meth) (locs := locs) (cells := 0) (slots := 0) (R := rmv m.2.2.2.2) (n := n) (As := av.map (vl g)) (rest := sk.map (vl g)) (g := F0 mi pc ls ((av.reverse ++ sk).map (vl g))) (cc := m.2.1) (nL := m.2.2.1) (Ts := gw) (own := m.1) (index := idx) ⟨C0.1, C0.2.1, C0.2.2.1, C0.2.2.2.1, ht⟩ (hC l g)
    ⟨callB_of (Ts := gw) (bytes := m'.2.1) (maxL := m'.2.2.1) (ret := m'.2.2.2.1) n ht (gwc_in o1) rfl rfl rfl (ht _ o2) (ht _ hl) o3 ⟨hlev, by show 8 + (m'.2.2.1 + 11) + 40 * m'.2.2.2.2 ≤ 40 * m.2.2.2.2; omega⟩, ht _ o7⟩
    ⟨pre_blind, fun U hU hW => ⟨rfl, by rw [hU]; exact R1, va_K.moved hW.alike hK⟩⟩ rfl (by rw [List.length_map]; exact hn) L1.2.1 (by rw [List.map_append, List.map_reverse]) (lv_room (by rw [cats]; exact hs)) hd ⟨Nat.zero_le _, Nat.zero_le _⟩
  refine cl_go hrun S1 (fun q h => h) (fun r S' H1 locs1 hq hR hS => ?_)
  rw [opt_vl]
  exact kk r S' hq l g p e s mi args below meth c H1 locs1 ls C0 hR hS L1
end EV
/-- the answer, and what holds of the store then -/
def Gi (v : Int32) (P : St → Prop) : Option Int32 → St → Prop := fun r S => r = some v ∧ P S
def Gv (P : St → Prop) : Option Int32 → St → Prop := fun r S => r = none ∧ P S
/-- the answer; nothing has changed -/
def Ri (v : Int32) (S : St) : Option Int32 → St → Prop := fun r S' => r = some v ∧ S' = S
def Rv (S : St) : Option Int32 → St → Prop := fun r S' => r = none ∧ S' = S
