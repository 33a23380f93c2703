/-! the system's cells by number: world a is 12a (the object) and 12a+1 .. 12a+11 (its arrays), a < 8 (0 now, 1..5 earlier, 6, 7 images);
96 the class's object, 97 earlier, 98 images, 99 seenSite, 100 seenReceipts, 101 keptBySet, 102 tally;
103 the reference's object, 104 now, 105 past, 106 images, 107 isKept, 108 seenSite, 109 seenMany, 110 kept, 111 tally -/
abbrev V : Type := Int32 ⊕ Nat
abbrev St : Type := Nat → Nat → Int32
abbrev GG : Type := (Nat → Nat) × va_G × ClassId × ClassId × ClassId
abbrev MD : Type := String × ByteArray × Nat × Option FieldType × Nat
def vl (g : GG) (v : V) : Value := match v with
  | .inl x => .int x
  | .inr k => .ref (g.1 k)
theorem vl_cat (g : GG) (v : V) : (vl g v).category = 1 := by cases v <;> rfl
abbrev cls3 : List vw_C := [(RX0, TX0, 14), (RX1, TX1, 11), (RX2, TX2, 10)]
abbrev tys (g : GG) : List (ClassId × FieldType) := [(g.2.2.1, .int), (g.2.2.2.1, .boolean), (g.2.2.2.2, .object "CarriedOrders$World")]
def wlen (j : Nat) : Nat := match j with
  | 1 => 4 | 2 => 32 | 3 => 32 | 4 => 32 | 5 => 32 | 6 => 20 | 7 => 160 | 8 => 160 | 9 => 160 | 10 => 640 | _ => 16
def alen (k : Nat) : Nat := match k with
  | 99 => 6 | 100 => 6 | 101 => 16 | 102 => 9 | 104 => 1263 | 105 => 6315 | 106 => 2526 | 107 => 2 | 108 => 6 | 109 => 6 | 110 => 4 | 111 => 9
  | k => wlen (k % 12)
/-- the cells that are int arrays -/
def isA (k : Nat) : Bool := (Nat.blt k 96 && !(Nat.beq (k % 12) 0)) || (Nat.ble 99 k && Nat.ble k 102) || (Nat.ble 104 k && Nat.ble k 111 && !(Nat.beq k 107))
/-- a World's fields -/
def fW (g : GG) (r : Nat → Int32) (k : Nat) : List Value := [.int (r 0), .int (r 1), .int (r 2), .ref (g.1 (k + 1)), .ref (g.1 (k + 2)), .ref (g.1 (k + 3)), .ref (g.1 (k + 4)), .ref (g.1 (k + 5)), .ref (g.1 (k + 6)), .ref (g.1 (k + 7)), .ref (g.1 (k + 8)), .ref (g.1 (k + 9)), .ref (g.1 (k + 10)), .ref (g.1 (k + 11))]
def fC (g : GG) (r : Nat → Int32) : List Value := [.ref (g.1 0), .ref (g.1 97), .int (r 2), .int (r 3), .ref (g.1 98), .int (r 5), .ref (g.1 99), .ref (g.1 100), .int (r 8), .ref (g.1 101), .ref (g.1 102)]
def fM (g : GG) (r : Nat → Int32) : List Value := [.ref (g.1 104), .ref (g.1 105), .int (r 2), .ref (g.1 106), .ref (g.1 107), .int (r 5), .ref (g.1 108), .ref (g.1 109), .ref (g.1 110), .ref (g.1 111)]
def ct (g : GG) (r : Nat → Int32) (k : Nat) : va_E :=
  bif isA k then .inl (g.2.2.1, alen k, .inl r) else
  bif Nat.blt k 96 then .inr (0, fW g r k) else
  bif Nat.beq k 96 then .inr (1, fC g r) else
  bif Nat.beq k 97 then .inl (g.2.2.2.2, 5, .inr (.inr (.inr (.inr (fun i => some (g.1 (12 * (1 + i)))))))) else
  bif Nat.beq k 98 then .inl (g.2.2.2.2, 2, .inr (.inr (.inr (.inr (fun i => some (g.1 (12 * (6 + i)))))))) else
  bif Nat.beq k 107 then .inl (g.2.2.2.1, 2, .inl r) else .inr (2, fM g r)
theorem ct_A {g : GG} {r : Nat → Int32} {k : Nat} (h : isA k = true) : ct g r k = .inl (g.2.2.1, alen k, .inl r) := by unfold ct; rw [h]; rfl
/-- an int array's contents beyond its length don't matter -/
def wl (ks : List Nat) (g : GG) (S : St) : va_W := ks.map fun k => (g.1 k, ct g (S k) k)
def AA (ks : List Nat) (g : GG) : Nat → Prop := fun q => ∃ k ∈ ks, g.1 k = q
def Rp (ks : List Nat) (g : GG) (S : St) (H : Heap) : Prop := va_P g.2.1 cls3 (wl ks g S) H ∧ va_D (AA ks g) (wl ks g S) ∧ ks.Nodup
/-- one place of the store -/
def st (S : St) (k i : Nat) (x : Int32) : St := fun k' => if k' = k then upd (S k) i x else S k'
def sr (S : St) (k : Nat) (r : Nat → Int32) : St := fun k' => if k' = k then r else S k'
theorem st_eq (S : St) (k i : Nat) (x : Int32) : st S k i x = sr S k (upd (S k) i x) := rfl
theorem sr_s (S : St) (k : Nat) (r : Nat → Int32) : sr S k r k = r := if_pos rfl
theorem sr_n {S : St} {k j : Nat} {r : Nat → Int32} (h : j ≠ k) : sr S k r j = S j := if_neg h
def rmv (n : Nat) : Room := { frames := n, cells := 0, slots := 0, locals := 40 * n }
def al (g : GG) : Nat → List (Option V) → List (Nat × Value)
  | _, [] => []
  | i, none :: t => al g (i + 1) t
  | i, some v :: t => (i, vl g v) :: al g (i + 1) t
theorem al_mem {g : GG} : ∀ {L : List (Option V)} {b : Nat} {q : Nat × Value}, q ∈ al g b L ↔ ∃ (j : Nat) (v : V), L[j]? = some (some v) ∧ q = (b + j, vl g v)
  | [], b, q => by simp [al]
  | none :: t, b, q => by
    rw [al, al_mem (L := t)]
    constructor
    · rintro ⟨j, v, h1, h2⟩
      exact ⟨j + 1, v, by simpa using h1, by rw [h2]; congr 1; omega⟩
    · rintro ⟨j, v, h1, h2⟩
      cases j with
      | zero => simp at h1
      | succ j => exact ⟨j, v, by simpa using h1, by rw [h2]; congr 1; omega⟩
  | some w :: t, b, q => by
    rw [al, List.mem_cons, al_mem (L := t)]
    constructor
    · rintro (h | ⟨j, v, h1, h2⟩)
      · exact ⟨0, w, rfl, by rw [h]; rfl⟩
      · exact ⟨j + 1, v, by simpa using h1, by rw [h2]; congr 1; omega⟩
    · rintro ⟨j, v, h1, h2⟩
      cases j with
      | zero =>
        simp at h1
        subst h1
        exact Or.inl h2
      | succ j => exact Or.inr ⟨j, v, by simpa using h1, by rw [h2]; congr 1; omega⟩
def lvr (g : GG) (n : Nat) (ls : Array Slot) (L : List (Option V)) : Prop := L.length = n ∧ lv_has ls n (al g 0 L)
theorem lvr_at {g : GG} {n : Nat} {ls : Array Slot} {L : List (Option V)} (h : lvr g n ls L) {i : Nat} {v : V} (hi : L[i]? = some (some v)) : ls[i]? = some (.val (vl g v)) := by
  have h1 := h.2.2.2 (i, vl g v) (al_mem.mpr ⟨i, v, hi, by simp⟩)
  exact h1
theorem lvr_set {g : GG} {n : Nat} {ls' : Array Slot} {L : List (Option V)} {i : Nat} {v : V} (hl : L.length = n) (hi : i < L.length)
    (h : lv_has ls' n ((i, vl g v) :: (al g 0 L).filter (fun q => !(q.1 == i) && !(q.1 + 1 == i && q.2.category == 2)))) : lvr g n ls' (L.set i (some v)) := by
  refine ⟨by rw [List.length_set]; exact hl, h.1, h.2.1, fun q hq => ?_⟩
  obtain ⟨j, w, h1, h2⟩ := al_mem.mp hq
  by_cases hj : j = i
  · subst hj
    rw [List.getElem?_set_self hi] at h1
    have h1 : v = w := Option.some.inj (Option.some.inj h1)
    subst h1
    refine h.2.2 q ?_
    rw [h2]
    simp
  · rw [List.getElem?_set_ne (Ne.symm hj)] at h1
    refine h.2.2 q (List.mem_cons_of_mem _ (List.mem_filter.mpr ⟨al_mem.mpr ⟨j, w, h1, h2⟩, ?_⟩))
    rw [h2]
    simp [vl_cat, hj]
def PQ (ks : List Nat) (g : GG) (Q : Option Int32 → St → Prop) : Array Value → State → Outcome → State → Prop := fun _ u oc t => (∃ (r : Option Int32) (S : St), oc = .returned (r.map Value.int) ∧ Q r S ∧ Rp ks g S t.heap ∧ va_K g.2.1 cls3 (tys g) t) ∧ va_F (AA ks g) u t
def Cx (g : GG) (p : Program) (s : State) (mi : MethodId) (args : Array Value) (meth : Method) (c : Code) (m : MD) : Prop :=
  p.tables.exec = Jvm.exec ∧ c.code = m.2.1 ∧ c.maxLocals = m.2.2.1 ∧ s.vm.findClass m.1 = some mi.cls ∧ meth.sig.returnType = m.2.2.2.1 ∧ meth.locks = false ∧ (∀ w ∈ gw, w.before args s = true) ∧ va_K g.2.1 cls3 (tys g) s
/-- from here the method comes to its end with Q, whatever the machine around it is -/
def Ev (ks : List Nat) (m : MD) (pc : Nat) (L : List (Option V)) (sk : List V) (S : St) (Q : Option Int32 → St → Prop) : Prop :=
  ∀ (l : Launch) (g : GG) (p : Program) (e : Env) (s : State) (mi : MethodId) (args : Array Value) (below : List Frame) (meth : Method) (c : Code) (H : Heap) (locs : List Loc) (ls : Array Slot),
    Cx g p s mi args meth c m → Rp ks g S H → va_S (AA ks g) s.heap H locs → lvr g m.2.2.1 ls L →
    W p l e (rmv m.2.2.2.2) s mi args below meth c H locs 0 0 (MQ below (PQ ks g Q) args s 0 0 (AA ks g)) (F0 mi pc ls (sk.map (vl g)))
/-- the contract of a method at given arguments and store -/
def Cn (ks : List Nat) (m : MD) (y : MethodName) (av : List V) (S : St) (Q : Option Int32 → St → Prop) : Prop :=
  ∀ (l : Launch) (g : GG), Met l y (.code y m.2.1 m.2.2.1 m.2.2.2.1 :: gw) (rmv m.2.2.2.2) (va_Pc (av.map (vl g)) (fun U => Rp ks g S U.heap ∧ va_K g.2.1 cls3 (tys g) U)) (PQ ks g Q) 0 0 (AA ks g)
theorem lg_sl_vl (g : GG) : ∀ (av : List V), lg_sl (av.map (vl g)) = av.map fun v => Slot.val (vl g v)
  | [] => rfl
  | v :: t => by
    have h := lg_sl_vl g t
    unfold lg_sl at h ⊢
    rw [List.map_cons, List.flatMap_cons, h, vl_cat]
    rfl
theorem args_al (g : GG) (k : Nat) : ∀ (av : List V) (i : Nat), lv_args i (av.map (vl g)) = al g i (av.map some ++ List.replicate k none)
  | [], i => by
    show [] = al g i (List.replicate k none)
    induction k generalizing i with
    | zero => rfl
    | succ k ih => rw [List.replicate_succ, al]; exact ih (i + 1)
  | v :: t, i => by
    rw [List.map_cons, lv_args, vl_cat, List.map_cons, List.cons_append, al]
    rw [← args_al g k t (i + 1)]
    rfl
theorem Cn.of {ks : List Nat} {m : MD} {y : MethodName} {av : List V} {S : St} {Q : Option Int32 → St → Prop} (hy : plainName y.cls = true) (hc : y.cls = m.1) (k : Nat) (hk : av.length + k = m.2.2.1) (h : Ev ks m 0 (av.map some ++ List.replicate k none) [] S Q) : Cn ks m y av S Q := by
  intro l g
  refine Met.ofW (cc := m.2.1) (maxL := m.2.2.1) (ret := m.2.2.2.1) hy rfl ?_
  intro p e s mi args below meth c s₁ B hml hv
  obtain ⟨rfl, hR, hK⟩ := hv
  have hts := atoms_spec (ws := .code y m.2.1 m.2.2.1 m.2.2.2.1 :: gw) B.pre
  have hown : s.vm.findClass m.1 = some mi.cls := hc ▸ findClass_of_methodNamed B.named
  have hl := lv_entry (av.map (vl g)) (n := m.2.2.1) (by rw [lg_sl_vl, List.length_map]; omega)
  rw [lg_entry_eq]
  generalize (lg_sl (av.map (vl g)) ++ List.replicate (m.2.2.1 - (lg_sl (av.map (vl g))).length) Slot.unset).toArray = ls at hl ⊢
  rw [args_al g k] at hl
  exact h l g p e s mi _ below meth c s.heap [] ls ⟨B.exec, B.bytes, hml, hown, B.returns, B.notSynchronized, fun w hw => hts w (List.mem_cons_of_mem _ hw), hK⟩ hR va_S.rf ⟨by simp; omega, hl⟩
