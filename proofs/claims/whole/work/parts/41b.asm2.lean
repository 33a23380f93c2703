theorem nd_perm {b0 b1 b2 : Nat} {X0 X1 X2 X3 X4 X5 X6 X7 R : List Nat} : List.Perm ([b0] ++ X0 ++ [b1] ++ X1 ++ X2 ++ X3 ++ X4 ++ X5 ++ [b2] ++ X6 ++ X7 ++ R) (X0 ++ X1 ++ X2 ++ X3 ++ X4 ++ X5 ++ X6 ++ X7 ++ [b0, b1, b2] ++ R) := List.perm_iff_count.mpr (fun x => by
  simp only [List.count_append, List.count_cons, List.count_nil]
  omega)
set_option maxHeartbeats 8000000 in
set_option maxRecDepth 100000 in
theorem asm {D : va_G} {cI cZ cW : ClassId} {Af : Nat → Nat → Nat} {Bf am : Nat → Nat} {H : Heap} {A0 : Nat → Prop} (hP : va_P D cls3 (rawC D cI cZ cW Af Bf ++ wl M9 (am, D, cI, cZ, cW) SM1) H) (hD : va_D A0 (rawC D cI cZ cW Af Bf ++ wl M9 (am, D, cI, cZ, cW) SM1)) : Rp K112 (adF Af Bf am, D, cI, cZ, cW) S112 H ∧ ∀ q, AA K112 (adF Af Bf am, D, cI, cZ, cW) q → A0 q := by
  have hall := asm_P hP
  have e1 : (rawC D cI cZ cW Af Bf ++ wl M9 (am, D, cI, cZ, cW) SM1).map Prod.fst = [Bf 0] ++ W12.map (Af 0) ++ [Bf 1] ++ W12.map (Af 1) ++ W12.map (Af 2) ++ W12.map (Af 3) ++ W12.map (Af 4) ++ W12.map (Af 5) ++ [Bf 2] ++ W12.map (Af 6) ++ W12.map (Af 7) ++ ([Bf 3, Bf 4, Bf 5, Bf 6] ++ M9.map am) := rfl
  have e2 : K112.map (adF Af Bf am) = W12.map (Af 0) ++ W12.map (Af 1) ++ W12.map (Af 2) ++ W12.map (Af 3) ++ W12.map (Af 4) ++ W12.map (Af 5) ++ W12.map (Af 6) ++ W12.map (Af 7) ++ [Bf 0, Bf 1, Bf 2] ++ ([Bf 3, Bf 4, Bf 5, Bf 6] ++ M9.map am) := rfl
  have hpm : List.Perm ((rawC D cI cZ cW Af Bf ++ wl M9 (am, D, cI, cZ, cW) SM1).map Prod.fst) (K112.map (adF Af Bf am)) := by rw [e1, e2]; exact nd_perm
  generalize hraw : rawC D cI cZ cW Af Bf ++ wl M9 (am, D, cI, cZ, cW) SM1 = raw at *
  have hnd : (raw.map Prod.fst).Nodup := by
    refine List.pairwise_iff_getElem.mpr (fun i j hi hj hij heq => ?_)
    have hi2 : i < raw.length := by simpa using hi
    have hj2 : j < raw.length := by simpa using hj
    have := hD.1 i j _ _ (List.getElem?_eq_getElem hi2) (List.getElem?_eq_getElem hj2) (by simpa using heq)
    omega
  have hnd2 : (K112.map (adF Af Bf am)).Nodup := hpm.nodup_iff.mp hnd
  have hmem : ∀ k, k ∈ K112 → A0 (adF Af Bf am k) := fun k hk => by
    have h1 : adF Af Bf am k ∈ raw.map Prod.fst := hpm.mem_iff.mpr (List.mem_map.mpr ⟨k, hk, rfl⟩)
    obtain ⟨x, hx, hx2⟩ := List.mem_map.mp h1
    obtain ⟨j, hj⟩ := List.getElem?_of_mem hx
    rw [← hx2]
    exact hD.2 j x hj
  have key : ∀ (i : Nat) (q : Nat × va_E), (wl K112 (adF Af Bf am, D, cI, cZ, cW) S112)[i]? = some q → (K112.map (adF Af Bf am))[i]? = some q.1 ∧ ∃ k, k ∈ K112 ∧ q = (adF Af Bf am k, ct (adF Af Bf am, D, cI, cZ, cW) (S112 k) k) := fun i q hq => by
    unfold wl at hq
    rw [List.getElem?_map] at hq
    rw [List.getElem?_map]
    cases hk : K112[i]? with
    | none => rw [hk] at hq; cases hq
    | some k => rw [hk] at hq; cases hq; exact ⟨rfl, k, List.mem_of_getElem? hk, rfl⟩
  refine ⟨⟨fun i q hq => ?_, ⟨fun i j p q h1 h2 h3 => ?_, fun i q hq => wl_AA hq⟩, by decide +kernel⟩, ?_⟩
  · obtain ⟨-, k, hk, rfl⟩ := key i q hq
    exact hall k (lt112 k hk)
  · have a1 := (key i p h1).1
    have a2 := (key j q h2).1
    rw [← h3] at a2
    exact nodup_at hnd2 a1 a2
  · rintro q ⟨k, hk, rfl⟩
    exact hmem k hk
theorem Top_0 : Top S112 S112 := by
  refine ⟨?_, ⟨0, 0, by omega, by omega, nI_0.symm, nI_0.symm, nI_0.symm, fun j hj => by omega⟩, fun i hi => ?_, ⟨0, by omega, nI_0.symm, nI_0.symm, fun j hj => by omega⟩⟩
  · refine Cpl_cong (fun j hj => ?_) (fun i _ => rfl) (Cpl_start (S := S00) (n := 3) (e := 2) (by omega) (by omega) (by omega) (by omega))
    unfold S112
    rw [if_pos (by omega), Nat.mod_eq_of_lt (by omega)]
  · have e : S112 96 5 = 0 := rfl
    rw [e, b_0]
    exact ⟨rfl, fun h => by cases h⟩
