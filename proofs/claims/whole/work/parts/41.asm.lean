/-! all cells together -/
abbrev K112 : List Nat := [0, 1, 2, 3, 4, 5, 6, 7, 8, 9, 10, 11, 12, 13, 14, 15, 16, 17, 18, 19, 20, 21, 22, 23, 24, 25, 26, 27, 28, 29, 30, 31, 32, 33, 34, 35, 36, 37, 38, 39, 40, 41, 42, 43, 44, 45, 46, 47, 48, 49, 50, 51, 52, 53, 54, 55, 56, 57, 58, 59, 60, 61, 62, 63, 64, 65, 66, 67, 68, 69, 70, 71, 72, 73, 74, 75, 76, 77, 78, 79, 80, 81, 82, 83, 84, 85, 86, 87, 88, 89, 90, 91, 92, 93, 94, 95, 96, 97, 98, 99, 100, 101, 102, 103, 104, 105, 106, 107, 108, 109, 110, 111]
def adF (Af : Nat → Nat → Nat) (Bf am : Nat → Nat) : Nat → Nat := fun k => if k < 96 then Af (k / 12) (k % 12) else if k < 103 then Bf (k - 96) else am k
def S112 : St := fun k => if k < 96 then SW1 (k % 12) else if k < 103 then (fun _ => 0) else SM1 k
set_option maxRecDepth 100000 in
theorem in112 : ∀ k, k < 112 → k ∈ K112 := by decide +kernel
theorem inC112 : InC K112 := fun k hk => in112 k (by rw [Nat.blt, Nat.ble_eq] at hk; omega)
theorem inM112 : InM K112 := fun k hk => in112 k (by rw [Bool.and_eq_true, Nat.blt, Nat.ble_eq, Nat.ble_eq] at hk; omega)
theorem P_set {D : va_G} {H : Heap} {ws : va_W} {i a : Nat} {e e' : va_E} (hP : va_P D cls3 ws H) (h : ws[i]? = some (a, e)) (hi : va_at D cls3 (a, e) H → va_at D cls3 (a, e') H) : va_P D cls3 (ws.set i (a, e')) H := by
  intro k q hk
  by_cases hki : i = k
  · subst hki
    have hl : i < ws.length := (List.getElem?_eq_some_iff.mp h).1
    rw [List.getElem?_set_self hl] at hk
    cases hk
    exact hi (hP i _ h)
  · rw [List.getElem?_set_ne hki] at hk
    exact hP k q hk
theorem ref_cong {D : va_G} {H : Heap} {a n : Nat} {cW : ClassId} {f f' : Nat → Option Nat} (h : ∀ i, i < n → f i = f' i) (hp : va_at D cls3 (a, .inl (cW, n, .inr (.inr (.inr (.inr f))))) H) : va_at D cls3 (a, .inl (cW, n, .inr (.inr (.inr (.inr f'))))) H := by
  show H[a]? = some (vp_cell _ _)
  rw [vp_cell_q, ← arrV_cong (f := fun j => va_rf (f j)) (fun i hi => by rw [h i hi])]
  exact hp
set_option maxHeartbeats 8000000 in
set_option maxRecDepth 100000 in
theorem asm {D : va_G} {cI cZ cW : ClassId} {Af : Nat → Nat → Nat} {Bf am : Nat → Nat} {H : Heap} {A0 : Nat → Prop} (hP : va_P D cls3 (rawC D cI cZ cW Af Bf ++ wl M9 (am, D, cI, cZ, cW) SM1) H) (hD : va_D A0 (rawC D cI cZ cW Af Bf ++ wl M9 (am, D, cI, cZ, cW) SM1)) : Rp K112 (adF Af Bf am, D, cI, cZ, cW) S112 H ∧ ∀ q, AA K112 (adF Af Bf am, D, cI, cZ, cW) q → A0 q := by
  have hP2 := P_set (i := 13) (e' := .inl (cW, 5, .inr (.inr (.inr (.inr (fun i => some (adF Af Bf am (12 * (1 + i))))))))) hP rfl (ref_cong (fun i hi => by
    rcases (show i = 0 ∨ i = 1 ∨ i = 2 ∨ i = 3 ∨ i = 4 by omega) with rfl | rfl | rfl | rfl | rfl <;> rfl))
  have hD2 := hD.set (p := 13) (e := .inl (cW, 5, .inr (.inr (.inr (.inr (fun i => some (adF Af Bf am (12 * (1 + i))))))))) rfl
  have hP3 := P_set (i := 74) (e' := .inl (cW, 2, .inr (.inr (.inr (.inr (fun i => some (adF Af Bf am (12 * (6 + i))))))))) hP2 rfl (ref_cong (fun i hi => by
    rcases (show i = 0 ∨ i = 1 by omega) with rfl | rfl <;> rfl))
  have hD3 := hD2.set (p := 74) (e := .inl (cW, 2, .inr (.inr (.inr (.inr (fun i => some (adF Af Bf am (12 * (6 + i))))))))) rfl
  have hP4 : va_P D cls3 (wl K112 (adF Af Bf am, D, cI, cZ, cW) S112) H := hP3.sub [1, 2, 3, 4, 5, 6, 7, 8, 9, 10, 11, 12, 14, 15, 16, 17, 18, 19, 20, 21, 22, 23, 24, 25, 26, 27, 28, 29, 30, 31, 32, 33, 34, 35, 36, 37, 38, 39, 40, 41, 42, 43, 44, 45, 46, 47, 48, 49, 50, 51, 52, 53, 54, 55, 56, 57, 58, 59, 60, 61, 62, 63, 64, 65, 66, 67, 68, 69, 70, 71, 72, 73, 75, 76, 77, 78, 79, 80, 81, 82, 83, 84, 85, 86, 87, 88, 89, 90, 91, 92, 93, 94, 95, 96, 97, 98, 0, 13, 74, 99, 100, 101, 102, 103, 104, 105, 106, 107, 108, 109, 110, 111] rfl
  have hD4 : va_D A0 (wl K112 (adF Af Bf am, D, cI, cZ, cW) S112) := hD3.sub [1, 2, 3, 4, 5, 6, 7, 8, 9, 10, 11, 12, 14, 15, 16, 17, 18, 19, 20, 21, 22, 23, 24, 25, 26, 27, 28, 29, 30, 31, 32, 33, 34, 35, 36, 37, 38, 39, 40, 41, 42, 43, 44, 45, 46, 47, 48, 49, 50, 51, 52, 53, 54, 55, 56, 57, 58, 59, 60, 61, 62, 63, 64, 65, 66, 67, 68, 69, 70, 71, 72, 73, 75, 76, 77, 78, 79, 80, 81, 82, 83, 84, 85, 86, 87, 88, 89, 90, 91, 92, 93, 94, 95, 96, 97, 98, 0, 13, 74, 99, 100, 101, 102, 103, 104, 105, 106, 107, 108, 109, 110, 111] (by decide +kernel) rfl
  refine ⟨⟨hP4, ⟨hD4.1, fun k q hk => wl_AA hk⟩, by decide +kernel⟩, ?_⟩
  rintro q ⟨k, hk, rfl⟩
  obtain ⟨j, -, hj⟩ := wl_at (g := (adF Af Bf am, D, cI, cZ, cW)) (S := S112) hk
  exact hD4.2 j _ hj
theorem Top_0 : Top S112 S112 := by
  refine ⟨?_, ⟨0, 0, by omega, by omega, nI_0.symm, nI_0.symm, nI_0.symm, fun j hj => by omega⟩, fun i hi => ?_, ⟨0, by omega, nI_0.symm, nI_0.symm, fun j hj => by omega⟩⟩
  · refine Cpl_cong (fun j hj => ?_) (fun i _ => rfl) (Cpl_start (S := S00) (n := 3) (e := 2) (by omega) (by omega) (by omega) (by omega))
    unfold S112
    rw [if_pos (by omega), Nat.mod_eq_of_lt (by omega)]
  · have e : S112 96 5 = 0 := rfl
    rw [e, b_0]
    exact ⟨rfl, fun h => by cases h⟩
