/-! all cells together -/
abbrev K112 : List Nat := [0, 1, 2, 3, 4, 5, 6, 7, 8, 9, 10, 11, 12, 13, 14, 15, 16, 17, 18, 19, 20, 21, 22, 23, 24, 25, 26, 27, 28, 29, 30, 31, 32, 33, 34, 35, 36, 37, 38, 39, 40, 41, 42, 43, 44, 45, 46, 47, 48, 49, 50, 51, 52, 53, 54, 55, 56, 57, 58, 59, 60, 61, 62, 63, 64, 65, 66, 67, 68, 69, 70, 71, 72, 73, 74, 75, 76, 77, 78, 79, 80, 81, 82, 83, 84, 85, 86, 87, 88, 89, 90, 91, 92, 93, 94, 95, 96, 97, 98, 99, 100, 101, 102, 103, 104, 105, 106, 107, 108, 109, 110, 111]
def adF (Af : Nat → Nat → Nat) (Bf am : Nat → Nat) : Nat → Nat := fun k => if k < 96 then Af (k / 12) (k % 12) else if k < 103 then Bf (k - 96) else am k
def S112 : St := fun k => if k < 96 then SW1 (k % 12) else if k < 103 then (fun _ => 0) else SM1 k
set_option maxRecDepth 100000 in
theorem in112 : ∀ k, k < 112 → k ∈ K112 := by decide +kernel
theorem lt112 : ∀ k, k ∈ K112 → k < 112 := by decide +kernel
theorem inC112 : InC K112 := fun k hk => in112 k (by rw [Nat.blt, Nat.ble_eq] at hk; omega)
theorem inM112 : InM K112 := fun k hk => in112 k (by rw [Bool.and_eq_true, Nat.blt, Nat.ble_eq, Nat.ble_eq] at hk; omega)
theorem P_set {D : va_G} {H : Heap} {ws : va_W} {i a : Nat} {e e' : va_E} (hP : va_P D cls3 ws H) (h : ws[i]? = some (a, e)) (hi : va_at D cls3 (a, e) H → va_at D cls3 (a, e') H) : va_P D cls3 (ws.set i (a, e')) H := by
  intro k q hk
  by_cases hki : i = k
  · subst hki
    have hl : i < ws.length := (List.getElem?_eq_some_iff.mp h).1
    rw [List.getElem?_set_self hl] at hk
    cases hk
    exact hi (hP i _ h)
  · rw [List.getElem?_set_ne hki] at hk
    exact hP k q hk
theorem ref_cong {D : va_G} {H : Heap} {a n : Nat} {cW : ClassId} {f f' : Nat → Option Nat} (h : ∀ i, i < n → f i = f' i) (hp : va_at D cls3 (a, .inl (cW, n, .inr (.inr (.inr (.inr f))))) H) : va_at D cls3 (a, .inl (cW, n, .inr (.inr (.inr (.inr f'))))) H := by
  show H[a]? = some (vp_cell _ _)
  rw [vp_cell_q, ← arrV_cong (f := fun j => va_rf (f j)) (fun i hi => by rw [h i hi])]
  exact hp
theorem P_app {D : va_G} {H : Heap} {X Y : va_W} (h : va_P D cls3 (X ++ Y) H) : va_P D cls3 X H ∧ va_P D cls3 Y H := by
  constructor
  · intro k q hk
    refine h k q ?_
    rw [List.getElem?_append_left (List.getElem?_eq_some_iff.mp hk).1]
    exact hk
  · intro k q hk
    refine h (X.length + k) q ?_
    rw [List.getElem?_append_right (by omega), show X.length + k - X.length = k by omega]
    exact hk
theorem P_one {D : va_G} {H : Heap} {q : Nat × va_E} (h : va_P D cls3 [q] H) : va_at D cls3 q H := h 0 q rfl
theorem P_wl {D : va_G} {H : Heap} {ks : List Nat} {g : GG} {S : St} (h : va_P D cls3 (wl ks g S) H) : ∀ k, k ∈ ks → va_at D cls3 (g.1 k, ct g (S k) k) H := fun k hk => by
  obtain ⟨j, -, hj⟩ := wl_at (g := g) (S := S) hk
  exact h j _ hj
set_option maxHeartbeats 8000000 in
set_option maxRecDepth 100000 in
theorem asm_P {D : va_G} {cI cZ cW : ClassId} {Af : Nat → Nat → Nat} {Bf am : Nat → Nat} {H : Heap} (hP : va_P D cls3 (rawC D cI cZ cW Af Bf ++ wl M9 (am, D, cI, cZ, cW) SM1) H) : ∀ k, k < 112 → va_at D cls3 (adF Af Bf am k, ct (adF Af Bf am, D, cI, cZ, cW) (S112 k) k) H := by
  unfold rawC at hP
  obtain ⟨hP, hm⟩ := P_app hP
  obtain ⟨hP, h6⟩ := P_app hP
  obtain ⟨hP, h5⟩ := P_app hP
  obtain ⟨hP, h4⟩ := P_app hP
  obtain ⟨hP, h3⟩ := P_app hP
  obtain ⟨hP, x7⟩ := P_app hP
  obtain ⟨hP, x6⟩ := P_app hP
  obtain ⟨hP, h2⟩ := P_app hP
  obtain ⟨hP, x5⟩ := P_app hP
  obtain ⟨hP, x4⟩ := P_app hP
  obtain ⟨hP, x3⟩ := P_app hP
  obtain ⟨hP, x2⟩ := P_app hP
  obtain ⟨hP, x1⟩ := P_app hP
  obtain ⟨hP, h1⟩ := P_app hP
  obtain ⟨h0, x0⟩ := P_app hP
  have hM := P_wl hm
  have hX0 := P_wl x0
  have hX1 := P_wl x1
  have hX2 := P_wl x2
  have hX3 := P_wl x3
  have hX4 := P_wl x4
  have hX5 := P_wl x5
  have hX6 := P_wl x6
  have hX7 := P_wl x7
  have h96 := P_one h0
  have h97 := ref_cong (f' := fun i => some (adF Af Bf am (12 * (1 + i)))) (fun i hi => by
    rcases (show i = 0 ∨ i = 1 ∨ i = 2 ∨ i = 3 ∨ i = 4 by omega) with rfl | rfl | rfl | rfl | rfl <;> rfl) (P_one h1)
  have h98 := ref_cong (f' := fun i => some (adF Af Bf am (12 * (6 + i)))) (fun i hi => by
    rcases (show i = 0 ∨ i = 1 by omega) with rfl | rfl <;> rfl) (P_one h2)
  have h99 := P_one h3
  have h100 := P_one h4
  have h101 := P_one h5
  have h102 := P_one h6
  intro k hk
  exact match k, hk with
  | 0, _ => hX0 0 (by decide)
  | 1, _ => hX0 1 (by decide)
  | 2, _ => hX0 2 (by decide)
  | 3, _ => hX0 3 (by decide)
  | 4, _ => hX0 4 (by decide)
  | 5, _ => hX0 5 (by decide)
  | 6, _ => hX0 6 (by decide)
  | 7, _ => hX0 7 (by decide)
  | 8, _ => hX0 8 (by decide)
  | 9, _ => hX0 9 (by decide)
  | 10, _ => hX0 10 (by decide)
  | 11, _ => hX0 11 (by decide)
  | 12, _ => hX1 0 (by decide)
  | 13, _ => hX1 1 (by decide)
  | 14, _ => hX1 2 (by decide)
  | 15, _ => hX1 3 (by decide)
  | 16, _ => hX1 4 (by decide)
  | 17, _ => hX1 5 (by decide)
  | 18, _ => hX1 6 (by decide)
  | 19, _ => hX1 7 (by decide)
  | 20, _ => hX1 8 (by decide)
  | 21, _ => hX1 9 (by decide)
  | 22, _ => hX1 10 (by decide)
  | 23, _ => hX1 11 (by decide)
  | 24, _ => hX2 0 (by decide)
  | 25, _ => hX2 1 (by decide)
  | 26, _ => hX2 2 (by decide)
  | 27, _ => hX2 3 (by decide)
  | 28, _ => hX2 4 (by decide)
  | 29, _ => hX2 5 (by decide)
  | 30, _ => hX2 6 (by decide)
  | 31, _ => hX2 7 (by decide)
  | 32, _ => hX2 8 (by decide)
  | 33, _ => hX2 9 (by decide)
  | 34, _ => hX2 10 (by decide)
  | 35, _ => hX2 11 (by decide)
  | 36, _ => hX3 0 (by decide)
  | 37, _ => hX3 1 (by decide)
  | 38, _ => hX3 2 (by decide)
  | 39, _ => hX3 3 (by decide)
  | 40, _ => hX3 4 (by decide)
  | 41, _ => hX3 5 (by decide)
  | 42, _ => hX3 6 (by decide)
  | 43, _ => hX3 7 (by decide)
  | 44, _ => hX3 8 (by decide)
  | 45, _ => hX3 9 (by decide)
  | 46, _ => hX3 10 (by decide)
  | 47, _ => hX3 11 (by decide)
  | 48, _ => hX4 0 (by decide)
  | 49, _ => hX4 1 (by decide)
  | 50, _ => hX4 2 (by decide)
  | 51, _ => hX4 3 (by decide)
  | 52, _ => hX4 4 (by decide)
  | 53, _ => hX4 5 (by decide)
  | 54, _ => hX4 6 (by decide)
  | 55, _ => hX4 7 (by decide)
  | 56, _ => hX4 8 (by decide)
  | 57, _ => hX4 9 (by decide)
  | 58, _ => hX4 10 (by decide)
  | 59, _ => hX4 11 (by decide)
  | 60, _ => hX5 0 (by decide)
  | 61, _ => hX5 1 (by decide)
  | 62, _ => hX5 2 (by decide)
  | 63, _ => hX5 3 (by decide)
  | 64, _ => hX5 4 (by decide)
  | 65, _ => hX5 5 (by decide)
  | 66, _ => hX5 6 (by decide)
  | 67, _ => hX5 7 (by decide)
  | 68, _ => hX5 8 (by decide)
  | 69, _ => hX5 9 (by decide)
  | 70, _ => hX5 10 (by decide)
  | 71, _ => hX5 11 (by decide)
  | 72, _ => hX6 0 (by decide)
  | 73, _ => hX6 1 (by decide)
  | 74, _ => hX6 2 (by decide)
  | 75, _ => hX6 3 (by decide)
  | 76, _ => hX6 4 (by decide)
  | 77, _ => hX6 5 (by decide)
  | 78, _ => hX6 6 (by decide)
  | 79, _ => hX6 7 (by decide)
  | 80, _ => hX6 8 (by decide)
  | 81, _ => hX6 9 (by decide)
  | 82, _ => hX6 10 (by decide)
  | 83, _ => hX6 11 (by decide)
  | 84, _ => hX7 0 (by decide)
  | 85, _ => hX7 1 (by decide)
  | 86, _ => hX7 2 (by decide)
  | 87, _ => hX7 3 (by decide)
  | 88, _ => hX7 4 (by decide)
  | 89, _ => hX7 5 (by decide)
  | 90, _ => hX7 6 (by decide)
  | 91, _ => hX7 7 (by decide)
  | 92, _ => hX7 8 (by decide)
  | 93, _ => hX7 9 (by decide)
  | 94, _ => hX7 10 (by decide)
  | 95, _ => hX7 11 (by decide)
  | 96, _ => h96
  | 97, _ => h97
  | 98, _ => h98
  | 99, _ => h99
  | 100, _ => h100
  | 101, _ => h101
  | 102, _ => h102
  | 103, _ => hM 103 (by decide)
  | 104, _ => hM 104 (by decide)
  | 105, _ => hM 105 (by decide)
  | 106, _ => hM 106 (by decide)
  | 107, _ => hM 107 (by decide)
  | 108, _ => hM 108 (by decide)
  | 109, _ => hM 109 (by decide)
  | 110, _ => hM 110 (by decide)
  | 111, _ => hM 111 (by decide)
  | k + 112, h => absurd h (by omega)
