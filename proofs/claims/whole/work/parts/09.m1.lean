theorem c_X2_in {ks : List Nat} {S : St} {v a b : Int32} : Cn ks mX2_in yX2_in [.inl v, .inl a, .inl b] S (Ri (bI (decide (a ≤ v) && decide (v ≤ b))) S) := by
  refine cnS okX2_in 0 rfl ?_
  show Ev ks mX2_in 0 [some (.inl v), some (.inl a), some (.inl b)] [] S _
  refine ev_iload_n0 dX2_in_0 ?_
  refine ev_iload_n1 dX2_in_1 ?_
  first | refine ev_icmp_lt 14 (by decide) dX2_in_2 (fun h2 => ?_) (fun h2 => ?_)
  · refine ev_c0 dX2_in_14 ?_
    refine ev_zreturn zr0 rfl dX2_in_15 ?_
    trace_state; sorry
  · refine ev_iload_n0 dX2_in_5 ?_
    refine ev_iload_n2 dX2_in_6 ?_
    first | refine ev_icmp_gt 14 (by decide) dX2_in_7 (fun h7 => ?_) (fun h7 => ?_)
    · refine ev_c0 dX2_in_14 ?_
      refine ev_zreturn zr0 rfl dX2_in_15 ?_
      trace_state; sorry
    · refine ev_c1 dX2_in_10 ?_
      refine ev_goto 15 (by decide) dX2_in_11 ?_
      refine ev_zreturn zr1 rfl dX2_in_15 ?_
      trace_state; sorry
theorem c_X2_has {ks : List Nat} {S : St} {x : Int32} {c : Nat} (hc : c < 32) : Cn ks mX2_has yX2_has [.inl x, .inl (nI c)] S (Ri (bI (bt x c)) S) := by
  refine cnS okX2_has 0 rfl ?_
  show Ev ks mX2_has 0 [some (.inl x), some (.inl (nI c))] [] S _
  refine ev_iload_n0 dX2_has_0 ?_
  refine ev_iload_n1 dX2_has_1 ?_
  refine ev_ishr dX2_has_2 ?_
  refine ev_c1 dX2_has_3 ?_
  refine ev_iand dX2_has_4 ?_
  rw [nI_lit1, x_bit x c hc]
  refine ev_c1 dX2_has_5 ?_
  first | refine ev_icmp_ne 13 (by decide) dX2_has_6 (fun h6 => ?_) (fun h6 => ?_)
  · refine ev_c0 dX2_has_13 ?_
    refine ev_zreturn zr0 rfl dX2_has_14 ?_
    trace_state; sorry
  · refine ev_c1 dX2_has_9 ?_
    refine ev_goto 14 (by decide) dX2_has_10 ?_
    refine ev_zreturn zr1 rfl dX2_has_14 ?_
    trace_state; sorry
theorem c_X2_bits {ks : List Nat} {S : St} {x : Int32} : Cn ks mX2_bits yX2_bits [.inl x] S (Ri (nI (pcn x)) S) := by
  refine cnS okX2_bits 2 rfl ?_
  show Ev ks mX2_bits 0 [some (.inl x), none, none] [] S _
  have loop : ∀ f k, k + f = 32 → Ev ks mX2_bits 4 [some (.inl x), some (.inl (nI (fb_ct (bt x) k))), some (.inl (nI k))] [] S (Ri (nI (pcn x)) S) := by
    intro f
    induction f with
    | zero =>
      intro k hk
      refine ev_iload_n2 dX2_bits_4 ?_
      refine ev_bipush (nI 32) kb_32 dX2_bits_5 ?_
      first | refine ev_icmp_geN 32 (by omega) (by omega) (by decide) dX2_bits_7 (fun h7 => ?_) (fun h7 => by exfalso; omega) | refine ev_icmp_ge 32 (by decide) dX2_bits_7 (fun h7 => ?_) (fun h7 => by exfalso; omega)
      refine ev_iload_n1 dX2_bits_32 ?_
      refine ev_ireturn rfl dX2_bits_33 ?_
      trace_state; sorry
    | succ f ih =>
      intro k hk
      refine ev_iload_n2 dX2_bits_4 ?_
      refine ev_bipush (nI 32) kb_32 dX2_bits_5 ?_
      first | refine ev_icmp_geN 32 (by omega) (by omega) (by decide) dX2_bits_7 (fun h7 => by exfalso; omega) (fun h7 => ?_) | refine ev_icmp_ge 32 (by decide) dX2_bits_7 (fun h7 => by exfalso; omega) (fun h7 => ?_)
      refine ev_iload_n1 dX2_bits_10 ?_
      refine ev_iload_n0 dX2_bits_11 ?_
      refine ev_iload_n2 dX2_bits_12 ?_
      refine ev_cS2f okX2_has lkX2_39 (Nat.le_of_ble_eq_true rfl) (Nat.le_of_ble_eq_true rfl) (c_X2_has (by omega)) dX2_bits_13 ?_
      first | refine ev_if_eqB 23 (by decide) dX2_bits_16 (fun h16 => ?_) (fun h16 => ?_)
      · refine ev_c0 dX2_bits_23 ?_
        first | refine ev_iaddN dX2_bits_24 ?_ | refine ev_iadd dX2_bits_24 ?_
        refine ev_istore_n1 dX2_bits_25 ?_
        refine ev_iinc2 dX2_bits_26 ?_
        refine ev_goto 4 (by decide) dX2_bits_29 ?_
        trace_state; sorry
      · refine ev_c1 dX2_bits_19 ?_
        refine ev_goto 24 (by decide) dX2_bits_20 ?_
        first | refine ev_iaddN dX2_bits_24 ?_ | refine ev_iadd dX2_bits_24 ?_
        refine ev_istore_n1 dX2_bits_25 ?_
        refine ev_iinc2 dX2_bits_26 ?_
        refine ev_goto 4 (by decide) dX2_bits_29 ?_
        trace_state; sorry
  refine ev_c0 dX2_bits_0 ?_
  refine ev_istore_n1 dX2_bits_1 ?_
  refine ev_c0 dX2_bits_2 ?_
  refine ev_istore_n2 dX2_bits_3 ?_
  exact loop 32 0 rfl
