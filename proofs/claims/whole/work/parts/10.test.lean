set_option maxHeartbeats 4000000 in
set_option maxRecDepth 100000 in
theorem c_X11_isWithin {l : Launch} {G : Gt} {ρ : Nat → Nat} {tc : Nat} {cl : Nat → Nat} {σ : Sig} {v b : Int} (hv : -2147483648 ≤ v ∧ v ≤ 2147483647) (hb : -2147483648 ≤ b ∧ b ≤ 2147483647) : MX l yX11_isWithin cX11_isWithin 2 (some .boolean) 0 0 G (NN tc) ρ (shp tc cl) [.int (iZ v), .int (iZ b)] σ (PE σ (b2 (0 ≤ v ∧ v < b))) := by
  refine MX_of [some (.int (iZ v)), some (.int (iZ b))] (by decide +kernel) rfl rfl (Nat.le_of_ble_eq_true rfl) ?_
  intro K hKl C T hRng
  subst hKl
  refine x_iload_n 1 C dX11_isWithin_0 rfl rfl rfl ?_
  refine x_if_lt 13 4 C dX11_isWithin_1 rfl rfl (by omega) (fun h1 => ?_) (fun h1 => ?_)
  · refine x_iconst 14 C dX11_isWithin_13 rfl ?_
    refine x_zret C T dX11_isWithin_14 (by omega) ?_
    exact PE_i (by unfold b2; split <;> omega) (by omega)
  refine x_iload_n 5 C dX11_isWithin_4 rfl rfl rfl ?_
  refine x_iload_n 6 C dX11_isWithin_5 rfl rfl rfl ?_
  refine x_icmp_ge 13 9 C dX11_isWithin_6 rfl rfl (by omega) (by omega) (fun h6 => ?_) (fun h6 => ?_)
  · refine x_iconst 14 C dX11_isWithin_13 rfl ?_
    refine x_zret C T dX11_isWithin_14 (by omega) ?_
    exact PE_i (by unfold b2; split <;> omega) (by omega)
  refine x_iconst 10 C dX11_isWithin_9 rfl ?_
  refine x_goto 14 C dX11_isWithin_10 rfl ?_
  refine x_zret C T dX11_isWithin_14 (by omega) ?_
  exact PE_i (by unfold b2; split <;> omega) (by omega)

set_option maxHeartbeats 4000000 in
set_option maxRecDepth 100000 in
theorem c_X11_high {l : Launch} {G : Gt} {ρ : Nat → Nat} {tc : Nat} {cl : Nat → Nat} {σ : Sig} {v : Int} (hv : -2147483648 ≤ v ∧ v ≤ 2147483647) : MX l yX11_high cX11_high 2 (some .int) 1 21 G (NN tc) ρ (shp tc cl) [.ref (ρ 0), .int (iZ v)] σ (PE σ (if 0 ≤ v ∧ v < 36 then σ 2 v.toNat else -2)) := by
  refine MX_of [some (.ref (ρ 0)), some (.int (iZ v))] (by decide +kernel) rfl rfl (Nat.le_of_ble_eq_true rfl) ?_
  intro K hKl C T hRng
  subst hKl
  refine x_iload_n 1 C dX11_high_0 rfl rfl rfl ?_
  refine x_bipush 3 C dX11_high_1 rfl rfl ?_
  refine x_callSe 6 C dX11_high_3 rfl (c_X11_isWithin (by omega) (by omega)) tb_2_214 tb_2_215 tb_1_1 tb_2_216 (na := 2) (by decide +kernel) rfl ⟨by decide, by decide⟩ rfl (Nat.le_of_ble_eq_true rfl) rfl (fun r3 => ?_)
  first
    | refine x_ifb_eq 21 9 C dX11_high_6 rfl rfl (fun h6 => ?_) (fun h6 => ?_)
    | refine x_if_eq 21 9 C dX11_high_6 rfl rfl (by omega) (fun h6 => ?_) (fun h6 => ?_)
  · refine x_bipush 23 C dX11_high_21 rfl rfl ?_
    refine x_iret C T dX11_high_23 ?_
    exact PE_i (by first | rw [if_pos (by omega)] | rw [if_neg (by omega)]) (by omega)
  refine x_aload_n 10 C dX11_high_9 rfl rfl rfl ?_
  refine x_getr (j := 0) 13 C rfl (lt79 (by decide)) rfl rfl (by decide) inT11 tb_2_173 rfl dX11_high_10 rfl ?_
  refine x_getr (j := 0) 16 C rfl (lt79 (by decide)) rfl rfl (by decide) inT9 tb_1_36 rfl dX11_high_13 rfl ?_
  refine x_iload_n 17 C dX11_high_16 rfl rfl rfl ?_
  refine x_iald 18 C rfl (lt79 (by decide)) dX11_high_17 rfl (by omega) (by omega) (fun r17 => ?_)
  refine x_goto 23 C dX11_high_18 rfl ?_
  refine x_iret C T dX11_high_23 ?_
  exact PE_i (by first | rw [if_pos (by omega)] | rw [if_neg (by omega)]) (by omega)
