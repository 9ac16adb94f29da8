theorem c_parse {l : Launch} {G : Gt} {N : Nat} {ρ : Nat → Nat} {sh : Nat → Shc} (hW : RW N sh) : ∀ k : Nat, PC l G N ρ sh yX5_readOne cX5_readOne 3 (8 + 7 * k) (200 + 168 * k) k (fun b n => pOne b n k) ∧ PC l G N ρ sh yX5_readNot cX5_readNot 3 (12 + 7 * k) (296 + 168 * k) k (fun b n => pNot b n k) ∧ PC l G N ρ sh yX5_readOr cX5_readOr 4 (14 + 7 * k) (344 + 168 * k) k (fun b n => pOr b n k) := by
  have step : ∀ k : Nat, (∀ k', k' + 1 = k → PC l G N ρ sh yX5_readOne cX5_readOne 3 (8 + 7 * k') (200 + 168 * k') (k') (fun b n => pOne b n k')) → (∀ k', k' + 1 = k → PC l G N ρ sh yX5_readNot cX5_readNot 3 (12 + 7 * k') (296 + 168 * k') (k') (fun b n => pNot b n k')) → (∀ k', k' + 1 = k → PC l G N ρ sh yX5_readOr cX5_readOr 4 (14 + 7 * k') (344 + 168 * k') (k') (fun b n => pOr b n k')) → PC l G N ρ sh yX5_readOne cX5_readOne 3 (8 + 7 * k) (200 + 168 * k) k (fun b n => pOne b n k) ∧ PC l G N ρ sh yX5_readNot cX5_readNot 3 (12 + 7 * k) (296 + 168 * k) k (fun b n => pNot b n k) ∧ PC l G N ρ sh yX5_readOr cX5_readOr 4 (14 + 7 * k) (344 + 168 * k) k (fun b n => pOr b n k) := by
    intro k h1 h2 h3
    have a1 : PC l G N ρ sh yX5_readOne cX5_readOne 3 (8 + 7 * k) (200 + 168 * k) k (fun b n => pOne b n k) := fun σ0 σ n p Lc u hS hl hk => c_X5_readOne hS hl hk h1 h3 hW
    have a2 : PC l G N ρ sh yX5_readTerm cX5_readTerm 4 (9 + 7 * k) (224 + 168 * k) k (fun b n => pTerm b n k) := fun σ0 σ n p Lc u hS hl hk => c_X5_readTerm hS hl hk a1 hW
    have a3 : PC l G N ρ sh yX5_readSum cX5_readSum 5 (10 + 7 * k) (248 + 168 * k) k (fun b n => pSum b n k) := fun σ0 σ n p Lc u hS hl hk => c_X5_readSum hS hl hk a2 hW
    have a4 : PC l G N ρ sh yX5_readComparison cX5_readComparison 4 (11 + 7 * k) (272 + 168 * k) k (fun b n => pCmp b n (pSum b n k)) := fun σ0 σ n p Lc u hS hl hk => c_X5_readComparison hS hl hk a3 hW
    have a5 : PC l G N ρ sh yX5_readNot cX5_readNot 3 (12 + 7 * k) (296 + 168 * k) k (fun b n => pNot b n k) := fun σ0 σ n p Lc u hS hl hk => c_X5_readNot hS hl hk a4 h2 hW
    have a6 : PC l G N ρ sh yX5_readAnd cX5_readAnd 4 (13 + 7 * k) (320 + 168 * k) k (fun b n => pAnd b n k) := fun σ0 σ n p Lc u hS hl hk => c_X5_readAnd hS hl hk a5 hW
    exact ⟨a1, a5, fun σ0 σ n p Lc u hS hl hk => c_X5_readOr hS hl hk a6 hW⟩
  intro k
  induction k with
  | zero => exact step 0 (fun k' h => absurd h (by omega)) (fun k' h => absurd h (by omega)) (fun k' h => absurd h (by omega))
  | succ k ih => exact step (k + 1) (fun k' h => by cases h; exact ih.1) (fun k' h => by cases h; exact ih.2.1) (fun k' h => by cases h; exact ih.2.2)
set_option maxHeartbeats 4000000 in
set_option maxRecDepth 100000 in
theorem c_X5_readPart {l : Launch} {G : Gt} {ρ : Nat → Nat} {N : Nat} {sh : Nat → Shc} {σ : Sig} {σ0 : Sig} {n p : Nat} {Lc : List Int} {t : Int} (hS : RS σ0 n p Lc σ) (hl : Lc.length ≤ p) (ht : 4 ≤ t ∧ t ≤ 6) (hW : RW N sh) : MX l yX5_readPart cX5_readPart 2 (some .boolean) 50 1207 G N ρ sh [.ref (ρ 28), .int (iZ t)] σ (PI (fun z σ' => PP σ0 n Lc (pPart (σ0 29) n t p) z σ')) := by
  refine MX_of [some (.ref (ρ 28)), some (.int (iZ t))] (by decide +kernel) rfl rfl (Nat.le_of_ble_eq_true rfl) ?_
  intro K hKl C T hRng
  subst hKl
  refine x_aload_n 1 C dX5_readPart_0 rfl rfl rfl ?_
  refine x_iload_n 2 C dX5_readPart_1 rfl rfl rfl ?_
  refine x_callVi 5 C dX5_readPart_2 rfl (c_X5_skip hS (by omega) hW) hW.2.1 (by have := hW.1; omega) rfl tb_2_29 tb_2_31 tb_0_5 tb_1_9 tb_2_32 (na := 1) (by decide +kernel) rfl ⟨by decide, by decide⟩ rfl (Nat.le_of_ble_eq_true rfl) rfl (fun z2 s2 hz2 hq2 hR2 => ?_)
  have h41 : lxT (σ0 29) n p = t ∨ lxT (σ0 29) n p ≠ t := by omega
  have hz2 : z2 = 0 ∨ z2 = 1 := by rcases h41 with h | h; exact Or.inr (hq2.1 h).1; exact Or.inl (hq2.2 h).1
  first
    | refine x_ifb_eq 29 8 C dX5_readPart_5 rfl rfl (fun h5 => ?_) (fun h5 => ?_)
    | refine x_if_eq 29 8 C dX5_readPart_5 rfl rfl (by omega) (fun h5 => ?_) (fun h5 => ?_)
  · have hfin : PP σ0 n Lc (pPart (σ0 29) n t p) 0 s2 := by
      rcases h41 with h | h
      · have := (hq2.1 h).1; omega
      · obtain ⟨-, rfl⟩ := hq2.2 h
        unfold pPart; rw [if_neg h]; exact ⟨rfl, RS_RF hS⟩
    refine x_iconst 30 C dX5_readPart_29 rfl ?_
    refine x_zret C T dX5_readPart_30 (by omega) ?_
    exact PI_i (by omega) hfin
  have h4t : lxT (σ0 29) n p = t := by
    rcases h41 with h | h
    · exact h
    · have := (hq2.2 h).1; omega
  have hS2 := (hq2.1 h4t).2
  have hlt := lxE_lt (b := σ0 29) (n := n) (p := p) (by omega)
  refine x_aload_n 9 C dX5_readPart_8 rfl rfl rfl ?_
  refine x_iconst 10 C dX5_readPart_9 rfl ?_
  refine x_callVi 13 C dX5_readPart_10 rfl (((c_parse hW 5).2.2 σ0 s2 n _ Lc 0 hS2 (by omega) (by omega))) hW.2.1 (by have := hW.1; omega) rfl tb_2_33 tb_2_35 tb_0_6 tb_1_9 tb_2_36 (na := 1) (by decide +kernel) rfl ⟨by decide, by decide⟩ rfl (Nat.le_of_ble_eq_true rfl) rfl (fun z10 s10 hz10 hq10 hR10 => ?_)
  have h01 := PP_01 hq10
  first
    | refine x_ifb_eq 29 16 C dX5_readPart_13 rfl rfl (fun h13 => ?_) (fun h13 => ?_)
    | refine x_if_eq 29 16 C dX5_readPart_13 rfl rfl (by omega) (fun h13 => ?_) (fun h13 => ?_)
  · have hfin : PP σ0 n Lc (pPart (σ0 29) n t p) 0 s10 := by
      unfold pPart; rw [if_pos h4t]
      rcases PP_cases hq10 with ⟨p1, L1, e1, e2, e3⟩ | ⟨a, e1, e2, e3⟩
      · omega
      · rw [show pOr (σ0 29) n 5 (lxE (σ0 29) n p) = _ from e1]; exact ⟨rfl, e3⟩
    refine x_iconst 30 C dX5_readPart_29 rfl ?_
    refine x_zret C T dX5_readPart_30 (by omega) ?_
    exact PI_i (by omega) hfin
  obtain ⟨p1, L1, hr1, hS3⟩ : ∃ p1 L1, pOr (σ0 29) n 5 (lxE (σ0 29) n p) = .inl (p1, L1) ∧ RS σ0 n p1 (Lc ++ L1) s10 := by
    rcases PP_cases hq10 with ⟨p1, L1, e1, e2, e3⟩ | ⟨a, e1, e2, e3⟩
    · exact ⟨p1, L1, e1, e3⟩
    · omega
  refine x_aload_n 17 C dX5_readPart_16 rfl rfl rfl ?_
  refine x_bipush 19 C dX5_readPart_17 rfl rfl ?_
  refine x_callVi 22 C dX5_readPart_19 rfl (c_X5_skip hS3 (by omega) hW) hW.2.1 (by have := hW.1; omega) rfl tb_2_29 tb_2_31 tb_0_5 tb_1_9 tb_2_32 (na := 1) (by decide +kernel) rfl ⟨by decide, by decide⟩ rfl (Nat.le_of_ble_eq_true rfl) rfl (fun z19 s19 hz19 hq19 hR19 => ?_)
  have h59 : lxT (σ0 29) n p1 = 59 ∨ lxT (σ0 29) n p1 ≠ 59 := by omega
  have hz19 : z19 = 0 ∨ z19 = 1 := by rcases h59 with h | h; exact Or.inr (hq19.1 h).1; exact Or.inl (hq19.2 h).1
  first
    | refine x_ifb_eq 29 25 C dX5_readPart_22 rfl rfl (fun h22 => ?_) (fun h22 => ?_)
    | refine x_if_eq 29 25 C dX5_readPart_22 rfl rfl (by omega) (fun h22 => ?_) (fun h22 => ?_)
  · have hfin : PP σ0 n Lc (pPart (σ0 29) n t p) 0 s19 := by
      unfold pPart; rw [if_pos h4t, hr1]; dsimp only
      rcases h59 with h | h
      · have := (hq19.1 h).1; omega
      · obtain ⟨-, rfl⟩ := hq19.2 h
        rw [if_neg h]; exact ⟨rfl, RS_RF hS3⟩
    refine x_iconst 30 C dX5_readPart_29 rfl ?_
    refine x_zret C T dX5_readPart_30 (by omega) ?_
    exact PI_i (by omega) hfin
  have hfin : PP σ0 n Lc (pPart (σ0 29) n t p) 1 s19 := by
    unfold pPart; rw [if_pos h4t, hr1]; dsimp only
    rcases h59 with h | h
    · rw [if_pos h]; exact ⟨rfl, (hq19.1 h).2⟩
    · have := (hq19.2 h).1; omega
  refine x_iconst 26 C dX5_readPart_25 rfl ?_
  refine x_goto 30 C dX5_readPart_26 rfl ?_
  refine x_zret C T dX5_readPart_30 (by omega) ?_
  exact PI_i (by omega) hfin
