set_option maxHeartbeats 4000000 in
set_option maxRecDepth 100000 in
theorem c_X9_row2 {l : Launch} {G : Gt} {ρ : Nat → Nat} {tc : Nat} {cl : Nat → Nat} {σ : Sig} {q : Int} (hq : 0 ≤ q ∧ q < 8) : MX l yX9_row cX9_row 2 (some (.array .int)) 0 0 G (NN tc) ρ (shp tc cl) [.ref (ρ 11), .int (iZ q)] σ (PR ρ (fun k σ' => σ = σ' ∧ k = 13 + q.toNat)) := by
  refine MX_of [some (.ref (ρ 11)), some (.int (iZ q))] (by decide +kernel) rfl rfl (Nat.le_of_ble_eq_true rfl) ?_
  intro K hKl C T hRng
  subst hKl
  refine x_iload_n 1 C dX9_row_0 rfl rfl rfl ?_
  refine x_tab 79 [44, 49, 54, 59, 64, 69, 74] C dX9_row_1 rfl (by decide) (by decide) (by omega) (fun h1 => ?_) (fun j hj h1 => ?_)
  · refine x_aload_n 80 C dX9_row_79 rfl rfl rfl ?_
    refine x_getr (j := 12) 83 C rfl (lt79 (by decide)) rfl rfl (by decide) inT9 tb_1_71 rfl dX9_row_80 rfl ?_
    refine x_aret C T dX9_row_83 (by simp) ?_
    exact PR_i ⟨rfl, by omega⟩
  match j, hj with
  | 0, hj =>
    refine x_aload_n 45 C dX9_row_44 rfl rfl rfl ?_
    refine x_getr (j := 4) 48 C rfl (lt79 (by decide)) rfl rfl (by decide) inT9 tb_1_47 rfl dX9_row_45 rfl ?_
    refine x_aret C T dX9_row_48 (by simp) ?_
    exact PR_i ⟨rfl, by omega⟩
  | 1, hj =>
    refine x_aload_n 50 C dX9_row_49 rfl rfl rfl ?_
    refine x_getr (j := 5) 53 C rfl (lt79 (by decide)) rfl rfl (by decide) inT9 tb_1_50 rfl dX9_row_50 rfl ?_
    refine x_aret C T dX9_row_53 (by simp) ?_
    exact PR_i ⟨rfl, by omega⟩
  | 2, hj =>
    refine x_aload_n 55 C dX9_row_54 rfl rfl rfl ?_
    refine x_getr (j := 6) 58 C rfl (lt79 (by decide)) rfl rfl (by decide) inT9 tb_1_53 rfl dX9_row_55 rfl ?_
    refine x_aret C T dX9_row_58 (by simp) ?_
    exact PR_i ⟨rfl, by omega⟩
  | 3, hj =>
    refine x_aload_n 60 C dX9_row_59 rfl rfl rfl ?_
    refine x_getr (j := 7) 63 C rfl (lt79 (by decide)) rfl rfl (by decide) inT9 tb_1_56 rfl dX9_row_60 rfl ?_
    refine x_aret C T dX9_row_63 (by simp) ?_
    exact PR_i ⟨rfl, by omega⟩
  | 4, hj =>
    refine x_aload_n 65 C dX9_row_64 rfl rfl rfl ?_
    refine x_getr (j := 9) 68 C rfl (lt79 (by decide)) rfl rfl (by decide) inT9 tb_1_62 rfl dX9_row_65 rfl ?_
    refine x_aret C T dX9_row_68 (by simp) ?_
    exact PR_i ⟨rfl, by omega⟩
  | 5, hj =>
    refine x_aload_n 70 C dX9_row_69 rfl rfl rfl ?_
    refine x_getr (j := 10) 73 C rfl (lt79 (by decide)) rfl rfl (by decide) inT9 tb_1_65 rfl dX9_row_70 rfl ?_
    refine x_aret C T dX9_row_73 (by simp) ?_
    exact PR_i ⟨rfl, by omega⟩
  | 6, hj =>
    refine x_aload_n 75 C dX9_row_74 rfl rfl rfl ?_
    refine x_getr (j := 11) 78 C rfl (lt79 (by decide)) rfl rfl (by decide) inT9 tb_1_68 rfl dX9_row_75 rfl ?_
    refine x_aret C T dX9_row_78 (by simp) ?_
    exact PR_i ⟨rfl, by omega⟩
  | j + 7, hj => exact absurd hj (by simp)

/-- the town D becomes as the town S; of the eight rows the first i are done -/
def cpW (D S : Nat) (σ : Sig) (i : Nat) : Sig := fun a b => if a = D + 1 ∧ b < 36 then σ (S + 1) b else if D + 2 ≤ a ∧ a < D + 2 + i ∧ b < (if a < D + 6 then 6 else 5) then σ (a - D + S) b else if a = D ∧ (b = 1 ∨ b = 2 ∨ b = 3 ∨ b = 8) then σ S b else σ a b
theorem cpW_step {D S i len : Nat} {σ : Sig} (hi : i < 8) (hlen : len = if i < 4 then 6 else 5) (hDS : D + 10 ≤ S ∨ S + 10 ≤ D) : (fun a b => if a = D + 2 + i ∧ (0 : Int).toNat ≤ b ∧ b < (0 : Int).toNat + (len : Int).toNat then cpW D S σ i (S + 2 + i) ((0 : Int).toNat + (b - (0 : Int).toNat)) else cpW D S σ i a b) = cpW D S σ (i + 1) := by
  funext a b
  simp only [Int.toNat_zero, Int.toNat_natCast, Nat.zero_le, Nat.zero_add, Nat.sub_zero, true_and]
  have hl2 : (if D + 2 + i < D + 6 then 6 else 5) = len := by
    rw [hlen]
    by_cases h4 : i < 4
    · rw [if_pos (by omega), if_pos h4]
    · rw [if_neg (by omega), if_neg h4]
  by_cases ha : a = D + 2 + i
  · subst ha
    have e2 : cpW D S σ i (S + 2 + i) b = σ (S + 2 + i) b := by
      unfold cpW
      rw [if_neg (by omega), if_neg (by omega), if_neg (by omega)]
    have e3 : cpW D S σ i (D + 2 + i) b = σ (D + 2 + i) b := by
      unfold cpW
      rw [if_neg (by omega), if_neg (by omega), if_neg (by omega)]
    by_cases hb : b < len
    · rw [if_pos ⟨rfl, hb⟩, e2]
      unfold cpW
      rw [if_neg (by omega), if_pos ⟨by omega, by omega, by rw [hl2]; exact hb⟩, show D + 2 + i - D + S = S + 2 + i by omega]
    · rw [if_neg (by omega), e3]
      unfold cpW
      rw [if_neg (by omega), if_neg (fun h => hb (by have := h.2.2; rwa [hl2] at this)), if_neg (by omega)]
  · rw [if_neg (by omega)]
    unfold cpW
    by_cases h1 : a = D + 1 ∧ b < 36
    · rw [if_pos h1, if_pos h1]
    · rw [if_neg h1, if_neg h1]
      by_cases h2 : D + 2 ≤ a ∧ a < D + 2 + i ∧ b < (if a < D + 6 then 6 else 5)
      · rw [if_pos h2, if_pos ⟨h2.1, by omega, h2.2.2⟩]
      · rw [if_neg h2, if_neg (show ¬ (D + 2 ≤ a ∧ a < D + 2 + (i + 1) ∧ b < (if a < D + 6 then 6 else 5)) from fun h => h2 ⟨h.1, by omega, h.2.2⟩)]
theorem cpW_0 {D S : Nat} {σ : Sig} (hDS : D + 10 ≤ S ∨ S + 10 ≤ D) : up (up (up (up (fun a b => if a = D + 1 ∧ (0 : Int).toNat ≤ b ∧ b < (0 : Int).toNat + (36 : Int).toNat then σ (S + 1) ((0 : Int).toNat + (b - (0 : Int).toNat)) else σ a b) D 1 (σ S 1)) D 2 (σ S 2)) D 3 (σ S 3)) D 8 (σ S 8) = cpW D S σ 0 := by
  funext a b
  unfold cpW
  simp only [Int.toNat_zero, show (36 : Int).toNat = 36 from rfl, Nat.zero_le, Nat.zero_add, Nat.sub_zero, true_and, up]
  by_cases ha : a = D
  · subst ha
    rw [if_neg (show ¬ (a = a + 1 ∧ b < 36) by omega), if_neg (show ¬ (a + 2 ≤ a ∧ a < a + 2 + 0 ∧ b < (if a < a + 6 then 6 else 5)) by omega)]
    by_cases h8 : b = 8
    · simp [h8]
    · by_cases h3 : b = 3
      · simp [h3]
      · by_cases h2 : b = 2
        · simp [h2]
        · by_cases h1 : b = 1
          · simp [h1]
          · simp [h8, h3, h2, h1]
  · rw [if_neg ha, if_neg ha, if_neg ha, if_neg ha, if_neg (show ¬ (D + 2 ≤ a ∧ a < D + 2 + 0 ∧ b < (if a < D + 6 then 6 else 5)) by omega), if_neg (show ¬ (a = D ∧ (b = 1 ∨ b = 2 ∨ b = 3 ∨ b = 8)) by omega)]
set_option maxHeartbeats 4000000 in
set_option maxRecDepth 100000 in
theorem c_X9_become {l : Launch} {G : Gt} {ρ : Nat → Nat} {tc : Nat} {cl : Nat → Nat} {σ : Sig}  : MX l yX9_become cX9_become 4 none 1 40 G (NN tc) ρ (shp tc cl) [.ref (ρ 11), .ref (ρ 1)] σ (PV (fun σ' => σ' = cpW 11 1 σ 8)) := by
  refine MX_of [some (.ref (ρ 11)), some (.ref (ρ 1)), none, none] (by decide +kernel) rfl rfl (Nat.le_of_ble_eq_true rfl) ?_
  intro K hKl C T hRng
  subst hKl
  refine x_aload_n 1 C dX9_become_0 rfl rfl rfl ?_
  refine x_getr (j := 0) 4 C rfl (lt79 (by decide)) rfl rfl (by decide) inT9 tb_1_35 rfl dX9_become_1 rfl ?_
  refine x_iconst 5 C dX9_become_4 rfl ?_
  refine x_aload_n 6 C dX9_become_5 rfl rfl rfl ?_
  refine x_getr (j := 0) 9 C rfl (lt79 (by decide)) rfl rfl (by decide) inT9 tb_1_35 rfl dX9_become_6 rfl ?_
  refine x_iconst 10 C dX9_become_9 rfl ?_
  refine x_bipush 12 C dX9_become_10 rfl rfl ?_
  refine x_acopy 15 C rfl (lt79 (by decide)) rfl (lt79 (by decide)) tb_4_74 tb_2_82 tb_2_81 tb_1_17 dX9_become_12 rfl (by omega) (by omega) (by omega) (by omega) (by omega) (by omega) ⟨by decide, by decide +kernel⟩ rfl ?_
  refine x_aload_n 16 C dX9_become_15 rfl rfl rfl ?_
  refine x_aload_n 17 C dX9_become_16 rfl rfl rfl ?_
  refine x_geti (j := 1) 20 C rfl (lt79 (by decide)) rfl rfl (by decide) inT9 tb_1_39 rfl dX9_become_17 rfl (fun r17 => ?_)
  refine x_puti (j := 1) tyX9 23 C rfl (lt79 (by decide)) rfl rfl (by decide) inT9 tyX9_ok nmX9 tb_1_39 rfl rfl rfl dX9_become_20 rfl (by omega) ?_
  refine x_aload_n 24 C dX9_become_23 rfl rfl rfl ?_
  refine x_aload_n 25 C dX9_become_24 rfl rfl rfl ?_
  refine x_geti (j := 2) 28 C rfl (lt79 (by decide)) rfl rfl (by decide) inT9 tb_1_41 rfl dX9_become_25 rfl (fun r25 => ?_)
  refine x_puti (j := 2) tyX9 31 C rfl (lt79 (by decide)) rfl rfl (by decide) inT9 tyX9_ok nmX9 tb_1_41 rfl rfl rfl dX9_become_28 rfl (by omega) ?_
  refine x_aload_n 32 C dX9_become_31 rfl rfl rfl ?_
  refine x_aload_n 33 C dX9_become_32 rfl rfl rfl ?_
  refine x_geti (j := 3) 36 C rfl (lt79 (by decide)) rfl rfl (by decide) inT9 tb_1_44 rfl dX9_become_33 rfl (fun r33 => ?_)
  refine x_puti (j := 3) tyX9 39 C rfl (lt79 (by decide)) rfl rfl (by decide) inT9 tyX9_ok nmX9 tb_1_44 rfl rfl rfl dX9_become_36 rfl (by omega) ?_
  refine x_aload_n 40 C dX9_become_39 rfl rfl rfl ?_
  refine x_aload_n 41 C dX9_become_40 rfl rfl rfl ?_
  refine x_geti (j := 8) 44 C rfl (lt79 (by decide)) rfl rfl (by decide) inT9 tb_1_60 rfl dX9_become_41 rfl (fun r41 => ?_)
  refine x_puti (j := 8) tyX9 47 C rfl (lt79 (by decide)) rfl rfl (by decide) inT9 tyX9_ok nmX9 tb_1_60 rfl rfl rfl dX9_become_44 rfl (by omega) ?_
  refine x_iconst 48 C dX9_become_47 rfl ?_
  refine x_istore_n2 49 C dX9_become_48 rfl rfl ?_
  have L49 : ∀ (m : Nat) (i : Nat) (y : Int) (s1 : Sig), m = 8 - i → (i ≤ 8 ∧ y = i ∧ s1 = cpW 11 1 σ i) → Ex K G (NN tc) ρ (shp tc cl) 49 [some (.ref (ρ 11)), some (.ref (ρ 1)), some (.int (iZ y)), none] [] s1 := by
    intro m
    induction m using Nat.strongRecOn with
    | ind m ih =>
      intro i y s1 hm hinv
      obtain ⟨hi, rfl, rfl⟩ := hinv
      refine x_iload_n 50 C dX9_become_49 rfl rfl rfl ?_
      refine x_bipush 52 C dX9_become_50 rfl rfl ?_
      refine x_icmp_gt 80 55 C dX9_become_52 rfl rfl (by omega) (by omega) (fun h52 => ?_) (fun h52 => ?_)
      · refine x_vret C T dX9_become_80 ?_
        refine PV_i ?_
        rw [show i = 8 by omega]
      have h8 : i < 8 := by omega
      obtain ⟨len, hlen, hlD, hlS⟩ : ∃ len : Nat, len = (if i < 4 then 6 else 5) ∧ shp tc cl (11 + 2 + i) = cA len ∧ shp tc cl (1 + 2 + i) = cA len := by
        match i, h8 with
        | 0, _ => exact ⟨6, rfl, rfl, rfl⟩
        | 1, _ => exact ⟨6, rfl, rfl, rfl⟩
        | 2, _ => exact ⟨6, rfl, rfl, rfl⟩
        | 3, _ => exact ⟨6, rfl, rfl, rfl⟩
        | 4, _ => exact ⟨5, rfl, rfl, rfl⟩
        | 5, _ => exact ⟨5, rfl, rfl, rfl⟩
        | 6, _ => exact ⟨5, rfl, rfl, rfl⟩
        | 7, _ => exact ⟨5, rfl, rfl, rfl⟩
      have hl6 : len ≤ 6 := by rw [hlen]; split <;> omega
      rw [show 11 + 2 + i = 13 + i by omega] at hlD
      rw [show 1 + 2 + i = 3 + i by omega] at hlS
      refine x_aload_n 56 C dX9_become_55 rfl rfl rfl ?_
      refine x_iload_n 57 C dX9_become_56 rfl rfl rfl ?_
      refine x_callVr 60 C dX9_become_57 rfl (c_X9_row2 (by omega)) rfl (lt79 (by decide)) rfl tb_4_75 tb_3_4 tb_3_5 tb_1_2 tb_3_6 (na := 1) (by decide +kernel) rfl ⟨by decide, by decide⟩ rfl (Nat.le_of_ble_eq_true rfl) rfl (fun z57 s57 hq57 hR57 => ?_)
      obtain ⟨rfl, rfl⟩ := hq57
      refine x_astore_n3 61 C dX9_become_60 rfl rfl ?_
      refine x_aload_n 62 C dX9_become_61 rfl rfl rfl ?_
      refine x_iload_n 63 C dX9_become_62 rfl rfl rfl ?_
      refine x_callVr 66 C dX9_become_63 rfl (c_X9_row (by omega)) rfl (lt79 (by decide)) rfl tb_4_75 tb_3_4 tb_3_5 tb_1_2 tb_3_6 (na := 1) (by decide +kernel) rfl ⟨by decide, by decide⟩ rfl (Nat.le_of_ble_eq_true rfl) rfl (fun z63 s63 hq63 hR63 => ?_)
      obtain ⟨rfl, rfl⟩ := hq63
      rw [Int.toNat_natCast] at *
      refine x_iconst 67 C dX9_become_66 rfl ?_
      refine x_aload_n 68 C dX9_become_67 rfl rfl rfl ?_
      refine x_iconst 69 C dX9_become_68 rfl ?_
      refine x_aload_n 70 C dX9_become_69 rfl rfl rfl ?_
      refine x_alen 71 C hlD (by unfold NN; omega) dX9_become_70 rfl ?_
      refine x_acopy 74 C (n1 := len) hlS (by unfold NN; omega) hlD (by unfold NN; omega) tb_4_74 tb_2_82 tb_2_81 tb_1_17 dX9_become_71 rfl (by omega) (by omega) (by omega) (by omega) (by omega) (by omega) ⟨by decide, by decide +kernel⟩ rfl ?_
      refine x_iinc_2 77 C dX9_become_74 rfl rfl ?_
      refine x_goto 49 C dX9_become_77 rfl ?_
      refine x_drop_3 ?_
      exact ih _ (by omega) (i + 1) _ _ rfl ⟨by omega, by omega, cpW_step h8 hlen (by omega)⟩
  exact L49 _ 0 _ _ rfl ⟨by omega, rfl, cpW_0 (by omega)⟩

set_option maxHeartbeats 4000000 in
set_option maxRecDepth 100000 in
theorem c_X9_become2 {l : Launch} {G : Gt} {ρ : Nat → Nat} {tc : Nat} {cl : Nat → Nat} {σ : Sig}  : MX l yX9_become cX9_become 4 none 1 40 G (NN tc) ρ (shp tc cl) [.ref (ρ 1), .ref (ρ 11)] σ (PV (fun σ' => σ' = cpW 1 11 σ 8)) := by
  refine MX_of [some (.ref (ρ 1)), some (.ref (ρ 11)), none, none] (by decide +kernel) rfl rfl (Nat.le_of_ble_eq_true rfl) ?_
  intro K hKl C T hRng
  subst hKl
  refine x_aload_n 1 C dX9_become_0 rfl rfl rfl ?_
  refine x_getr (j := 0) 4 C rfl (lt79 (by decide)) rfl rfl (by decide) inT9 tb_1_35 rfl dX9_become_1 rfl ?_
  refine x_iconst 5 C dX9_become_4 rfl ?_
  refine x_aload_n 6 C dX9_become_5 rfl rfl rfl ?_
  refine x_getr (j := 0) 9 C rfl (lt79 (by decide)) rfl rfl (by decide) inT9 tb_1_35 rfl dX9_become_6 rfl ?_
  refine x_iconst 10 C dX9_become_9 rfl ?_
  refine x_bipush 12 C dX9_become_10 rfl rfl ?_
  refine x_acopy 15 C rfl (lt79 (by decide)) rfl (lt79 (by decide)) tb_4_74 tb_2_82 tb_2_81 tb_1_17 dX9_become_12 rfl (by omega) (by omega) (by omega) (by omega) (by omega) (by omega) ⟨by decide, by decide +kernel⟩ rfl ?_
  refine x_aload_n 16 C dX9_become_15 rfl rfl rfl ?_
  refine x_aload_n 17 C dX9_become_16 rfl rfl rfl ?_
  refine x_geti (j := 1) 20 C rfl (lt79 (by decide)) rfl rfl (by decide) inT9 tb_1_39 rfl dX9_become_17 rfl (fun r17 => ?_)
  refine x_puti (j := 1) tyX9 23 C rfl (lt79 (by decide)) rfl rfl (by decide) inT9 tyX9_ok nmX9 tb_1_39 rfl rfl rfl dX9_become_20 rfl (by omega) ?_
  refine x_aload_n 24 C dX9_become_23 rfl rfl rfl ?_
  refine x_aload_n 25 C dX9_become_24 rfl rfl rfl ?_
  refine x_geti (j := 2) 28 C rfl (lt79 (by decide)) rfl rfl (by decide) inT9 tb_1_41 rfl dX9_become_25 rfl (fun r25 => ?_)
  refine x_puti (j := 2) tyX9 31 C rfl (lt79 (by decide)) rfl rfl (by decide) inT9 tyX9_ok nmX9 tb_1_41 rfl rfl rfl dX9_become_28 rfl (by omega) ?_
  refine x_aload_n 32 C dX9_become_31 rfl rfl rfl ?_
  refine x_aload_n 33 C dX9_become_32 rfl rfl rfl ?_
  refine x_geti (j := 3) 36 C rfl (lt79 (by decide)) rfl rfl (by decide) inT9 tb_1_44 rfl dX9_become_33 rfl (fun r33 => ?_)
  refine x_puti (j := 3) tyX9 39 C rfl (lt79 (by decide)) rfl rfl (by decide) inT9 tyX9_ok nmX9 tb_1_44 rfl rfl rfl dX9_become_36 rfl (by omega) ?_
  refine x_aload_n 40 C dX9_become_39 rfl rfl rfl ?_
  refine x_aload_n 41 C dX9_become_40 rfl rfl rfl ?_
  refine x_geti (j := 8) 44 C rfl (lt79 (by decide)) rfl rfl (by decide) inT9 tb_1_60 rfl dX9_become_41 rfl (fun r41 => ?_)
  refine x_puti (j := 8) tyX9 47 C rfl (lt79 (by decide)) rfl rfl (by decide) inT9 tyX9_ok nmX9 tb_1_60 rfl rfl rfl dX9_become_44 rfl (by omega) ?_
  refine x_iconst 48 C dX9_become_47 rfl ?_
  refine x_istore_n2 49 C dX9_become_48 rfl rfl ?_
  have L49 : ∀ (m : Nat) (i : Nat) (y : Int) (s1 : Sig), m = 8 - i → (i ≤ 8 ∧ y = i ∧ s1 = cpW 1 11 σ i) → Ex K G (NN tc) ρ (shp tc cl) 49 [some (.ref (ρ 1)), some (.ref (ρ 11)), some (.int (iZ y)), none] [] s1 := by
    intro m
    induction m using Nat.strongRecOn with
    | ind m ih =>
      intro i y s1 hm hinv
      obtain ⟨hi, rfl, rfl⟩ := hinv
      refine x_iload_n 50 C dX9_become_49 rfl rfl rfl ?_
      refine x_bipush 52 C dX9_become_50 rfl rfl ?_
      refine x_icmp_gt 80 55 C dX9_become_52 rfl rfl (by omega) (by omega) (fun h52 => ?_) (fun h52 => ?_)
      · refine x_vret C T dX9_become_80 ?_
        refine PV_i ?_
        rw [show i = 8 by omega]
      have h8 : i < 8 := by omega
      obtain ⟨len, hlen, hlD, hlS⟩ : ∃ len : Nat, len = (if i < 4 then 6 else 5) ∧ shp tc cl (1 + 2 + i) = cA len ∧ shp tc cl (11 + 2 + i) = cA len := by
        match i, h8 with
        | 0, _ => exact ⟨6, rfl, rfl, rfl⟩
        | 1, _ => exact ⟨6, rfl, rfl, rfl⟩
        | 2, _ => exact ⟨6, rfl, rfl, rfl⟩
        | 3, _ => exact ⟨6, rfl, rfl, rfl⟩
        | 4, _ => exact ⟨5, rfl, rfl, rfl⟩
        | 5, _ => exact ⟨5, rfl, rfl, rfl⟩
        | 6, _ => exact ⟨5, rfl, rfl, rfl⟩
        | 7, _ => exact ⟨5, rfl, rfl, rfl⟩
      have hl6 : len ≤ 6 := by rw [hlen]; split <;> omega
      rw [show 1 + 2 + i = 3 + i by omega] at hlD
      rw [show 11 + 2 + i = 13 + i by omega] at hlS
      refine x_aload_n 56 C dX9_become_55 rfl rfl rfl ?_
      refine x_iload_n 57 C dX9_become_56 rfl rfl rfl ?_
      refine x_callVr 60 C dX9_become_57 rfl (c_X9_row (by omega)) rfl (lt79 (by decide)) rfl tb_4_75 tb_3_4 tb_3_5 tb_1_2 tb_3_6 (na := 1) (by decide +kernel) rfl ⟨by decide, by decide⟩ rfl (Nat.le_of_ble_eq_true rfl) rfl (fun z57 s57 hq57 hR57 => ?_)
      obtain ⟨rfl, rfl⟩ := hq57
      refine x_astore_n3 61 C dX9_become_60 rfl rfl ?_
      refine x_aload_n 62 C dX9_become_61 rfl rfl rfl ?_
      refine x_iload_n 63 C dX9_become_62 rfl rfl rfl ?_
      refine x_callVr 66 C dX9_become_63 rfl (c_X9_row2 (by omega)) rfl (lt79 (by decide)) rfl tb_4_75 tb_3_4 tb_3_5 tb_1_2 tb_3_6 (na := 1) (by decide +kernel) rfl ⟨by decide, by decide⟩ rfl (Nat.le_of_ble_eq_true rfl) rfl (fun z63 s63 hq63 hR63 => ?_)
      obtain ⟨rfl, rfl⟩ := hq63
      rw [Int.toNat_natCast] at *
      refine x_iconst 67 C dX9_become_66 rfl ?_
      refine x_aload_n 68 C dX9_become_67 rfl rfl rfl ?_
      refine x_iconst 69 C dX9_become_68 rfl ?_
      refine x_aload_n 70 C dX9_become_69 rfl rfl rfl ?_
      refine x_alen 71 C hlD (by unfold NN; omega) dX9_become_70 rfl ?_
      refine x_acopy 74 C (n1 := len) hlS (by unfold NN; omega) hlD (by unfold NN; omega) tb_4_74 tb_2_82 tb_2_81 tb_1_17 dX9_become_71 rfl (by omega) (by omega) (by omega) (by omega) (by omega) (by omega) ⟨by decide, by decide +kernel⟩ rfl ?_
      refine x_iinc_2 77 C dX9_become_74 rfl rfl ?_
      refine x_goto 49 C dX9_become_77 rfl ?_
      refine x_drop_3 ?_
      exact ih _ (by omega) (i + 1) _ _ rfl ⟨by omega, by omega, cpW_step h8 hlen (by omega)⟩
  exact L49 _ 0 _ _ rfl ⟨by omega, rfl, cpW_0 (by omega)⟩

set_option maxHeartbeats 4000000 in
set_option maxRecDepth 100000 in
theorem c_X11_image {l : Launch} {G : Gt} {ρ : Nat → Nat} {tc : Nat} {cl : Nat → Nat} {σ : Sig} (hT : TI σ) : MX l yX11_image cX11_image 1 (some .int) 2 63 G (NN tc) ρ (shp tc cl) [.ref (ρ 0)] σ (PI (fun z σ' => z = σ 1 8 ∧ σ' = up (cpW 11 1 σ 8) 0 2 1)) := by
  refine MX_of [some (.ref (ρ 0))] (by decide +kernel) rfl rfl (Nat.le_of_ble_eq_true rfl) ?_
  intro K hKl C T hRng
  subst hKl
  refine x_aload_n 1 C dX11_image_0 rfl rfl rfl ?_
  refine x_getr (j := 1) 4 C rfl (lt79 (by decide)) rfl rfl (by decide) inT11 tb_2_174 rfl dX11_image_1 rfl ?_
  refine x_aload_n 5 C dX11_image_4 rfl rfl rfl ?_
  refine x_getr (j := 0) 8 C rfl (lt79 (by decide)) rfl rfl (by decide) inT11 tb_2_173 rfl dX11_image_5 rfl ?_
  refine x_callVv 11 C dX11_image_8 rfl (c_X9_become) rfl (lt79 (by decide)) rfl tb_4_70 tb_4_71 tb_4_72 tb_1_2 tb_4_73 (na := 1) (by decide +kernel) rfl ⟨by decide, by decide⟩ rfl (Nat.le_of_ble_eq_true rfl) rfl (fun s8 hq8 hR8 => ?_)
  subst hq8
  refine x_aload_n 12 C dX11_image_11 rfl rfl rfl ?_
  refine x_iconst 13 C dX11_image_12 rfl ?_
  refine x_putz (j := 2) tyX11 16 C rfl (lt79 (by decide)) rfl rfl (by decide) inT11 tyX11_ok nmX11 tb_2_175 rfl rfl rfl dX11_image_13 rfl (by omega) ?_
  refine x_aload_n 17 C dX11_image_16 rfl rfl rfl ?_
  refine x_getr (j := 0) 20 C rfl (lt79 (by decide)) rfl rfl (by decide) inT11 tb_2_173 rfl dX11_image_17 rfl ?_
  refine x_geti (j := 8) 23 C rfl (lt79 (by decide)) rfl rfl (by decide) inT9 tb_1_61 rfl dX11_image_20 rfl (fun r20 => ?_)
  have e18 : up (cpW 11 1 σ 8) 0 2 1 1 8 = σ 1 8 := by rw [up_r (by omega)]; unfold cpW; rw [if_neg (by omega), if_neg (by omega), if_neg (by omega)]
  refine x_iret C T dX11_image_23 ?_
  exact PI_i (by omega) ⟨e18, rfl⟩

set_option maxHeartbeats 4000000 in
set_option maxRecDepth 100000 in
theorem c_X11_back {l : Launch} {G : Gt} {ρ : Nat → Nat} {tc : Nat} {cl : Nat → Nat} {σ : Sig} (hT : TI σ) : MX l yX11_back cX11_back 1 (some .int) 2 63 G (NN tc) ρ (shp tc cl) [.ref (ρ 0)] σ (PI (fun z σ' => (σ 0 2 = 0 → z = -3 ∧ σ' = σ) ∧ (σ 0 2 ≠ 0 → z = σ 11 8 ∧ σ' = cpW 1 11 σ 8))) := by
  refine MX_of [some (.ref (ρ 0))] (by decide +kernel) rfl rfl (Nat.le_of_ble_eq_true rfl) ?_
  intro K hKl C T hRng
  subst hKl
  refine x_aload_n 1 C dX11_back_0 rfl rfl rfl ?_
  refine x_geti (j := 2) 4 C rfl (lt79 (by decide)) rfl rfl (by decide) inT11 tb_2_175 rfl dX11_back_1 rfl (fun r1 => ?_)
  refine x_if_ne 10 7 C dX11_back_4 rfl rfl (by omega) (fun h4 => ?_) (fun h4 => ?_)
  · refine x_aload_n 11 C dX11_back_10 rfl rfl rfl ?_
    refine x_getr (j := 0) 14 C rfl (lt79 (by decide)) rfl rfl (by decide) inT11 tb_2_173 rfl dX11_back_11 rfl ?_
    refine x_aload_n 15 C dX11_back_14 rfl rfl rfl ?_
    refine x_getr (j := 1) 18 C rfl (lt79 (by decide)) rfl rfl (by decide) inT11 tb_2_174 rfl dX11_back_15 rfl ?_
    refine x_callVv 21 C dX11_back_18 rfl (c_X9_become2) rfl (lt79 (by decide)) rfl tb_4_70 tb_4_71 tb_4_72 tb_1_2 tb_4_73 (na := 1) (by decide +kernel) rfl ⟨by decide, by decide⟩ rfl (Nat.le_of_ble_eq_true rfl) rfl (fun s18 hq18 hR18 => ?_)
    subst hq18
    refine x_aload_n 22 C dX11_back_21 rfl rfl rfl ?_
    refine x_getr (j := 0) 25 C rfl (lt79 (by decide)) rfl rfl (by decide) inT11 tb_2_173 rfl dX11_back_22 rfl ?_
    refine x_geti (j := 8) 28 C rfl (lt79 (by decide)) rfl rfl (by decide) inT9 tb_1_61 rfl dX11_back_25 rfl (fun r25 => ?_)
    have e18 : cpW 1 11 σ 8 1 8 = σ 11 8 := by unfold cpW; rw [if_neg (by omega), if_neg (by omega), if_pos (by omega)]
    refine x_iret C T dX11_back_28 ?_
    refine PI_i (by omega) ⟨fun h => ?_, fun h => ?_⟩ <;> first | exact ⟨rfl, rfl⟩ | exact ⟨e18, rfl⟩ | exact absurd h (by omega)
  refine x_bipush 9 C dX11_back_7 rfl rfl ?_
  refine x_iret C T dX11_back_9 ?_
  refine PI_i (by omega) ⟨fun h => ?_, fun h => ?_⟩ <;> first | exact ⟨rfl, rfl⟩ | exact ⟨e18, rfl⟩ | exact absurd h (by omega)

def hgtR (H it : Nat → Int) (p : Nat) : Nat → Nat → Int
  | 0 => H
  | k + 1 => fun b => if (0 ≤ it (p + 2 * k) ∧ it (p + 2 * k) < 36 ∧ 0 ≤ it (p + 2 * k + 1) ∧ it (p + 2 * k + 1) ≤ 9) ∧ b = (it (p + 2 * k)).toNat then it (p + 2 * k + 1) else hgtR H it p k b
def hgtC (it : Nat → Int) (p : Nat) : Nat → Int
  | 0 => 0
  | k + 1 => hgtC it p k + (if 0 ≤ it (p + 2 * k) ∧ it (p + 2 * k) < 36 ∧ 0 ≤ it (p + 2 * k + 1) ∧ it (p + 2 * k + 1) ≤ 9 then 1 else 0)
theorem hgtC_in (it : Nat → Int) (p : Nat) : ∀ k, 0 ≤ hgtC it p k ∧ hgtC it p k ≤ k
  | 0 => by simp [hgtC]
  | k + 1 => by
    have := hgtC_in it p k
    simp only [hgtC]
    split <;> omega
/-- how many pairs are looked at -/
def kH (f sz n : Int) : Nat := if f < 0 ∨ sz < f then 0 else min n.toNat ((sz - f) / 2).toNat
def rowS (σ : Sig) (q : Nat) (f : Nat → Int) : Sig := fun a b => if a = q then f b else σ a b
theorem rowS_ne {σ : Sig} {q a : Nat} {f : Nat → Int} (h : a ≠ q) : rowS σ q f a = σ a := by funext b; simp [rowS, h]
theorem rowS_eq {σ : Sig} {q : Nat} {f : Nat → Int} : rowS σ q f q = f := by funext b; simp [rowS]
theorem rowS_self {σ : Sig} {q : Nat} : rowS σ q (σ q) = σ := by funext a b; unfold rowS; split <;> simp_all
def rX_heights (σ : Sig) (s q f n : Int) : Int := if 0 ≤ s ∧ s < 4 ∧ 0 ≤ q ∧ q < 3 ∧ 0 ≤ n ∧ n < 21 then (if σ (43 + s.toNat) 1 ≠ -1 ∧ σ (43 + s.toNat) 1 ≠ q then -13 else if σ (43 + s.toNat) 1 = -1 then -11 else if kH f (σ (43 + s.toNat) 2) n < n.toNat then -12 else hgtC (σ (47 + s.toNat)) f.toNat n.toNat) else -2
def nX_heights (σ : Sig) (s q f n : Int) : Sig := if 0 ≤ s ∧ s < 4 ∧ 0 ≤ q ∧ q < 3 ∧ 0 ≤ n ∧ n < 21 ∧ σ (43 + s.toNat) 1 ≠ -1 ∧ σ (43 + s.toNat) 1 = q then rowS σ 2 (hgtR (σ 2) (σ (47 + s.toNat)) f.toNat (kH f (σ (43 + s.toNat) 2) n)) else σ
set_option maxHeartbeats 4000000 in
set_option maxRecDepth 100000 in
theorem c_X11_heights {l : Launch} {G : Gt} {ρ : Nat → Nat} {tc : Nat} {cl : Nat → Nat} {σ : Sig} {s q f n : Int} (hs : -2147483648 ≤ s ∧ s ≤ 2147483647) (hq : -2147483648 ≤ q ∧ q ≤ 2147483647) (hf : -2147483648 ≤ f ∧ f ≤ 2147483647) (hn : -2147483648 ≤ n ∧ n ≤ 2147483647) (hS : SI σ) : MX l yX11_heights cX11_heights 9 (some .int) 2 41 G (NN tc) ρ (shp tc cl) [.ref (ρ 0), .int (iZ s), .int (iZ q), .int (iZ f), .int (iZ n)] σ (PI (fun z σ' => z = rX_heights σ s q f n ∧ σ' = nX_heights σ s q f n)) := by
  refine MX_of [some (.ref (ρ 0)), some (.int (iZ s)), some (.int (iZ q)), some (.int (iZ f)), some (.int (iZ n)), none, none, none, none] (by decide +kernel) rfl rfl (Nat.le_of_ble_eq_true rfl) ?_
  intro K hKl C T hRng
  subst hKl
  refine x_iload_n 1 C dX11_heights_0 rfl rfl rfl ?_
  refine x_callSe 4 C dX11_heights_1 rfl (c_X11_isSheet (by omega)) tb_4_27 tb_4_28 tb_1_1 tb_4_29 (na := 1) (by decide +kernel) rfl ⟨by decide, by decide⟩ rfl (Nat.le_of_ble_eq_true rfl) rfl (fun r1 => ?_)
  first
    | refine x_ifb_eq 25 7 C dX11_heights_4 rfl rfl (fun h4 => ?_) (fun h4 => ?_)
    | refine x_if_eq 25 7 C dX11_heights_4 rfl rfl (by omega) (fun h4 => ?_) (fun h4 => ?_)
  · refine x_bipush 27 C dX11_heights_25 rfl rfl ?_
    refine x_iret C T dX11_heights_27 ?_
    refine PI_i (by omega) ?_
    unfold rX_heights nX_heights
    first
      | (rw [if_neg (by omega), if_neg (by omega)]; exact ⟨rfl, rfl⟩)
      | (rw [if_pos (by omega), if_pos (by omega), if_neg (by omega)]; exact ⟨rfl, rfl⟩)
      | (rw [if_pos (by omega), if_neg (by omega), if_pos (by omega), if_neg (by omega)]; exact ⟨rfl, rfl⟩)
      | (have hkk : kH f (σ (43 + s.toNat) 2) n = k := by unfold kH; split <;> omega
         rw [if_pos (by omega), if_neg (by omega), if_neg (by omega), if_pos (by omega), if_pos (by omega), hkk]; exact ⟨rfl, hs1⟩)
      | (have hkk : kH f (σ (43 + s.toNat) 2) n = k := by unfold kH; split <;> omega
         rw [if_pos (by omega), if_neg (by omega), if_neg (by omega), if_neg (by omega), if_pos (by omega), hkk, show n.toNat = k by omega]; exact ⟨hz1, hs1⟩)
  refine x_iload_n 8 C dX11_heights_7 rfl rfl rfl ?_
  refine x_iconst 9 C dX11_heights_8 rfl ?_
  refine x_callSe 12 C dX11_heights_9 rfl (c_X11_isWithin (by omega) (by omega)) tb_2_214 tb_2_215 tb_1_1 tb_2_216 (na := 2) (by decide +kernel) rfl ⟨by decide, by decide⟩ rfl (Nat.le_of_ble_eq_true rfl) rfl (fun r9 => ?_)
  first
    | refine x_ifb_eq 25 15 C dX11_heights_12 rfl rfl (fun h12 => ?_) (fun h12 => ?_)
    | refine x_if_eq 25 15 C dX11_heights_12 rfl rfl (by omega) (fun h12 => ?_) (fun h12 => ?_)
  · refine x_bipush 27 C dX11_heights_25 rfl rfl ?_
    refine x_iret C T dX11_heights_27 ?_
    refine PI_i (by omega) ?_
    unfold rX_heights nX_heights
    first
      | (rw [if_neg (by omega), if_neg (by omega)]; exact ⟨rfl, rfl⟩)
      | (rw [if_pos (by omega), if_pos (by omega), if_neg (by omega)]; exact ⟨rfl, rfl⟩)
      | (rw [if_pos (by omega), if_neg (by omega), if_pos (by omega), if_neg (by omega)]; exact ⟨rfl, rfl⟩)
      | (have hkk : kH f (σ (43 + s.toNat) 2) n = k := by unfold kH; split <;> omega
         rw [if_pos (by omega), if_neg (by omega), if_neg (by omega), if_pos (by omega), if_pos (by omega), hkk]; exact ⟨rfl, hs1⟩)
      | (have hkk : kH f (σ (43 + s.toNat) 2) n = k := by unfold kH; split <;> omega
         rw [if_pos (by omega), if_neg (by omega), if_neg (by omega), if_neg (by omega), if_pos (by omega), hkk, show n.toNat = k by omega]; exact ⟨hz1, hs1⟩)
  refine x_iload 17 C dX11_heights_15 rfl rfl ?_
  refine x_bipush 19 C dX11_heights_17 rfl rfl ?_
  refine x_callSe 22 C dX11_heights_19 rfl (c_X11_isWithin (by omega) (by omega)) tb_2_214 tb_2_215 tb_1_1 tb_2_216 (na := 2) (by decide +kernel) rfl ⟨by decide, by decide⟩ rfl (Nat.le_of_ble_eq_true rfl) rfl (fun r19 => ?_)
  first
    | refine x_ifb_ne 28 25 C dX11_heights_22 rfl rfl (fun h22 => ?_) (fun h22 => ?_)
    | refine x_if_ne 28 25 C dX11_heights_22 rfl rfl (by omega) (fun h22 => ?_) (fun h22 => ?_)
  rotate_left
  · refine x_bipush 27 C dX11_heights_25 rfl rfl ?_
    refine x_iret C T dX11_heights_27 ?_
    refine PI_i (by omega) ?_
    unfold rX_heights nX_heights
    first
      | (rw [if_neg (by omega), if_neg (by omega)]; exact ⟨rfl, rfl⟩)
      | (rw [if_pos (by omega), if_pos (by omega), if_neg (by omega)]; exact ⟨rfl, rfl⟩)
      | (rw [if_pos (by omega), if_neg (by omega), if_pos (by omega), if_neg (by omega)]; exact ⟨rfl, rfl⟩)
      | (have hkk : kH f (σ (43 + s.toNat) 2) n = k := by unfold kH; split <;> omega
         rw [if_pos (by omega), if_neg (by omega), if_neg (by omega), if_pos (by omega), if_pos (by omega), hkk]; exact ⟨rfl, hs1⟩)
      | (have hkk : kH f (σ (43 + s.toNat) 2) n = k := by unfold kH; split <;> omega
         rw [if_pos (by omega), if_neg (by omega), if_neg (by omega), if_neg (by omega), if_pos (by omega), hkk, show n.toNat = k by omega]; exact ⟨hz1, hs1⟩)
  refine x_aload_n 29 C dX11_heights_28 rfl rfl rfl ?_
  refine x_getr (j := 8) 32 C rfl (lt79 (by decide)) rfl rfl (by decide) inT11 tb_2_181 rfl dX11_heights_29 rfl ?_
  refine x_iload_n 33 C dX11_heights_32 rfl rfl rfl ?_
  refine x_aald2 34 C rfl (lt79 (by decide)) dX11_heights_33 rfl (by omega) (by omega) rfl ?_
  refine x_astore_5 36 C dX11_heights_34 rfl rfl ?_
  have hz := hS s.toNat (by omega)
  refine x_aload 38 C dX11_heights_36 rfl rfl ?_
  refine x_geti (j := 1) 41 C (sh_sheet (i := s.toNat) (by omega)) (by unfold NN; omega) rfl rfl (by decide) inT6 tb_2_163 rfl dX11_heights_38 rfl (fun r38 => ?_)
  refine x_iconst 42 C dX11_heights_41 rfl ?_
  refine x_icmp_eq 57 45 C dX11_heights_42 rfl rfl (by omega) (by omega) (fun h42 => ?_) (fun h42 => ?_)
  · refine x_aload 59 C dX11_heights_57 rfl rfl ?_
    refine x_geti (j := 1) 62 C (sh_sheet (i := s.toNat) (by omega)) (by unfold NN; omega) rfl rfl (by decide) inT6 tb_2_163 rfl dX11_heights_59 rfl (fun r59 => ?_)
    refine x_iconst 63 C dX11_heights_62 rfl ?_
    refine x_icmp_ne 69 66 C dX11_heights_63 rfl rfl (by omega) (by omega) (fun h63 => ?_) (fun h63 => ?_)
    · refine x_iconst 70 C dX11_heights_69 rfl ?_
      refine x_istore_6 72 C dX11_heights_70 rfl rfl ?_
      refine x_iconst 73 C dX11_heights_72 rfl ?_
      refine x_istore_7 75 C dX11_heights_73 rfl rfl ?_
      have L75 : ∀ (m : Nat) (k : Nat) (y z : Int) (s1 : Sig), m = n.toNat - k → ((k : Int) ≤ n ∧ y = k ∧ z = hgtC (σ (47 + s.toNat)) f.toNat k ∧ s1 = rowS σ 2 (hgtR (σ 2) (σ (47 + s.toNat)) f.toNat k) ∧ (k = 0 ∨ (0 ≤ f ∧ f + 2 * k ≤ σ (43 + s.toNat) 2))) → Ex K G (NN tc) ρ (shp tc cl) 75 [some (.ref (ρ 0)), some (.int (iZ s)), some (.int (iZ q)), some (.int (iZ f)), some (.int (iZ n)), some (.ref (ρ (43 + s.toNat))), some (.int (iZ z)), some (.int (iZ y)), none] [] s1 := by
        intro m
        induction m using Nat.strongRecOn with
        | ind m ih =>
          intro k y z s1 hm hinv
          obtain ⟨hk, rfl, hz1, hs1, hk2⟩ := hinv
          have hc := hgtC_in (σ (47 + s.toNat)) f.toNat k
          have hS1 : SI s1 := by
            intro i hi
            rw [hs1, rowS_ne (by omega)]
            exact hS i hi
          have e43 : s1 (43 + s.toNat) = σ (43 + s.toNat) := by rw [hs1]; exact rowS_ne (by omega)
          have e47 : s1 (47 + s.toNat) = σ (47 + s.toNat) := by rw [hs1]; exact rowS_ne (by omega)
          refine x_iload 77 C dX11_heights_75 rfl rfl ?_
          refine x_iload 79 C dX11_heights_77 rfl rfl ?_
          refine x_icmp_ge 173 82 C dX11_heights_79 rfl rfl (by omega) (by omega) (fun h79 => ?_) (fun h79 => ?_)
          · refine x_iload 175 C dX11_heights_173 rfl rfl ?_
            refine x_iret C T dX11_heights_175 ?_
            refine PI_i (by omega) ?_
            unfold rX_heights nX_heights
            first
              | (rw [if_neg (by omega), if_neg (by omega)]; exact ⟨rfl, rfl⟩)
              | (rw [if_pos (by omega), if_pos (by omega), if_neg (by omega)]; exact ⟨rfl, rfl⟩)
              | (rw [if_pos (by omega), if_neg (by omega), if_pos (by omega), if_neg (by omega)]; exact ⟨rfl, rfl⟩)
              | (have hkk : kH f (σ (43 + s.toNat) 2) n = k := by unfold kH; split <;> omega
                 rw [if_pos (by omega), if_neg (by omega), if_neg (by omega), if_pos (by omega), if_pos (by omega), hkk]; exact ⟨rfl, hs1⟩)
              | (have hkk : kH f (σ (43 + s.toNat) 2) n = k := by unfold kH; split <;> omega
                 rw [if_pos (by omega), if_neg (by omega), if_neg (by omega), if_neg (by omega), if_pos (by omega), hkk, show n.toNat = k by omega]; exact ⟨hz1, hs1⟩)
          refine x_iload_n 83 C dX11_heights_82 rfl rfl rfl ?_
          refine x_iconst 84 C dX11_heights_83 rfl ?_
          refine x_iload 86 C dX11_heights_84 rfl rfl ?_
          refine x_imul 87 C dX11_heights_86 rfl ?_
          refine x_iadd 88 C dX11_heights_87 rfl ?_
          refine x_wrap 88 C rfl ?_
          have hwr := wrap_in (f + 2 * (k : Int))
          have hw0 : k = 0 → wrap (f + 2 * (k : Int)) = f := fun h => by rw [h]; exact wrap_id (x := f + 2 * ((0 : Nat) : Int)) (by omega) |>.trans (by omega)
          have hw1 : (0 ≤ f ∧ f + 2 * k ≤ 40) → wrap (f + 2 * (k : Int)) = f + 2 * k := fun h => wrap_id (by omega)
          refine x_istore_8 90 C dX11_heights_88 rfl rfl ?_
          refine x_aload 92 C dX11_heights_90 rfl rfl ?_
          refine x_iload 94 C dX11_heights_92 rfl rfl ?_
          refine x_iconst 95 C dX11_heights_94 rfl ?_
          refine x_callVe 98 C dX11_heights_95 rfl (c_X6_holds (by omega) (by omega) (by omega) hS1) (sh_sheet (i := s.toNat) (by omega)) (by unfold NN; omega) rfl tb_4_109 tb_4_110 tb_4_111 tb_1_19 tb_4_112 (na := 2) (by decide +kernel) rfl ⟨by decide, by decide⟩ rfl (Nat.le_of_ble_eq_true rfl) rfl (fun r95 => ?_)
          first
            | refine x_ifb_ne 104 101 C dX11_heights_98 rfl rfl (fun h98 => ?_) (fun h98 => ?_)
            | refine x_if_ne 104 101 C dX11_heights_98 rfl rfl (by omega) (fun h98 => ?_) (fun h98 => ?_)
          rotate_left
          · rw [e43] at h98
            refine x_bipush 103 C dX11_heights_101 rfl rfl ?_
            refine x_iret C T dX11_heights_103 ?_
            refine PI_i (by omega) ?_
            unfold rX_heights nX_heights
            first
              | (rw [if_neg (by omega), if_neg (by omega)]; exact ⟨rfl, rfl⟩)
              | (rw [if_pos (by omega), if_pos (by omega), if_neg (by omega)]; exact ⟨rfl, rfl⟩)
              | (rw [if_pos (by omega), if_neg (by omega), if_pos (by omega), if_neg (by omega)]; exact ⟨rfl, rfl⟩)
              | (have hkk : kH f (σ (43 + s.toNat) 2) n = k := by unfold kH; split <;> omega
                 rw [if_pos (by omega), if_neg (by omega), if_neg (by omega), if_pos (by omega), if_pos (by omega), hkk]; exact ⟨rfl, hs1⟩)
              | (have hkk : kH f (σ (43 + s.toNat) 2) n = k := by unfold kH; split <;> omega
                 rw [if_pos (by omega), if_neg (by omega), if_neg (by omega), if_neg (by omega), if_pos (by omega), hkk, show n.toNat = k by omega]; exact ⟨hz1, hs1⟩)
          rw [e43] at h98
          have hw2 : wrap (f + 2 * (k : Int)) = f + 2 * k := by rcases hk2 with h | h <;> first | (rw [hw0 h]; omega) | exact hw1 (by omega)
          have hix : (wrap (f + 2 * (k : Int))).toNat = f.toNat + 2 * k := by omega
          have hix2 : (wrap (f + 2 * (k : Int)) + 1).toNat = f.toNat + 2 * k + 1 := by omega
          refine x_aload 106 C dX11_heights_104 rfl rfl ?_
          have J167 : ∀ (z2 : Int) (s2 : Sig), (z2 = hgtC (σ (47 + s.toNat)) f.toNat (k + 1) ∧ s2 = rowS σ 2 (hgtR (σ 2) (σ (47 + s.toNat)) f.toNat (k + 1))) → Ex K G (NN tc) ρ (shp tc cl) 167 [some (.ref (ρ 0)), some (.int (iZ s)), some (.int (iZ q)), some (.int (iZ f)), some (.int (iZ n)), some (.ref (ρ (43 + s.toNat))), some (.int (iZ z2)), some (.int (iZ (k : Int))), some (.int (iZ (wrap (f + 2 * (k : Int)))))] [] s2 := by
            intro z2 s2 hinv
            obtain ⟨hz2, hs2⟩ := hinv
            refine x_iinc_7 170 C dX11_heights_167 rfl rfl ?_
            refine x_goto 75 C dX11_heights_170 rfl ?_
            refine x_drop_8 ?_
            exact ih _ (by omega) (k + 1) _ _ _ rfl ⟨by omega, by omega, hz2, hs2, Or.inr ⟨by omega, by omega⟩⟩
          refine x_getr (j := 0) 109 C (sh_sheet (i := s.toNat) (by omega)) (by unfold NN; omega) rfl rfl (by decide) inT6 tb_2_161 rfl dX11_heights_106 rfl ?_
          refine x_iload 111 C dX11_heights_109 rfl rfl ?_
          refine x_iald 112 C (sh_items (i := s.toNat) (by omega)) (by unfold NN; omega) dX11_heights_111 rfl (by omega) (by omega) (fun r111 => ?_)
          rw [e47, hix]; rw [e47, hix] at r111
          refine x_bipush 114 C dX11_heights_112 rfl rfl ?_
          refine x_callSe 117 C dX11_heights_114 rfl (c_X11_isWithin (by omega) (by omega)) tb_2_214 tb_2_215 tb_1_1 tb_2_216 (na := 2) (by decide +kernel) rfl ⟨by decide, by decide⟩ rfl (Nat.le_of_ble_eq_true rfl) rfl (fun r114 => ?_)
          first
            | refine x_ifb_eq 167 120 C dX11_heights_117 rfl rfl (fun h117 => ?_) (fun h117 => ?_)
            | refine x_if_eq 167 120 C dX11_heights_117 rfl rfl (by omega) (fun h117 => ?_) (fun h117 => ?_)
          · refine J167 _ _ ⟨?_, ?_⟩
            · rw [hz1, hgtC]
              first | (exfalso; omega) | rw [if_pos (by omega)] | (rw [if_neg (by omega)]; omega)
            · rw [hs1]
              funext a b
              simp only [up, rowS, hgtR]
              by_cases ha : a = 2
              · subst ha
                simp only [if_true]
                first
                  | (rw [if_neg (show ¬ (_ ∧ _) by omega)]; done)
                  | (by_cases hb : b = (σ (47 + s.toNat) (f.toNat + 2 * k)).toNat
                     · rw [if_pos (by omega), if_pos (by omega)]
                     · rw [if_neg (by omega), if_neg (by omega)])
              · simp [ha]
          refine x_aload 122 C dX11_heights_120 rfl rfl ?_
          refine x_getr (j := 0) 125 C (sh_sheet (i := s.toNat) (by omega)) (by unfold NN; omega) rfl rfl (by decide) inT6 tb_2_161 rfl dX11_heights_122 rfl ?_
          refine x_iload 127 C dX11_heights_125 rfl rfl ?_
          refine x_iconst 128 C dX11_heights_127 rfl ?_
          refine x_iadd 129 C dX11_heights_128 rfl ?_
          refine x_iald 130 C (sh_items (i := s.toNat) (by omega)) (by unfold NN; omega) dX11_heights_129 rfl (by omega) (by omega) (fun r129 => ?_)
          rw [e47, hix2]; rw [e47, hix2] at r129
          refine x_bipush 132 C dX11_heights_130 rfl rfl ?_
          refine x_callSe 135 C dX11_heights_132 rfl (c_X11_isWithin (by omega) (by omega)) tb_2_214 tb_2_215 tb_1_1 tb_2_216 (na := 2) (by decide +kernel) rfl ⟨by decide, by decide⟩ rfl (Nat.le_of_ble_eq_true rfl) rfl (fun r132 => ?_)
          first
            | refine x_ifb_eq 167 138 C dX11_heights_135 rfl rfl (fun h135 => ?_) (fun h135 => ?_)
            | refine x_if_eq 167 138 C dX11_heights_135 rfl rfl (by omega) (fun h135 => ?_) (fun h135 => ?_)
          · refine J167 _ _ ⟨?_, ?_⟩
            · rw [hz1, hgtC]
              first | (exfalso; omega) | rw [if_pos (by omega)] | (rw [if_neg (by omega)]; omega)
            · rw [hs1]
              funext a b
              simp only [up, rowS, hgtR]
              by_cases ha : a = 2
              · subst ha
                simp only [if_true]
                first
                  | (rw [if_neg (show ¬ (_ ∧ _) by omega)]; done)
                  | (by_cases hb : b = (σ (47 + s.toNat) (f.toNat + 2 * k)).toNat
                     · rw [if_pos (by omega), if_pos (by omega)]
                     · rw [if_neg (by omega), if_neg (by omega)])
              · simp [ha]
          refine x_aload_n 139 C dX11_heights_138 rfl rfl rfl ?_
          refine x_getr (j := 0) 142 C rfl (lt79 (by decide)) rfl rfl (by decide) inT11 tb_2_173 rfl dX11_heights_139 rfl ?_
          refine x_getr (j := 0) 145 C rfl (lt79 (by decide)) rfl rfl (by decide) inT9 tb_1_36 rfl dX11_heights_142 rfl ?_
          refine x_aload 147 C dX11_heights_145 rfl rfl ?_
          refine x_getr (j := 0) 150 C (sh_sheet (i := s.toNat) (by omega)) (by unfold NN; omega) rfl rfl (by decide) inT6 tb_2_161 rfl dX11_heights_147 rfl ?_
          refine x_iload 152 C dX11_heights_150 rfl rfl ?_
          refine x_iald 153 C (sh_items (i := s.toNat) (by omega)) (by unfold NN; omega) dX11_heights_152 rfl (by omega) (by omega) (fun r152 => ?_)
          rw [e47, hix]; rw [e47, hix] at r152
          refine x_aload 155 C dX11_heights_153 rfl rfl ?_
          refine x_getr (j := 0) 158 C (sh_sheet (i := s.toNat) (by omega)) (by unfold NN; omega) rfl rfl (by decide) inT6 tb_2_161 rfl dX11_heights_155 rfl ?_
          refine x_iload 160 C dX11_heights_158 rfl rfl ?_
          refine x_iconst 161 C dX11_heights_160 rfl ?_
          refine x_iadd 162 C dX11_heights_161 rfl ?_
          refine x_iald 163 C (sh_items (i := s.toNat) (by omega)) (by unfold NN; omega) dX11_heights_162 rfl (by omega) (by omega) (fun r162 => ?_)
          rw [e47, hix2]; rw [e47, hix2] at r162
          refine x_iast 164 C rfl (lt79 (by decide)) dX11_heights_163 rfl (by omega) (by omega) (by omega) ?_
          refine x_iinc_6 167 C dX11_heights_164 rfl rfl ?_
          refine J167 _ _ ⟨?_, ?_⟩
          · rw [hz1, hgtC]
            first | (exfalso; omega) | rw [if_pos (by omega)] | (rw [if_neg (by omega)]; omega)
          · rw [hs1]
            funext a b
            simp only [up, rowS, hgtR]
            by_cases ha : a = 2
            · subst ha
              simp only [if_true]
              first
                | (rw [if_neg (show ¬ (_ ∧ _) by omega)]; done)
                | (by_cases hb : b = (σ (47 + s.toNat) (f.toNat + 2 * k)).toNat
                   · rw [if_pos (by omega), if_pos (by omega)]
                   · rw [if_neg (by omega), if_neg (by omega)])
            · simp [ha]
      exact L75 _ 0 _ _ _ rfl ⟨by omega, rfl, rfl, by rw [hgtR, rowS_self], Or.inl rfl⟩
    refine x_bipush 68 C dX11_heights_66 rfl rfl ?_
    refine x_iret C T dX11_heights_68 ?_
    refine PI_i (by omega) ?_
    unfold rX_heights nX_heights
    first
      | (rw [if_neg (by omega), if_neg (by omega)]; exact ⟨rfl, rfl⟩)
      | (rw [if_pos (by omega), if_pos (by omega), if_neg (by omega)]; exact ⟨rfl, rfl⟩)
      | (rw [if_pos (by omega), if_neg (by omega), if_pos (by omega), if_neg (by omega)]; exact ⟨rfl, rfl⟩)
      | (have hkk : kH f (σ (43 + s.toNat) 2) n = k := by unfold kH; split <;> omega
         rw [if_pos (by omega), if_neg (by omega), if_neg (by omega), if_pos (by omega), if_pos (by omega), hkk]; exact ⟨rfl, hs1⟩)
      | (have hkk : kH f (σ (43 + s.toNat) 2) n = k := by unfold kH; split <;> omega
         rw [if_pos (by omega), if_neg (by omega), if_neg (by omega), if_neg (by omega), if_pos (by omega), hkk, show n.toNat = k by omega]; exact ⟨hz1, hs1⟩)
  refine x_aload 47 C dX11_heights_45 rfl rfl ?_
  refine x_geti (j := 1) 50 C (sh_sheet (i := s.toNat) (by omega)) (by unfold NN; omega) rfl rfl (by decide) inT6 tb_2_163 rfl dX11_heights_47 rfl (fun r47 => ?_)
  refine x_iload_n 51 C dX11_heights_50 rfl rfl rfl ?_
  refine x_icmp_eq 57 54 C dX11_heights_51 rfl rfl (by omega) (by omega) (fun h51 => ?_) (fun h51 => ?_)
  rotate_left
  · refine x_bipush 56 C dX11_heights_54 rfl rfl ?_
    refine x_iret C T dX11_heights_56 ?_
    refine PI_i (by omega) ?_
    unfold rX_heights nX_heights
    first
      | (rw [if_neg (by omega), if_neg (by omega)]; exact ⟨rfl, rfl⟩)
      | (rw [if_pos (by omega), if_pos (by omega), if_neg (by omega)]; exact ⟨rfl, rfl⟩)
      | (rw [if_pos (by omega), if_neg (by omega), if_pos (by omega), if_neg (by omega)]; exact ⟨rfl, rfl⟩)
      | (have hkk : kH f (σ (43 + s.toNat) 2) n = k := by unfold kH; split <;> omega
         rw [if_pos (by omega), if_neg (by omega), if_neg (by omega), if_pos (by omega), if_pos (by omega), hkk]; exact ⟨rfl, hs1⟩)
      | (have hkk : kH f (σ (43 + s.toNat) 2) n = k := by unfold kH; split <;> omega
         rw [if_pos (by omega), if_neg (by omega), if_neg (by omega), if_neg (by omega), if_pos (by omega), hkk, show n.toNat = k by omega]; exact ⟨hz1, hs1⟩)
  refine x_aload 59 C dX11_heights_57 rfl rfl ?_
  refine x_geti (j := 1) 62 C (sh_sheet (i := s.toNat) (by omega)) (by unfold NN; omega) rfl rfl (by decide) inT6 tb_2_163 rfl dX11_heights_59 rfl (fun r59 => ?_)
  refine x_iconst 63 C dX11_heights_62 rfl ?_
  refine x_icmp_ne 69 66 C dX11_heights_63 rfl rfl (by omega) (by omega) (fun h63 => ?_) (fun h63 => ?_)
  · refine x_iconst 70 C dX11_heights_69 rfl ?_
    refine x_istore_6 72 C dX11_heights_70 rfl rfl ?_
    refine x_iconst 73 C dX11_heights_72 rfl ?_
    refine x_istore_7 75 C dX11_heights_73 rfl rfl ?_
    have L75 : ∀ (m : Nat) (k : Nat) (y z : Int) (s1 : Sig), m = n.toNat - k → ((k : Int) ≤ n ∧ y = k ∧ z = hgtC (σ (47 + s.toNat)) f.toNat k ∧ s1 = rowS σ 2 (hgtR (σ 2) (σ (47 + s.toNat)) f.toNat k) ∧ (k = 0 ∨ (0 ≤ f ∧ f + 2 * k ≤ σ (43 + s.toNat) 2))) → Ex K G (NN tc) ρ (shp tc cl) 75 [some (.ref (ρ 0)), some (.int (iZ s)), some (.int (iZ q)), some (.int (iZ f)), some (.int (iZ n)), some (.ref (ρ (43 + s.toNat))), some (.int (iZ z)), some (.int (iZ y)), none] [] s1 := by
      intro m
      induction m using Nat.strongRecOn with
      | ind m ih =>
        intro k y z s1 hm hinv
        obtain ⟨hk, rfl, hz1, hs1, hk2⟩ := hinv
        have hc := hgtC_in (σ (47 + s.toNat)) f.toNat k
        have hS1 : SI s1 := by
          intro i hi
          rw [hs1, rowS_ne (by omega)]
          exact hS i hi
        have e43 : s1 (43 + s.toNat) = σ (43 + s.toNat) := by rw [hs1]; exact rowS_ne (by omega)
        have e47 : s1 (47 + s.toNat) = σ (47 + s.toNat) := by rw [hs1]; exact rowS_ne (by omega)
        refine x_iload 77 C dX11_heights_75 rfl rfl ?_
        refine x_iload 79 C dX11_heights_77 rfl rfl ?_
        refine x_icmp_ge 173 82 C dX11_heights_79 rfl rfl (by omega) (by omega) (fun h79 => ?_) (fun h79 => ?_)
        · refine x_iload 175 C dX11_heights_173 rfl rfl ?_
          refine x_iret C T dX11_heights_175 ?_
          refine PI_i (by omega) ?_
          unfold rX_heights nX_heights
          first
            | (rw [if_neg (by omega), if_neg (by omega)]; exact ⟨rfl, rfl⟩)
            | (rw [if_pos (by omega), if_pos (by omega), if_neg (by omega)]; exact ⟨rfl, rfl⟩)
            | (rw [if_pos (by omega), if_neg (by omega), if_pos (by omega), if_neg (by omega)]; exact ⟨rfl, rfl⟩)
            | (have hkk : kH f (σ (43 + s.toNat) 2) n = k := by unfold kH; split <;> omega
               rw [if_pos (by omega), if_neg (by omega), if_neg (by omega), if_pos (by omega), if_pos (by omega), hkk]; exact ⟨rfl, hs1⟩)
            | (have hkk : kH f (σ (43 + s.toNat) 2) n = k := by unfold kH; split <;> omega
               rw [if_pos (by omega), if_neg (by omega), if_neg (by omega), if_neg (by omega), if_pos (by omega), hkk, show n.toNat = k by omega]; exact ⟨hz1, hs1⟩)
        refine x_iload_n 83 C dX11_heights_82 rfl rfl rfl ?_
        refine x_iconst 84 C dX11_heights_83 rfl ?_
        refine x_iload 86 C dX11_heights_84 rfl rfl ?_
        refine x_imul 87 C dX11_heights_86 rfl ?_
        refine x_iadd 88 C dX11_heights_87 rfl ?_
        refine x_wrap 88 C rfl ?_
        have hwr := wrap_in (f + 2 * (k : Int))
        have hw0 : k = 0 → wrap (f + 2 * (k : Int)) = f := fun h => by rw [h]; exact wrap_id (x := f + 2 * ((0 : Nat) : Int)) (by omega) |>.trans (by omega)
        have hw1 : (0 ≤ f ∧ f + 2 * k ≤ 40) → wrap (f + 2 * (k : Int)) = f + 2 * k := fun h => wrap_id (by omega)
        refine x_istore_8 90 C dX11_heights_88 rfl rfl ?_
        refine x_aload 92 C dX11_heights_90 rfl rfl ?_
        refine x_iload 94 C dX11_heights_92 rfl rfl ?_
        refine x_iconst 95 C dX11_heights_94 rfl ?_
        refine x_callVe 98 C dX11_heights_95 rfl (c_X6_holds (by omega) (by omega) (by omega) hS1) (sh_sheet (i := s.toNat) (by omega)) (by unfold NN; omega) rfl tb_4_109 tb_4_110 tb_4_111 tb_1_19 tb_4_112 (na := 2) (by decide +kernel) rfl ⟨by decide, by decide⟩ rfl (Nat.le_of_ble_eq_true rfl) rfl (fun r95 => ?_)
        first
          | refine x_ifb_ne 104 101 C dX11_heights_98 rfl rfl (fun h98 => ?_) (fun h98 => ?_)
          | refine x_if_ne 104 101 C dX11_heights_98 rfl rfl (by omega) (fun h98 => ?_) (fun h98 => ?_)
        rotate_left
        · rw [e43] at h98
          refine x_bipush 103 C dX11_heights_101 rfl rfl ?_
          refine x_iret C T dX11_heights_103 ?_
          refine PI_i (by omega) ?_
          unfold rX_heights nX_heights
          first
            | (rw [if_neg (by omega), if_neg (by omega)]; exact ⟨rfl, rfl⟩)
            | (rw [if_pos (by omega), if_pos (by omega), if_neg (by omega)]; exact ⟨rfl, rfl⟩)
            | (rw [if_pos (by omega), if_neg (by omega), if_pos (by omega), if_neg (by omega)]; exact ⟨rfl, rfl⟩)
            | (have hkk : kH f (σ (43 + s.toNat) 2) n = k := by unfold kH; split <;> omega
               rw [if_pos (by omega), if_neg (by omega), if_neg (by omega), if_pos (by omega), if_pos (by omega), hkk]; exact ⟨rfl, hs1⟩)
            | (have hkk : kH f (σ (43 + s.toNat) 2) n = k := by unfold kH; split <;> omega
               rw [if_pos (by omega), if_neg (by omega), if_neg (by omega), if_neg (by omega), if_pos (by omega), hkk, show n.toNat = k by omega]; exact ⟨hz1, hs1⟩)
        rw [e43] at h98
        have hw2 : wrap (f + 2 * (k : Int)) = f + 2 * k := by rcases hk2 with h | h <;> first | (rw [hw0 h]; omega) | exact hw1 (by omega)
        have hix : (wrap (f + 2 * (k : Int))).toNat = f.toNat + 2 * k := by omega
        have hix2 : (wrap (f + 2 * (k : Int)) + 1).toNat = f.toNat + 2 * k + 1 := by omega
        refine x_aload 106 C dX11_heights_104 rfl rfl ?_
        have J167 : ∀ (z2 : Int) (s2 : Sig), (z2 = hgtC (σ (47 + s.toNat)) f.toNat (k + 1) ∧ s2 = rowS σ 2 (hgtR (σ 2) (σ (47 + s.toNat)) f.toNat (k + 1))) → Ex K G (NN tc) ρ (shp tc cl) 167 [some (.ref (ρ 0)), some (.int (iZ s)), some (.int (iZ q)), some (.int (iZ f)), some (.int (iZ n)), some (.ref (ρ (43 + s.toNat))), some (.int (iZ z2)), some (.int (iZ (k : Int))), some (.int (iZ (wrap (f + 2 * (k : Int)))))] [] s2 := by
          intro z2 s2 hinv
          obtain ⟨hz2, hs2⟩ := hinv
          refine x_iinc_7 170 C dX11_heights_167 rfl rfl ?_
          refine x_goto 75 C dX11_heights_170 rfl ?_
          refine x_drop_8 ?_
          exact ih _ (by omega) (k + 1) _ _ _ rfl ⟨by omega, by omega, hz2, hs2, Or.inr ⟨by omega, by omega⟩⟩
        refine x_getr (j := 0) 109 C (sh_sheet (i := s.toNat) (by omega)) (by unfold NN; omega) rfl rfl (by decide) inT6 tb_2_161 rfl dX11_heights_106 rfl ?_
        refine x_iload 111 C dX11_heights_109 rfl rfl ?_
        refine x_iald 112 C (sh_items (i := s.toNat) (by omega)) (by unfold NN; omega) dX11_heights_111 rfl (by omega) (by omega) (fun r111 => ?_)
        rw [e47, hix]; rw [e47, hix] at r111
        refine x_bipush 114 C dX11_heights_112 rfl rfl ?_
        refine x_callSe 117 C dX11_heights_114 rfl (c_X11_isWithin (by omega) (by omega)) tb_2_214 tb_2_215 tb_1_1 tb_2_216 (na := 2) (by decide +kernel) rfl ⟨by decide, by decide⟩ rfl (Nat.le_of_ble_eq_true rfl) rfl (fun r114 => ?_)
        first
          | refine x_ifb_eq 167 120 C dX11_heights_117 rfl rfl (fun h117 => ?_) (fun h117 => ?_)
          | refine x_if_eq 167 120 C dX11_heights_117 rfl rfl (by omega) (fun h117 => ?_) (fun h117 => ?_)
        · refine J167 _ _ ⟨?_, ?_⟩
          · rw [hz1, hgtC]
            first | (exfalso; omega) | rw [if_pos (by omega)] | (rw [if_neg (by omega)]; omega)
          · rw [hs1]
            funext a b
            simp only [up, rowS, hgtR]
            by_cases ha : a = 2
            · subst ha
              simp only [if_true]
              first
                | (rw [if_neg (show ¬ (_ ∧ _) by omega)]; done)
                | (by_cases hb : b = (σ (47 + s.toNat) (f.toNat + 2 * k)).toNat
                   · rw [if_pos (by omega), if_pos (by omega)]
                   · rw [if_neg (by omega), if_neg (by omega)])
            · simp [ha]
        refine x_aload 122 C dX11_heights_120 rfl rfl ?_
        refine x_getr (j := 0) 125 C (sh_sheet (i := s.toNat) (by omega)) (by unfold NN; omega) rfl rfl (by decide) inT6 tb_2_161 rfl dX11_heights_122 rfl ?_
        refine x_iload 127 C dX11_heights_125 rfl rfl ?_
        refine x_iconst 128 C dX11_heights_127 rfl ?_
        refine x_iadd 129 C dX11_heights_128 rfl ?_
        refine x_iald 130 C (sh_items (i := s.toNat) (by omega)) (by unfold NN; omega) dX11_heights_129 rfl (by omega) (by omega) (fun r129 => ?_)
        rw [e47, hix2]; rw [e47, hix2] at r129
        refine x_bipush 132 C dX11_heights_130 rfl rfl ?_
        refine x_callSe 135 C dX11_heights_132 rfl (c_X11_isWithin (by omega) (by omega)) tb_2_214 tb_2_215 tb_1_1 tb_2_216 (na := 2) (by decide +kernel) rfl ⟨by decide, by decide⟩ rfl (Nat.le_of_ble_eq_true rfl) rfl (fun r132 => ?_)
        first
          | refine x_ifb_eq 167 138 C dX11_heights_135 rfl rfl (fun h135 => ?_) (fun h135 => ?_)
          | refine x_if_eq 167 138 C dX11_heights_135 rfl rfl (by omega) (fun h135 => ?_) (fun h135 => ?_)
        · refine J167 _ _ ⟨?_, ?_⟩
          · rw [hz1, hgtC]
            first | (exfalso; omega) | rw [if_pos (by omega)] | (rw [if_neg (by omega)]; omega)
          · rw [hs1]
            funext a b
            simp only [up, rowS, hgtR]
            by_cases ha : a = 2
            · subst ha
              simp only [if_true]
              first
                | (rw [if_neg (show ¬ (_ ∧ _) by omega)]; done)
                | (by_cases hb : b = (σ (47 + s.toNat) (f.toNat + 2 * k)).toNat
                   · rw [if_pos (by omega), if_pos (by omega)]
                   · rw [if_neg (by omega), if_neg (by omega)])
            · simp [ha]
        refine x_aload_n 139 C dX11_heights_138 rfl rfl rfl ?_
        refine x_getr (j := 0) 142 C rfl (lt79 (by decide)) rfl rfl (by decide) inT11 tb_2_173 rfl dX11_heights_139 rfl ?_
        refine x_getr (j := 0) 145 C rfl (lt79 (by decide)) rfl rfl (by decide) inT9 tb_1_36 rfl dX11_heights_142 rfl ?_
        refine x_aload 147 C dX11_heights_145 rfl rfl ?_
        refine x_getr (j := 0) 150 C (sh_sheet (i := s.toNat) (by omega)) (by unfold NN; omega) rfl rfl (by decide) inT6 tb_2_161 rfl dX11_heights_147 rfl ?_
        refine x_iload 152 C dX11_heights_150 rfl rfl ?_
        refine x_iald 153 C (sh_items (i := s.toNat) (by omega)) (by unfold NN; omega) dX11_heights_152 rfl (by omega) (by omega) (fun r152 => ?_)
        rw [e47, hix]; rw [e47, hix] at r152
        refine x_aload 155 C dX11_heights_153 rfl rfl ?_
        refine x_getr (j := 0) 158 C (sh_sheet (i := s.toNat) (by omega)) (by unfold NN; omega) rfl rfl (by decide) inT6 tb_2_161 rfl dX11_heights_155 rfl ?_
        refine x_iload 160 C dX11_heights_158 rfl rfl ?_
        refine x_iconst 161 C dX11_heights_160 rfl ?_
        refine x_iadd 162 C dX11_heights_161 rfl ?_
        refine x_iald 163 C (sh_items (i := s.toNat) (by omega)) (by unfold NN; omega) dX11_heights_162 rfl (by omega) (by omega) (fun r162 => ?_)
        rw [e47, hix2]; rw [e47, hix2] at r162
        refine x_iast 164 C rfl (lt79 (by decide)) dX11_heights_163 rfl (by omega) (by omega) (by omega) ?_
        refine x_iinc_6 167 C dX11_heights_164 rfl rfl ?_
        refine J167 _ _ ⟨?_, ?_⟩
        · rw [hz1, hgtC]
          first | (exfalso; omega) | rw [if_pos (by omega)] | (rw [if_neg (by omega)]; omega)
        · rw [hs1]
          funext a b
          simp only [up, rowS, hgtR]
          by_cases ha : a = 2
          · subst ha
            simp only [if_true]
            first
              | (rw [if_neg (show ¬ (_ ∧ _) by omega)]; done)
              | (by_cases hb : b = (σ (47 + s.toNat) (f.toNat + 2 * k)).toNat
                 · rw [if_pos (by omega), if_pos (by omega)]
                 · rw [if_neg (by omega), if_neg (by omega)])
          · simp [ha]
    exact L75 _ 0 _ _ _ rfl ⟨by omega, rfl, rfl, by rw [hgtR, rowS_self], Or.inl rfl⟩
  refine x_bipush 68 C dX11_heights_66 rfl rfl ?_
  refine x_iret C T dX11_heights_68 ?_
  refine PI_i (by omega) ?_
  unfold rX_heights nX_heights
  first
    | (rw [if_neg (by omega), if_neg (by omega)]; exact ⟨rfl, rfl⟩)
    | (rw [if_pos (by omega), if_pos (by omega), if_neg (by omega)]; exact ⟨rfl, rfl⟩)
    | (rw [if_pos (by omega), if_neg (by omega), if_pos (by omega), if_neg (by omega)]; exact ⟨rfl, rfl⟩)
    | (have hkk : kH f (σ (43 + s.toNat) 2) n = k := by unfold kH; split <;> omega
       rw [if_pos (by omega), if_neg (by omega), if_neg (by omega), if_pos (by omega), if_pos (by omega), hkk]; exact ⟨rfl, hs1⟩)
    | (have hkk : kH f (σ (43 + s.toNat) 2) n = k := by unfold kH; split <;> omega
       rw [if_pos (by omega), if_neg (by omega), if_neg (by omega), if_neg (by omega), if_pos (by omega), hkk, show n.toNat = k by omega]; exact ⟨hz1, hs1⟩)
