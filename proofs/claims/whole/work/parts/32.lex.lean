set_option maxHeartbeats 4000000 in
set_option maxRecDepth 100000 in
theorem c_X5_isLetter {l : Launch} {G : Gt} {ρ : Nat → Nat} {N : Nat} {sh : Nat → Shc} {σ : Sig} {v : Int} (hv : -2147483648 ≤ v ∧ v ≤ 2147483647) : MX l yX5_isLetter cX5_isLetter 1 (some .boolean) 0 0 G N ρ sh [.int (iZ v)] σ (PE σ (b2 (97 ≤ v ∧ v ≤ 122))) := by
  refine MX_of [some (.int (iZ v))] (by decide +kernel) rfl rfl (Nat.le_of_ble_eq_true rfl) ?_
  intro K hKl C T hRng
  subst hKl
  refine x_iload_n 1 C dX5_isLetter_0 rfl rfl rfl ?_
  refine x_bipush 3 C dX5_isLetter_1 rfl rfl ?_
  refine x_icmp_lt 16 6 C dX5_isLetter_3 rfl rfl (by omega) (by omega) (fun h3 => ?_) (fun h3 => ?_)
  · refine x_iconst 17 C dX5_isLetter_16 rfl ?_
    refine x_zret C T dX5_isLetter_17 (by omega) ?_
    exact PE_i (by unfold b2; split <;> omega) (by omega)
  refine x_iload_n 7 C dX5_isLetter_6 rfl rfl rfl ?_
  refine x_bipush 9 C dX5_isLetter_7 rfl rfl ?_
  refine x_icmp_gt 16 12 C dX5_isLetter_9 rfl rfl (by omega) (by omega) (fun h9 => ?_) (fun h9 => ?_)
  · refine x_iconst 17 C dX5_isLetter_16 rfl ?_
    refine x_zret C T dX5_isLetter_17 (by omega) ?_
    exact PE_i (by unfold b2; split <;> omega) (by omega)
  refine x_iconst 13 C dX5_isLetter_12 rfl ?_
  refine x_goto 17 C dX5_isLetter_13 rfl ?_
  refine x_zret C T dX5_isLetter_17 (by omega) ?_
  exact PE_i (by unfold b2; split <;> omega) (by omega)

set_option maxHeartbeats 4000000 in
set_option maxRecDepth 100000 in
theorem c_X5_isDigit {l : Launch} {G : Gt} {ρ : Nat → Nat} {N : Nat} {sh : Nat → Shc} {σ : Sig} {v : Int} (hv : -2147483648 ≤ v ∧ v ≤ 2147483647) : MX l yX5_isDigit cX5_isDigit 1 (some .boolean) 0 0 G N ρ sh [.int (iZ v)] σ (PE σ (b2 (48 ≤ v ∧ v ≤ 57))) := by
  refine MX_of [some (.int (iZ v))] (by decide +kernel) rfl rfl (Nat.le_of_ble_eq_true rfl) ?_
  intro K hKl C T hRng
  subst hKl
  refine x_iload_n 1 C dX5_isDigit_0 rfl rfl rfl ?_
  refine x_bipush 3 C dX5_isDigit_1 rfl rfl ?_
  refine x_icmp_lt 16 6 C dX5_isDigit_3 rfl rfl (by omega) (by omega) (fun h3 => ?_) (fun h3 => ?_)
  · refine x_iconst 17 C dX5_isDigit_16 rfl ?_
    refine x_zret C T dX5_isDigit_17 (by omega) ?_
    exact PE_i (by unfold b2; split <;> omega) (by omega)
  refine x_iload_n 7 C dX5_isDigit_6 rfl rfl rfl ?_
  refine x_bipush 9 C dX5_isDigit_7 rfl rfl ?_
  refine x_icmp_gt 16 12 C dX5_isDigit_9 rfl rfl (by omega) (by omega) (fun h9 => ?_) (fun h9 => ?_)
  · refine x_iconst 17 C dX5_isDigit_16 rfl ?_
    refine x_zret C T dX5_isDigit_17 (by omega) ?_
    exact PE_i (by unfold b2; split <;> omega) (by omega)
  refine x_iconst 13 C dX5_isDigit_12 rfl ?_
  refine x_goto 17 C dX5_isDigit_13 rfl ?_
  refine x_zret C T dX5_isDigit_17 (by omega) ?_
  exact PE_i (by unfold b2; split <;> omega) (by omega)

set_option maxHeartbeats 4000000 in
set_option maxRecDepth 100000 in
theorem c_X5_isSign {l : Launch} {G : Gt} {ρ : Nat → Nat} {N : Nat} {sh : Nat → Shc} {σ : Sig} {v : Int} (hv : -2147483648 ≤ v ∧ v ≤ 2147483647) : MX l yX5_isSign cX5_isSign 1 (some .boolean) 0 0 G N ρ sh [.int (iZ v)] σ (PE σ (b2 (v = 40 ∨ v = 41 ∨ v = 59 ∨ v = 43 ∨ v = 45 ∨ v = 42 ∨ v = 60 ∨ v = 61))) := by
  refine MX_of [some (.int (iZ v))] (by decide +kernel) rfl rfl (Nat.le_of_ble_eq_true rfl) ?_
  intro K hKl C T hRng
  subst hKl
  refine x_iload_n 1 C dX5_isSign_0 rfl rfl rfl ?_
  refine x_bipush 3 C dX5_isSign_1 rfl rfl ?_
  refine x_icmp_eq 48 6 C dX5_isSign_3 rfl rfl (by omega) (by omega) (fun h3 => ?_) (fun h3 => ?_)
  · refine x_iconst 49 C dX5_isSign_48 rfl ?_
    refine x_goto 53 C dX5_isSign_49 rfl ?_
    refine x_zret C T dX5_isSign_53 (by omega) ?_
    exact PE_i (by unfold b2; split <;> omega) (by omega)
  refine x_iload_n 7 C dX5_isSign_6 rfl rfl rfl ?_
  refine x_bipush 9 C dX5_isSign_7 rfl rfl ?_
  refine x_icmp_eq 48 12 C dX5_isSign_9 rfl rfl (by omega) (by omega) (fun h9 => ?_) (fun h9 => ?_)
  · refine x_iconst 49 C dX5_isSign_48 rfl ?_
    refine x_goto 53 C dX5_isSign_49 rfl ?_
    refine x_zret C T dX5_isSign_53 (by omega) ?_
    exact PE_i (by unfold b2; split <;> omega) (by omega)
  refine x_iload_n 13 C dX5_isSign_12 rfl rfl rfl ?_
  refine x_bipush 15 C dX5_isSign_13 rfl rfl ?_
  refine x_icmp_eq 48 18 C dX5_isSign_15 rfl rfl (by omega) (by omega) (fun h15 => ?_) (fun h15 => ?_)
  · refine x_iconst 49 C dX5_isSign_48 rfl ?_
    refine x_goto 53 C dX5_isSign_49 rfl ?_
    refine x_zret C T dX5_isSign_53 (by omega) ?_
    exact PE_i (by unfold b2; split <;> omega) (by omega)
  refine x_iload_n 19 C dX5_isSign_18 rfl rfl rfl ?_
  refine x_bipush 21 C dX5_isSign_19 rfl rfl ?_
  refine x_icmp_eq 48 24 C dX5_isSign_21 rfl rfl (by omega) (by omega) (fun h21 => ?_) (fun h21 => ?_)
  · refine x_iconst 49 C dX5_isSign_48 rfl ?_
    refine x_goto 53 C dX5_isSign_49 rfl ?_
    refine x_zret C T dX5_isSign_53 (by omega) ?_
    exact PE_i (by unfold b2; split <;> omega) (by omega)
  refine x_iload_n 25 C dX5_isSign_24 rfl rfl rfl ?_
  refine x_bipush 27 C dX5_isSign_25 rfl rfl ?_
  refine x_icmp_eq 48 30 C dX5_isSign_27 rfl rfl (by omega) (by omega) (fun h27 => ?_) (fun h27 => ?_)
  · refine x_iconst 49 C dX5_isSign_48 rfl ?_
    refine x_goto 53 C dX5_isSign_49 rfl ?_
    refine x_zret C T dX5_isSign_53 (by omega) ?_
    exact PE_i (by unfold b2; split <;> omega) (by omega)
  refine x_iload_n 31 C dX5_isSign_30 rfl rfl rfl ?_
  refine x_bipush 33 C dX5_isSign_31 rfl rfl ?_
  refine x_icmp_eq 48 36 C dX5_isSign_33 rfl rfl (by omega) (by omega) (fun h33 => ?_) (fun h33 => ?_)
  · refine x_iconst 49 C dX5_isSign_48 rfl ?_
    refine x_goto 53 C dX5_isSign_49 rfl ?_
    refine x_zret C T dX5_isSign_53 (by omega) ?_
    exact PE_i (by unfold b2; split <;> omega) (by omega)
  refine x_iload_n 37 C dX5_isSign_36 rfl rfl rfl ?_
  refine x_bipush 39 C dX5_isSign_37 rfl rfl ?_
  refine x_icmp_eq 48 42 C dX5_isSign_39 rfl rfl (by omega) (by omega) (fun h39 => ?_) (fun h39 => ?_)
  · refine x_iconst 49 C dX5_isSign_48 rfl ?_
    refine x_goto 53 C dX5_isSign_49 rfl ?_
    refine x_zret C T dX5_isSign_53 (by omega) ?_
    exact PE_i (by unfold b2; split <;> omega) (by omega)
  refine x_iload_n 43 C dX5_isSign_42 rfl rfl rfl ?_
  refine x_bipush 45 C dX5_isSign_43 rfl rfl ?_
  refine x_icmp_ne 52 48 C dX5_isSign_45 rfl rfl (by omega) (by omega) (fun h45 => ?_) (fun h45 => ?_)
  · refine x_iconst 53 C dX5_isSign_52 rfl ?_
    refine x_zret C T dX5_isSign_53 (by omega) ?_
    exact PE_i (by unfold b2; split <;> omega) (by omega)
  refine x_iconst 49 C dX5_isSign_48 rfl ?_
  refine x_goto 53 C dX5_isSign_49 rfl ?_
  refine x_zret C T dX5_isSign_53 (by omega) ?_
  exact PE_i (by unfold b2; split <;> omega) (by omega)

/-- the Reader and its two rows stand in the world -/
def RW (N : Nat) (sh : Nat → Shc) : Prop := 31 ≤ N ∧ sh 28 = cO 5 [32, 0, 0, 0, 0, 0, 33, 0] ∧ sh 29 = cA 160 ∧ sh 30 = cA 160
/-- what reading tokens leaves as it is -/
def FR (σ σ' : Sig) : Prop := (∀ a b, a ≠ 28 → σ' a b = σ a b) ∧ (∀ b, b ≠ 2 → b ≠ 3 → b ≠ 4 → b ≠ 5 → σ' 28 b = σ 28 b)
theorem FR_refl (σ : Sig) : FR σ σ := ⟨fun _ _ _ => rfl, fun _ _ _ _ _ => rfl⟩
theorem FR_trans {σ s1 s2 : Sig} (h : FR σ s1) (h2 : FR s1 s2) : FR σ s2 := ⟨fun a b ha => (h2.1 a b ha).trans (h.1 a b ha), fun b h3 h4 h5 h6 => (h2.2 b h3 h4 h5 h6).trans (h.2 b h3 h4 h5 h6)⟩
theorem FR_up {σ s1 : Sig} {i : Nat} {v : Int} (h : FR σ s1) (hi : i = 2 ∨ i = 3 ∨ i = 4 ∨ i = 5) : FR σ (up s1 28 i v) := ⟨fun a b ha => by rw [up_r ha]; exact h.1 a b ha, fun b h3 h4 h5 h6 => by rw [up_i (by omega)]; exact h.2 b h3 h4 h5 h6⟩
theorem FR_row {σ s1 : Sig} (h : FR σ s1) {a : Nat} (ha : a ≠ 28) : s1 a = σ a := funext fun b => h.1 a b ha
/-- the numbers' worth as ints are counted -/
def decW (b : Nat → Int) (a : Nat) : Nat → Int
  | 0 => 0
  | l + 1 => wrap (10 * decW b a l + b (a + l) - 48)
theorem decV_in {b : Nat → Int} {a : Nat} : ∀ l, (∀ j, j < l → 48 ≤ b (a + j) ∧ b (a + j) ≤ 57) → 0 ≤ decV b a l ∧ decV b a l < 10 ^ l
  | 0, _ => by simp [decV]
  | l + 1, h => by
    have h1 := decV_in (b := b) (a := a) l (fun j hj => h j (by omega))
    have h2 := h l (by omega)
    simp only [decV]
    have : (10 : Int) ^ (l + 1) = 10 * 10 ^ l := by rw [Int.pow_succ]; omega
    omega
theorem decW_eq {b : Nat → Int} {a : Nat} : ∀ l, l ≤ 4 → (∀ j, j < l → 48 ≤ b (a + j) ∧ b (a + j) ≤ 57) → decW b a l = decV b a l
  | 0, _, _ => rfl
  | l + 1, hl, h => by
    have h1 := decV_in (b := b) (a := a) (l + 1) h
    have h2 : (10 : Int) ^ (l + 1) ≤ 10000 := by
      have : l = 0 ∨ l = 1 ∨ l = 2 ∨ l = 3 := by omega
      rcases this with rfl | rfl | rfl | rfl <;> decide
    simp only [decW]
    rw [decW_eq l (by omega) (fun j hj => h j (by omega))]
    simp only [decV] at h1 ⊢
    exact wrap_id (by omega)
theorem decW_in (b : Nat → Int) (a : Nat) : ∀ l, -2147483648 ≤ decW b a l ∧ decW b a l ≤ 2147483647
  | 0 => by simp [decW]
  | l + 1 => wrap_in _
set_option maxHeartbeats 4000000 in
set_option maxRecDepth 100000 in
theorem c_X5_readNumber {l : Launch} {G : Gt} {ρ : Nat → Nat} {N : Nat} {sh : Nat → Shc} {σ : Sig} {a : Nat} {n : Nat} (hn : σ 28 1 = n) (hn1 : n ≤ 160) (ha : σ 28 2 = a) (he : σ 28 3 = a) (han : a < n) (hW : RW N sh) : MX l yX5_readNumber cX5_readNumber 1 none 1 20 G N ρ sh [.ref (ρ 28)] σ (PV (fun σ' => FR σ σ' ∧ σ' 28 2 = a ∧ σ' 28 3 = ((a + runF bD (σ 29) (n - a) a : Nat) : Int) ∧ σ' 28 4 = (if runF bD (σ 29) (n - a) a ≤ 4 then 2 else 1) ∧ (runF bD (σ 29) (n - a) a ≤ 4 → σ' 28 5 = decV (σ 29) a (runF bD (σ 29) (n - a) a)))) := by
  refine MX_of [some (.ref (ρ 28))] (by decide +kernel) rfl rfl (Nat.le_of_ble_eq_true rfl) ?_
  intro K hKl C T hRng
  subst hKl
  refine x_aload_n 1 C dX5_readNumber_0 rfl rfl rfl ?_
  refine x_iconst 2 C dX5_readNumber_1 rfl ?_
  refine x_puti (j := 5) tyX5 5 C hW.2.1 (by have := hW.1; omega) rfl rfl (by decide) inT5 tyX5_ok nmX5 tb_1_158 rfl rfl rfl dX5_readNumber_2 rfl (by omega) ?_
  have L5 : ∀ (m : Nat) (j : Nat) (s1 : Sig), m = n - (a + j) → (a + j ≤ n ∧ FR σ s1 ∧ s1 28 2 = a ∧ s1 28 3 = ((a + j : Nat) : Int) ∧ s1 28 5 = decW (σ 29) a j ∧ (∀ i, i < j → bD (σ 29 (a + i)) = true)) → Ex K G N ρ sh 5 [some (.ref (ρ 28))] [] s1 := by
    intro m
    induction m using Nat.strongRecOn with
    | ind m ih =>
      intro j s1 hm hinv
      obtain ⟨hj, hF, h2, h3, h5, hd⟩ := hinv
      have e29 : s1 29 = σ 29 := FR_row hF (by omega)
      have e1 : s1 28 1 = n := (hF.2 1 (by omega) (by omega) (by omega) (by omega)).trans hn
      have hdw := decW_in (σ 29) a j
      have hix : (s1 28 3).toNat = a + j := by omega
      have hr29 := hRng 29 (a + j) (by omega)
      refine x_aload_n 6 C dX5_readNumber_5 rfl rfl rfl ?_
      refine x_geti (j := 3) 9 C hW.2.1 (by have := hW.1; omega) rfl rfl (by decide) inT5 tb_1_156 rfl dX5_readNumber_6 rfl (fun r6 => ?_)
      refine x_aload_n 10 C dX5_readNumber_9 rfl rfl rfl ?_
      refine x_geti (j := 1) 13 C hW.2.1 (by have := hW.1; omega) rfl rfl (by decide) inT5 tb_1_153 rfl dX5_readNumber_10 rfl (fun r10 => ?_)
      refine x_icmp_ge 68 16 C dX5_readNumber_13 rfl rfl (by omega) (by omega) (fun h13 => ?_) (fun h13 => ?_)
      · have hrun : runF bD (σ 29) (n - a) a = j := runF_eq _ _ _ (by omega) hd (fun h => absurd h (by omega))
        have J87 : ∀ (w : Int), (w = (if runF bD (σ 29) (n - a) a ≤ 4 then 2 else 1)) → Ex K G N ρ sh 87 [some (.ref (ρ 28))] [.int (iZ w), .ref (ρ 28)] s1 := by
          intro w hinv
          have hw : w = 1 ∨ w = 2 := by rw [hinv]; split <;> omega
          refine x_puti (j := 4) tyX5 90 C hW.2.1 (by have := hW.1; omega) rfl rfl (by decide) inT5 tyX5_ok nmX5 tb_1_157 rfl rfl rfl dX5_readNumber_87 rfl (by omega) ?_
          refine x_vret C T dX5_readNumber_90 ?_
          refine PV_i ⟨FR_up hF (by omega), (up_i (by omega)).trans h2, ?_, ?_, fun h4 => ?_⟩
          · rw [up_i (by omega), hrun]; exact h3
          · rw [up_s]; exact hinv
          · rw [up_i (by omega), h5]
            rw [hrun] at h4 ⊢
            exact decW_eq j h4 (fun i hi => by have := hd i hi; unfold bD at this; simpa using this)
        refine x_aload_n 69 C dX5_readNumber_68 rfl rfl rfl ?_
        refine x_aload_n 70 C dX5_readNumber_69 rfl rfl rfl ?_
        refine x_geti (j := 3) 73 C hW.2.1 (by have := hW.1; omega) rfl rfl (by decide) inT5 tb_1_156 rfl dX5_readNumber_70 rfl (fun r70 => ?_)
        refine x_aload_n 74 C dX5_readNumber_73 rfl rfl rfl ?_
        refine x_geti (j := 2) 77 C hW.2.1 (by have := hW.1; omega) rfl rfl (by decide) inT5 tb_1_155 rfl dX5_readNumber_74 rfl (fun r74 => ?_)
        refine x_isub 78 C dX5_readNumber_77 rfl ?_
        refine x_iconst 79 C dX5_readNumber_78 rfl ?_
        refine x_icmp_le 86 82 C dX5_readNumber_79 rfl rfl (by omega) (by omega) (fun h79 => ?_) (fun h79 => ?_)
        · refine x_iconst 87 C dX5_readNumber_86 rfl ?_
          exact J87 _ (by rw [hrun]; first | rw [if_neg (by omega)] | rw [if_pos (by omega)])
        refine x_iconst 83 C dX5_readNumber_82 rfl ?_
        refine x_goto 87 C dX5_readNumber_83 rfl ?_
        exact J87 _ (by rw [hrun]; first | rw [if_neg (by omega)] | rw [if_pos (by omega)])
      refine x_aload_n 17 C dX5_readNumber_16 rfl rfl rfl ?_
      refine x_getr (j := 0) 20 C hW.2.1 (by have := hW.1; omega) rfl rfl (by decide) inT5 tb_1_151 rfl dX5_readNumber_17 rfl ?_
      refine x_aload_n 21 C dX5_readNumber_20 rfl rfl rfl ?_
      refine x_geti (j := 3) 24 C hW.2.1 (by have := hW.1; omega) rfl rfl (by decide) inT5 tb_1_156 rfl dX5_readNumber_21 rfl (fun r21 => ?_)
      refine x_iald 25 C hW.2.2.1 (by have := hW.1; omega) dX5_readNumber_24 rfl (by omega) (by omega) (fun r24 => ?_)
      refine x_callSe 28 C dX5_readNumber_25 rfl (c_X5_isDigit (by omega)) tb_2_15 tb_2_16 tb_1_9 tb_2_17 (na := 1) (by decide +kernel) rfl ⟨by decide, by decide⟩ rfl (Nat.le_of_ble_eq_true rfl) rfl (fun r25 => ?_)
      first
        | refine x_ifb_eq 68 31 C dX5_readNumber_28 rfl rfl (fun h28 => ?_) (fun h28 => ?_)
        | refine x_if_eq 68 31 C dX5_readNumber_28 rfl rfl (by omega) (fun h28 => ?_) (fun h28 => ?_)
      · have hrun : runF bD (σ 29) (n - a) a = j := runF_eq _ _ _ (by omega) hd (fun _ => by rw [e29, hix] at h28; unfold bD; simpa using h28)
        have J87 : ∀ (w : Int), (w = (if runF bD (σ 29) (n - a) a ≤ 4 then 2 else 1)) → Ex K G N ρ sh 87 [some (.ref (ρ 28))] [.int (iZ w), .ref (ρ 28)] s1 := by
          intro w hinv
          have hw : w = 1 ∨ w = 2 := by rw [hinv]; split <;> omega
          refine x_puti (j := 4) tyX5 90 C hW.2.1 (by have := hW.1; omega) rfl rfl (by decide) inT5 tyX5_ok nmX5 tb_1_157 rfl rfl rfl dX5_readNumber_87 rfl (by omega) ?_
          refine x_vret C T dX5_readNumber_90 ?_
          refine PV_i ⟨FR_up hF (by omega), (up_i (by omega)).trans h2, ?_, ?_, fun h4 => ?_⟩
          · rw [up_i (by omega), hrun]; exact h3
          · rw [up_s]; exact hinv
          · rw [up_i (by omega), h5]
            rw [hrun] at h4 ⊢
            exact decW_eq j h4 (fun i hi => by have := hd i hi; unfold bD at this; simpa using this)
        refine x_aload_n 69 C dX5_readNumber_68 rfl rfl rfl ?_
        refine x_aload_n 70 C dX5_readNumber_69 rfl rfl rfl ?_
        refine x_geti (j := 3) 73 C hW.2.1 (by have := hW.1; omega) rfl rfl (by decide) inT5 tb_1_156 rfl dX5_readNumber_70 rfl (fun r70 => ?_)
        refine x_aload_n 74 C dX5_readNumber_73 rfl rfl rfl ?_
        refine x_geti (j := 2) 77 C hW.2.1 (by have := hW.1; omega) rfl rfl (by decide) inT5 tb_1_155 rfl dX5_readNumber_74 rfl (fun r74 => ?_)
        refine x_isub 78 C dX5_readNumber_77 rfl ?_
        refine x_iconst 79 C dX5_readNumber_78 rfl ?_
        refine x_icmp_le 86 82 C dX5_readNumber_79 rfl rfl (by omega) (by omega) (fun h79 => ?_) (fun h79 => ?_)
        · refine x_iconst 87 C dX5_readNumber_86 rfl ?_
          exact J87 _ (by rw [hrun]; first | rw [if_neg (by omega)] | rw [if_pos (by omega)])
        refine x_iconst 83 C dX5_readNumber_82 rfl ?_
        refine x_goto 87 C dX5_readNumber_83 rfl ?_
        exact J87 _ (by rw [hrun]; first | rw [if_neg (by omega)] | rw [if_pos (by omega)])
      refine x_aload_n 32 C dX5_readNumber_31 rfl rfl rfl ?_
      refine x_bipush 34 C dX5_readNumber_32 rfl rfl ?_
      refine x_aload_n 35 C dX5_readNumber_34 rfl rfl rfl ?_
      refine x_geti (j := 5) 38 C hW.2.1 (by have := hW.1; omega) rfl rfl (by decide) inT5 tb_1_158 rfl dX5_readNumber_35 rfl (fun r35 => ?_)
      refine x_imul 39 C dX5_readNumber_38 rfl ?_
      refine x_aload_n 40 C dX5_readNumber_39 rfl rfl rfl ?_
      refine x_getr (j := 0) 43 C hW.2.1 (by have := hW.1; omega) rfl rfl (by decide) inT5 tb_1_151 rfl dX5_readNumber_40 rfl ?_
      refine x_aload_n 44 C dX5_readNumber_43 rfl rfl rfl ?_
      refine x_geti (j := 3) 47 C hW.2.1 (by have := hW.1; omega) rfl rfl (by decide) inT5 tb_1_156 rfl dX5_readNumber_44 rfl (fun r44 => ?_)
      refine x_iald 48 C hW.2.2.1 (by have := hW.1; omega) dX5_readNumber_47 rfl (by omega) (by omega) (fun r47 => ?_)
      refine x_iadd 49 C dX5_readNumber_48 rfl ?_
      refine x_bipush 51 C dX5_readNumber_49 rfl rfl ?_
      refine x_isub 52 C dX5_readNumber_51 rfl ?_
      refine x_wrap 52 C rfl ?_
      refine x_puti (j := 5) tyX5 55 C hW.2.1 (by have := hW.1; omega) rfl rfl (by decide) inT5 tyX5_ok nmX5 tb_1_158 rfl rfl rfl dX5_readNumber_52 rfl (wrap_in _) ?_
      refine x_aload_n 56 C dX5_readNumber_55 rfl rfl rfl ?_
      refine x_dup 57 C dX5_readNumber_56 rfl rfl ?_
      refine x_geti (j := 3) 60 C hW.2.1 (by have := hW.1; omega) rfl rfl (by decide) inT5 tb_1_156 rfl dX5_readNumber_57 rfl (fun r57 => ?_)
      refine x_iconst 61 C dX5_readNumber_60 rfl ?_
      refine x_iadd 62 C dX5_readNumber_61 rfl ?_
      refine x_puti (j := 3) tyX5 65 C hW.2.1 (by have := hW.1; omega) rfl rfl (by decide) inT5 tyX5_ok nmX5 tb_1_156 rfl rfl rfl dX5_readNumber_62 rfl (by rw [up_i (show (3 : Nat) ≠ 5 by decide)]; omega) ?_
      refine x_goto 5 C dX5_readNumber_65 rfl ?_
      refine ih _ ?_ (j + 1) _ rfl ⟨by omega, FR_up (FR_up hF (by omega)) (by omega), ?_, ?_, ?_, ?_⟩
      · omega
      · rw [up_i (by omega), up_i (by omega)]; exact h2
      · rw [up_s, up_i (by omega)]; omega
      · rw [up_i (by omega), up_s, h5, e29, hix]; rfl
      · intro i hi
        by_cases hij : i = j
        · subst hij; unfold bD; rw [e29, hix] at h28; simpa using h28
        · exact hd i (by omega)
  exact L5 _ 0 _ rfl ⟨by omega, FR_up (FR_refl σ) (by omega), (up_i (by omega)).trans ha, (up_i (by omega)).trans he, up_s, fun i hi => absurd hi (by omega)⟩

def spelS (b : Nat → Int) (a l fr to : Nat) : Bool := decide (l = to - fr) && (List.range l).all (fun j => decide (b (a + j) = chS 1 (fr + j)))
theorem spelS_iff {b : Nat → Int} {a l fr to : Nat} : spelS b a l fr to = true ↔ (l = to - fr ∧ ∀ j, j < l → b (a + j) = chS 1 (fr + j)) := by
  unfold spelS
  rw [Bool.and_eq_true, decide_eq_true_eq, List.all_eq_true]
  constructor
  · rintro ⟨h1, h2⟩
    exact ⟨h1, fun j hj => by simpa using h2 j (List.mem_range.mpr hj)⟩
  · rintro ⟨h1, h2⟩
    exact ⟨h1, fun j hj => by simpa using h2 j (List.mem_range.mp hj)⟩
theorem chS_in (i : Nat) : 0 ≤ chS 1 i ∧ chS 1 i ≤ 127 := by
  by_cases h : i < 58
  · exact (chS_all 1 (by decide) i h).2
  · have : chS 1 i = 0 := by
      unfold chS
      rw [List.getD_eq_getElem?_getD, List.getElem?_eq_none (by show 58 ≤ i; omega)]
      rfl
    omega
set_option maxHeartbeats 4000000 in
set_option maxRecDepth 100000 in
theorem c_X5_spells {l : Launch} {G : Gt} {ρ : Nat → Nat} {N : Nat} {sh : Nat → Shc} {σ : Sig} {a e fr to n : Nat} (hn : σ 28 1 = n) (hn1 : n ≤ 160) (ha : σ 28 2 = a) (he : σ 28 3 = e) (hae : a ≤ e) (hen : e ≤ n) (hft : fr ≤ to) (hto : to ≤ 57) (hW : RW N sh) : MX l yX5_spells cX5_spells 4 (some .boolean) 4 103 G N ρ sh [.ref (ρ 28), .int (iZ (fr : Int)), .int (iZ (to : Int))] σ (PE σ (b2 (spelS (σ 29) a (e - a) fr to = true))) := by
  refine MX_of [some (.ref (ρ 28)), some (.int (iZ (fr : Int))), some (.int (iZ (to : Int))), none] (by decide +kernel) rfl rfl (Nat.le_of_ble_eq_true rfl) ?_
  intro K hKl C T hRng
  subst hKl
  refine x_aload_n 1 C dX5_spells_0 rfl rfl rfl ?_
  refine x_geti (j := 3) 4 C hW.2.1 (by have := hW.1; omega) rfl rfl (by decide) inT5 tb_1_156 rfl dX5_spells_1 rfl (fun r1 => ?_)
  refine x_aload_n 5 C dX5_spells_4 rfl rfl rfl ?_
  refine x_geti (j := 2) 8 C hW.2.1 (by have := hW.1; omega) rfl rfl (by decide) inT5 tb_1_155 rfl dX5_spells_5 rfl (fun r5 => ?_)
  refine x_isub 9 C dX5_spells_8 rfl ?_
  refine x_iload_n 10 C dX5_spells_9 rfl rfl rfl ?_
  refine x_iload_n 11 C dX5_spells_10 rfl rfl rfl ?_
  refine x_isub 12 C dX5_spells_11 rfl ?_
  refine x_icmp_eq 17 15 C dX5_spells_12 rfl rfl (by omega) (by omega) (fun h12 => ?_) (fun h12 => ?_)
  · refine x_iload_n 18 C dX5_spells_17 rfl rfl rfl ?_
    refine x_istore_n3 19 C dX5_spells_18 rfl rfl ?_
    have L19 : ∀ (m : Nat) (j : Nat) (y : Int), m = to - (fr + j) → (fr + j ≤ to ∧ y = ((fr + j : Nat) : Int) ∧ ∀ i, i < j → σ 29 (a + i) = chS 1 (fr + i)) → Ex K G N ρ sh 19 [some (.ref (ρ 28)), some (.int (iZ (fr : Int))), some (.int (iZ (to : Int))), some (.int (iZ y))] [] σ := by
      intro m
      induction m using Nat.strongRecOn with
      | ind m ih =>
        intro j y hm hinv
        obtain ⟨hj, rfl, hd⟩ := hinv
        have hch := chS_in (fr + j)
        refine x_iload_n 20 C dX5_spells_19 rfl rfl rfl ?_
        refine x_iload_n 21 C dX5_spells_20 rfl rfl rfl ?_
        refine x_icmp_ge 54 24 C dX5_spells_21 rfl rfl (by omega) (by omega) (fun h21 => ?_) (fun h21 => ?_)
        · refine x_iconst 55 C dX5_spells_54 rfl ?_
          refine x_zret C T dX5_spells_55 (by omega) ?_
          refine PE_i ?_ (by omega)
          first
            | (rw [b2_f (fun h => by rw [spelS_iff] at h; omega)]; done)
            | (rw [b2_f (fun h => by
                 rw [spelS_iff] at h
                 rw [hix] at h43
                 exact h43 (h.2 j (by omega)))]; done)
            | (rw [b2_t (spelS_iff.mpr ⟨by omega, fun i hi => hd i (by omega)⟩)])
        refine x_aload_n 25 C dX5_spells_24 rfl rfl rfl ?_
        refine x_getr (j := 0) 28 C hW.2.1 (by have := hW.1; omega) rfl rfl (by decide) inT5 tb_1_151 rfl dX5_spells_25 rfl ?_
        refine x_aload_n 29 C dX5_spells_28 rfl rfl rfl ?_
        refine x_geti (j := 2) 32 C hW.2.1 (by have := hW.1; omega) rfl rfl (by decide) inT5 tb_1_155 rfl dX5_spells_29 rfl (fun r29 => ?_)
        refine x_iload_n 33 C dX5_spells_32 rfl rfl rfl ?_
        refine x_iadd 34 C dX5_spells_33 rfl ?_
        refine x_iload_n 35 C dX5_spells_34 rfl rfl rfl ?_
        refine x_isub 36 C dX5_spells_35 rfl ?_
        have hix : (σ 28 2 + ((fr + j : Nat) : Int) - (fr : Int)).toNat = a + j := by omega
        refine x_iald 37 C hW.2.2.1 (by have := hW.1; omega) dX5_spells_36 rfl (by omega) (by omega) (fun r36 => ?_)
        refine x_ldcW 39 C rfl dX5_spells_37 rfl ?_
        refine x_iload_n 40 C dX5_spells_39 rfl rfl rfl ?_
        refine x_callVse 43 C dX5_spells_40 rfl (c_J0_charAt_5068e (j := 1) (by decide) (i := ((fr + j : Nat) : Int)) ⟨by omega, by show ((fr + j : Nat) : Int) < ((58 : Nat) : Int); omega⟩) (by decide) tb_2_10 tb_1_190 tb_1_191 tb_1_10 tb_1_192 (na := 1) (by decide +kernel) rfl ⟨by decide, by decide⟩ rfl (Nat.le_of_ble_eq_true rfl) rfl (fun r40 => ?_)
        rw [Int.toNat_natCast] at *
        refine x_icmp_eq 48 46 C dX5_spells_43 rfl rfl (by omega) (by omega) (fun h43 => ?_) (fun h43 => ?_)
        · refine x_iinc_3 51 C dX5_spells_48 rfl rfl ?_
          refine x_goto 19 C dX5_spells_51 rfl ?_
          refine ih _ ?_ (j + 1) _ rfl ⟨by omega, by omega, ?_⟩
          · omega
          · intro i hi
            by_cases hij : i = j
            · subst hij; rw [hix] at h43; exact h43
            · exact hd i (by omega)
        refine x_iconst 47 C dX5_spells_46 rfl ?_
        refine x_zret C T dX5_spells_47 (by omega) ?_
        refine PE_i ?_ (by omega)
        first
          | (rw [b2_f (fun h => by rw [spelS_iff] at h; omega)]; done)
          | (rw [b2_f (fun h => by
               rw [spelS_iff] at h
               rw [hix] at h43
               exact h43 (h.2 j (by omega)))]; done)
          | (rw [b2_t (spelS_iff.mpr ⟨by omega, fun i hi => hd i (by omega)⟩)])
    exact L19 _ 0 _ rfl ⟨by omega, rfl, fun i hi => absurd hi (by omega)⟩
  refine x_iconst 16 C dX5_spells_15 rfl ?_
  refine x_zret C T dX5_spells_16 (by omega) ?_
  refine PE_i ?_ (by omega)
  first
    | (rw [b2_f (fun h => by rw [spelS_iff] at h; omega)]; done)
    | (rw [b2_f (fun h => by
         rw [spelS_iff] at h
         rw [hix] at h43
         exact h43 (h.2 j (by omega)))]; done)
    | (rw [b2_t (spelS_iff.mpr ⟨by omega, fun i hi => hd i (by omega)⟩)])

/-- of the row of words: how many blanks stand ahead of a place, where its word begins -/
def wcnt : Nat → Nat
  | 0 => 0
  | i + 1 => if chS 1 i = 32 then wcnt i + 1 else wcnt i
def wfrom : Nat → Nat
  | 0 => 0
  | i + 1 => if chS 1 i = 32 then i + 1 else wfrom i
theorem w_tab : ∀ i, i < 58 → (wfrom i ≤ i ∧ wcnt i ≤ 11 ∧ (chS 1 i = 32 → (wordsL.getD (wcnt i) []).length = i - wfrom i ∧ ∀ j, j < i - wfrom i → (wordsL.getD (wcnt i) []).getD j 0 = chS 1 (wfrom i + j))) := by decide +kernel
theorem wcnt_58 : wcnt 58 = 12 := by decide +kernel
theorem spel_iff {b : Nat → Int} {a l : Nat} {w : List Int} : spel b a l w = true ↔ (l = w.length ∧ ∀ j, j < l → b (a + j) = w.getD j 0) := by
  unfold spel
  rw [Bool.and_eq_true, decide_eq_true_eq, List.all_eq_true]
  constructor
  · rintro ⟨h1, h2⟩
    exact ⟨h1, fun j hj => by simpa using h2 j (List.mem_range.mpr hj)⟩
  · rintro ⟨h1, h2⟩
    exact ⟨h1, fun j hj => by simpa using h2 j (List.mem_range.mp hj)⟩
theorem spel_tab {b : Nat → Int} {a l i : Nat} (hi : i < 58) (h32 : chS 1 i = 32) : spelS b a l (wfrom i) i = true ↔ spel b a l (wordsL.getD (wcnt i) []) = true := by
  obtain ⟨-, -, h⟩ := w_tab i hi
  obtain ⟨h1, h2⟩ := h h32
  rw [spelS_iff, spel_iff, h1]
  constructor
  · rintro ⟨h3, h4⟩
    exact ⟨h3, fun j hj => by rw [h2 j (by omega)]; exact h4 j hj⟩
  · rintro ⟨h3, h4⟩
    exact ⟨h3, fun j hj => by rw [← h2 j (by omega)]; exact h4 j hj⟩
theorem w_apart : ∀ i, i < 12 → ∀ j, j < 12 → wordsL.getD i [] = wordsL.getD j [] → i = j := by decide +kernel
theorem spel_one {b : Nat → Int} {a l i j : Nat} (hi : i < 12) (hj : j < 12) (h1 : spel b a l (wordsL.getD i []) = true) (h2 : spel b a l (wordsL.getD j []) = true) : i = j := by
  rw [spel_iff] at h1 h2
  refine w_apart i hi j hj ?_
  apply List.ext_getElem (by omega)
  intro q q1 q2
  have e1 := h1.2 q (by omega)
  have e2 := h2.2 q (by omega)
  rw [e1] at e2
  have ge : ∀ (m : List Int) (h : q < m.length), m[q] = m.getD q 0 := fun m h => by rw [List.getD_eq_getElem?_getD, List.getElem?_eq_getElem h]; rfl
  rw [ge _ q1, ge _ q2]
  exact e2
theorem wIdx_at {b : Nat → Int} {a l i : Nat} (hi : i < 12) (h : spel b a l (wordsL.getD i []) = true) : wIdx b a l = i := by
  have hlt : wIdx b a l < wordsL.length := by
    unfold wIdx
    rw [List.findIdx_lt_length]
    refine ⟨wordsL.getD i [], ?_, h⟩
    rw [List.getD_eq_getElem?_getD, List.getElem?_eq_getElem (show i < wordsL.length from hi)]
    exact List.getElem_mem _
  have hp : spel b a l (wordsL.getD (wIdx b a l) []) = true := by
    have := List.findIdx_getElem (xs := wordsL) (p := spel b a l) (w := hlt)
    rw [List.getD_eq_getElem?_getD, List.getElem?_eq_getElem hlt]
    exact this
  exact spel_one hlt hi hp h
/-- what stands when the first c words have been looked at -/
def WST (b : Nat → Int) (a j c : Nat) (s : Sig) : Prop := (∃ q, q < c ∧ q < 12 ∧ spel b a j (wordsL.getD q []) = true ∧ s 28 4 = (if q < 6 then 3 else (q : Int) - 2) ∧ s 28 5 = q) ∨ ((∀ q, q < c → spel b a j (wordsL.getD q []) = false) ∧ s 28 4 = 1)
theorem wIdx_12 {b : Nat → Int} {a l : Nat} (h : ∀ i, i < 12 → spel b a l (wordsL.getD i []) = false) : wIdx b a l = 12 := by
  unfold wIdx
  rw [show (12 : Nat) = wordsL.length from rfl, List.findIdx_eq_length]
  intro x hx
  obtain ⟨i, hi⟩ := List.getElem?_of_mem hx
  have hlt := (List.getElem?_eq_some_iff.mp hi).1
  have := h i hlt
  rw [List.getD_eq_getElem?_getD, hi] at this
  exact this
set_option maxHeartbeats 4000000 in
set_option maxRecDepth 100000 in
theorem c_X5_readWord {l : Launch} {G : Gt} {ρ : Nat → Nat} {N : Nat} {sh : Nat → Shc} {σ : Sig} {a n : Nat} (hn : σ 28 1 = n) (hn1 : n ≤ 160) (ha : σ 28 2 = a) (he : σ 28 3 = a) (han : a < n) (hW : RW N sh) : MX l yX5_readWord cX5_readWord 4 none 5 126 G N ρ sh [.ref (ρ 28)] σ (PV (fun σ' => FR σ σ' ∧ σ' 28 2 = a ∧ σ' 28 3 = ((a + runF bL (σ 29) (n - a) a : Nat) : Int) ∧ σ' 28 4 = (if wIdx (σ 29) a (runF bL (σ 29) (n - a) a) < 6 then 3 else if wIdx (σ 29) a (runF bL (σ 29) (n - a) a) < 12 then (wIdx (σ 29) a (runF bL (σ 29) (n - a) a) : Int) - 2 else 1) ∧ (wIdx (σ 29) a (runF bL (σ 29) (n - a) a) < 12 → σ' 28 5 = (wIdx (σ 29) a (runF bL (σ 29) (n - a) a) : Int)))) := by
  refine MX_of [some (.ref (ρ 28)), none, none, none] (by decide +kernel) rfl rfl (Nat.le_of_ble_eq_true rfl) ?_
  intro K hKl C T hRng
  subst hKl
  have L0 : ∀ (m : Nat) (j : Nat) (s1 : Sig), m = n - (a + j) → (a + j ≤ n ∧ FR σ s1 ∧ s1 28 2 = a ∧ s1 28 3 = ((a + j : Nat) : Int) ∧ (∀ i, i < j → bL (σ 29 (a + i)) = true)) → Ex K G N ρ sh 0 [some (.ref (ρ 28)), none, none, none] [] s1 := by
    intro m
    induction m using Nat.strongRecOn with
    | ind m ih =>
      intro j s1 hm hinv
      obtain ⟨hj, hF, h2, h3, hd⟩ := hinv
      have e29 : s1 29 = σ 29 := FR_row hF (by omega)
      have e1 : s1 28 1 = n := (hF.2 1 (by omega) (by omega) (by omega) (by omega)).trans hn
      have hix : (s1 28 3).toNat = a + j := by omega
      refine x_aload_n 1 C dX5_readWord_0 rfl rfl rfl ?_
      refine x_geti (j := 3) 4 C hW.2.1 (by have := hW.1; omega) rfl rfl (by decide) inT5 tb_1_156 rfl dX5_readWord_1 rfl (fun r1 => ?_)
      refine x_aload_n 5 C dX5_readWord_4 rfl rfl rfl ?_
      refine x_geti (j := 1) 8 C hW.2.1 (by have := hW.1; omega) rfl rfl (by decide) inT5 tb_1_153 rfl dX5_readWord_5 rfl (fun r5 => ?_)
      refine x_icmp_ge 39 11 C dX5_readWord_8 rfl rfl (by omega) (by omega) (fun h8 => ?_) (fun h8 => ?_)
      · have hrun : runF bL (σ 29) (n - a) a = j := runF_eq _ _ _ (by omega) hd (fun h => absurd h (by omega))
        refine x_aload_n 40 C dX5_readWord_39 rfl rfl rfl ?_
        refine x_iconst 41 C dX5_readWord_40 rfl ?_
        refine x_puti (j := 4) tyX5 44 C hW.2.1 (by have := hW.1; omega) rfl rfl (by decide) inT5 tyX5_ok nmX5 tb_1_157 rfl rfl rfl dX5_readWord_41 rfl (by omega) ?_
        refine x_iconst 45 C dX5_readWord_44 rfl ?_
        refine x_istore_n1 46 C dX5_readWord_45 rfl rfl ?_
        refine x_iconst 47 C dX5_readWord_46 rfl ?_
        refine x_istore_n2 48 C dX5_readWord_47 rfl rfl ?_
        refine x_iconst 49 C dX5_readWord_48 rfl ?_
        refine x_istore_n3 50 C dX5_readWord_49 rfl rfl ?_
        have L50 : ∀ (m : Nat) (i : Nat) (y w1 f1 : Int) (s2 : Sig), m = 58 - i → (i ≤ 58 ∧ y = i ∧ w1 = wcnt i ∧ f1 = wfrom i ∧ FR σ s2 ∧ s2 28 2 = a ∧ s2 28 3 = ((a + j : Nat) : Int) ∧ WST (σ 29) a j (wcnt i) s2) → Ex K G N ρ sh 50 [some (.ref (ρ 28)), some (.int (iZ w1)), some (.int (iZ f1)), some (.int (iZ y))] [] s2 := by
          intro m
          induction m using Nat.strongRecOn with
          | ind m ih =>
            intro i y w1 f1 s2 hm hinv
            obtain ⟨hi, rfl, rfl, rfl, hF2, h22, h32, hst⟩ := hinv
            have hwt : i < 58 → wfrom i ≤ i ∧ wcnt i ≤ 11 := fun h => ⟨(w_tab i h).1, (w_tab i h).2.1⟩
            have hch := chS_in i
            have e29b : s2 29 = σ 29 := FR_row hF2 (by omega)
            have e1b : s2 28 1 = n := (hF2.2 1 (by omega) (by omega) (by omega) (by omega)).trans hn
            refine x_iload_n 51 C dX5_readWord_50 rfl rfl rfl ?_
            refine x_ldcW 53 C rfl dX5_readWord_51 rfl ?_
            refine x_callVse 56 C dX5_readWord_53 rfl (c_J0_length_8abf5 (j := 1) (by decide)) (by decide) tb_2_9 tb_1_180 tb_1_181 tb_1_10 tb_1_182 (na := 0) (by decide +kernel) rfl ⟨by decide, by decide⟩ rfl (Nat.le_of_ble_eq_true rfl) rfl (fun r53 => ?_)
            have h58 : ((stL.getD 1 0 : Nat) : Int) = 58 := rfl
            rw [h58]
            refine x_icmp_ge 117 59 C dX5_readWord_56 rfl rfl (by omega) (by omega) (fun h56 => ?_) (fun h56 => ?_)
            · refine x_vret C T dX5_readWord_117 ?_
              have hi58 : i = 58 := by omega
              rw [hi58, wcnt_58] at hst
              refine PV_i ⟨hF2, h22, by rw [hrun]; exact h32, ?_, ?_⟩ <;> rw [hrun]
              · rcases hst with ⟨q, q1, q2, q3, q4, q5⟩ | ⟨q1, q2⟩
                · rw [wIdx_at q2 q3, q4]
                  by_cases h6 : q < 6
                  · rw [if_pos h6, if_pos h6]
                  · rw [if_neg h6, if_neg h6, if_pos q2]
                · rw [wIdx_12 q1, q2]; rfl
              · intro hlt
                rcases hst with ⟨q, q1, q2, q3, q4, q5⟩ | ⟨q1, q2⟩
                · rw [wIdx_at q2 q3, q5]
                · rw [wIdx_12 q1] at hlt; omega
            refine x_ldcW 61 C rfl dX5_readWord_59 rfl ?_
            refine x_iload_n 62 C dX5_readWord_61 rfl rfl rfl ?_
            refine x_callVse 65 C dX5_readWord_62 rfl (c_J0_charAt_5068e (j := 1) (by decide) (i := (i : Int)) ⟨by omega, by show (i : Int) < ((58 : Nat) : Int); omega⟩) (by decide) tb_2_10 tb_1_190 tb_1_191 tb_1_10 tb_1_192 (na := 1) (by decide +kernel) rfl ⟨by decide, by decide⟩ rfl (Nat.le_of_ble_eq_true rfl) rfl (fun r62 => ?_)
            rw [Int.toNat_natCast] at *
            refine x_bipush 67 C dX5_readWord_65 rfl rfl ?_
            refine x_icmp_ne 111 70 C dX5_readWord_67 rfl rfl (by omega) (by omega) (fun h67 => ?_) (fun h67 => ?_)
            · have hnext : wcnt (i + 1) = (if chS 1 i = 32 then wcnt i + 1 else wcnt i) → wfrom (i + 1) = (if chS 1 i = 32 then i + 1 else wfrom i) → _ := fun hcc hff => (⟨by omega, by omega, by rw [hcc, if_neg (by omega)], by rw [hff, if_neg (by omega)], hF2, h22, h32, by rw [hcc, if_neg (by omega)]; exact hst⟩ : (i + 1 ≤ 58 ∧ ((i : Int) + 1) = ((i + 1 : Nat) : Int) ∧ ((wcnt i : Nat) : Int) = wcnt (i + 1) ∧ ((wfrom i : Nat) : Int) = wfrom (i + 1) ∧ FR σ s2 ∧ s2 28 2 = a ∧ s2 28 3 = ((a + j : Nat) : Int) ∧ WST (σ 29) a j (wcnt (i + 1)) s2))
              refine x_iinc_3 114 C dX5_readWord_111 rfl rfl ?_
              refine x_goto 50 C dX5_readWord_114 rfl ?_
              have hcc : wcnt (i + 1) = (if chS 1 i = 32 then wcnt i + 1 else wcnt i) := rfl
              have hff : wfrom (i + 1) = (if chS 1 i = 32 then i + 1 else wfrom i) := rfl
              exact ih _ (by omega) (i + 1) _ _ _ _ rfl (hnext hcc hff)
            have hwq := hwt (by omega)
            refine x_aload_n 71 C dX5_readWord_70 rfl rfl rfl ?_
            refine x_iload_n 72 C dX5_readWord_71 rfl rfl rfl ?_
            refine x_iload_n 73 C dX5_readWord_72 rfl rfl rfl ?_
            refine x_callVe 76 C dX5_readWord_73 rfl (c_X5_spells (a := a) (e := a + j) (fr := wfrom i) (to := i) (n := n) e1b hn1 h22 h32 (by omega) (by omega) (by omega) (by omega) hW) hW.2.1 (by have := hW.1; omega) rfl tb_2_11 tb_2_13 tb_0_2 tb_1_9 tb_2_14 (na := 2) (by decide +kernel) rfl ⟨by decide, by decide⟩ rfl (Nat.le_of_ble_eq_true rfl) rfl (fun r73 => ?_)
            first
              | refine x_ifb_eq 104 79 C dX5_readWord_76 rfl rfl (fun h76 => ?_) (fun h76 => ?_)
              | refine x_if_eq 104 79 C dX5_readWord_76 rfl rfl (by omega) (fun h76 => ?_) (fun h76 => ?_)
            · rw [e29b, show a + j - a = j by omega] at h76
              have hsp : spel (σ 29) a j (wordsL.getD (wcnt i) []) = false := by
                rw [← Bool.not_eq_true, ← spel_tab (by omega) (by omega)]
                exact h76
              have hnext : wcnt (i + 1) = (if chS 1 i = 32 then wcnt i + 1 else wcnt i) → wfrom (i + 1) = (if chS 1 i = 32 then i + 1 else wfrom i) → (i + 1 ≤ 58 ∧ ((i : Int) + 1) = ((i + 1 : Nat) : Int) ∧ ((wcnt i : Nat) : Int) + 1 = wcnt (i + 1) ∧ ((i : Int) + 1) = wfrom (i + 1) ∧ FR σ s2 ∧ s2 28 2 = a ∧ s2 28 3 = ((a + j : Nat) : Int) ∧ WST (σ 29) a j (wcnt (i + 1)) s2) := fun hcc hff => by
                rw [if_pos (by omega)] at hcc hff
                refine ⟨by omega, by omega, by omega, by omega, hF2, h22, h32, ?_⟩
                rw [hcc]
                rcases hst with ⟨q, q1, q2, q3, q4, q5⟩ | ⟨q1, q2⟩
                · exact Or.inl ⟨q, by omega, q2, q3, q4, q5⟩
                · refine Or.inr ⟨fun q hq => ?_, q2⟩
                  by_cases hqi : q = wcnt i
                  · rw [hqi]; exact hsp
                  · exact q1 q (by omega)
              refine x_iinc_1 107 C dX5_readWord_104 rfl rfl ?_
              refine x_iload_n 108 C dX5_readWord_107 rfl rfl rfl ?_
              refine x_iconst 109 C dX5_readWord_108 rfl ?_
              refine x_iadd 110 C dX5_readWord_109 rfl ?_
              refine x_istore_n2 111 C dX5_readWord_110 rfl rfl ?_
              refine x_iinc_3 114 C dX5_readWord_111 rfl rfl ?_
              refine x_goto 50 C dX5_readWord_114 rfl ?_
              have hcc : wcnt (i + 1) = (if chS 1 i = 32 then wcnt i + 1 else wcnt i) := rfl
              have hff : wfrom (i + 1) = (if chS 1 i = 32 then i + 1 else wfrom i) := rfl
              exact ih _ (by omega) (i + 1) _ _ _ _ rfl (hnext hcc hff)
            rw [e29b, show a + j - a = j by omega] at h76
            have hsp : spel (σ 29) a j (wordsL.getD (wcnt i) []) = true := (spel_tab (by omega) (by omega)).mp h76
            have J96 : ∀ (w : Int), (w = (if wcnt i < 6 then 3 else (wcnt i : Int) - 2)) → Ex K G N ρ sh 96 [some (.ref (ρ 28)), some (.int (iZ (wcnt i : Int))), some (.int (iZ (wfrom i : Int))), some (.int (iZ (i : Int)))] [.int (iZ w), .ref (ρ 28)] s2 := by
              intro w hinv
              have hw : 3 ≤ w ∧ w ≤ 9 := by rw [hinv]; split <;> omega
              have hnext : wcnt (i + 1) = (if chS 1 i = 32 then wcnt i + 1 else wcnt i) → wfrom (i + 1) = (if chS 1 i = 32 then i + 1 else wfrom i) → (i + 1 ≤ 58 ∧ ((i : Int) + 1) = ((i + 1 : Nat) : Int) ∧ ((wcnt i : Nat) : Int) + 1 = wcnt (i + 1) ∧ ((i : Int) + 1) = wfrom (i + 1) ∧ FR σ (up (up s2 28 4 w) 28 5 (wcnt i : Int)) ∧ (up (up s2 28 4 w) 28 5 (wcnt i : Int)) 28 2 = a ∧ (up (up s2 28 4 w) 28 5 (wcnt i : Int)) 28 3 = ((a + j : Nat) : Int) ∧ WST (σ 29) a j (wcnt (i + 1)) (up (up s2 28 4 w) 28 5 (wcnt i : Int))) := fun hcc hff => by
                rw [if_pos (by omega)] at hcc hff
                refine ⟨by omega, by omega, by omega, by omega, FR_up (FR_up hF2 (by omega)) (by omega), ?_, ?_, Or.inl ⟨wcnt i, by omega, by omega, hsp, ?_, up_s⟩⟩
                · rw [up_i (by omega), up_i (by omega)]; exact h22
                · rw [up_i (by omega), up_i (by omega)]; exact h32
                · rw [up_i (by omega), up_s]; exact hinv
              refine x_puti (j := 4) tyX5 99 C hW.2.1 (by have := hW.1; omega) rfl rfl (by decide) inT5 tyX5_ok nmX5 tb_1_157 rfl rfl rfl dX5_readWord_96 rfl (by omega) ?_
              refine x_aload_n 100 C dX5_readWord_99 rfl rfl rfl ?_
              refine x_iload_n 101 C dX5_readWord_100 rfl rfl rfl ?_
              refine x_puti (j := 5) tyX5 104 C hW.2.1 (by have := hW.1; omega) rfl rfl (by decide) inT5 tyX5_ok nmX5 tb_1_158 rfl rfl rfl dX5_readWord_101 rfl (by omega) ?_
              refine x_iinc_1 107 C dX5_readWord_104 rfl rfl ?_
              refine x_iload_n 108 C dX5_readWord_107 rfl rfl rfl ?_
              refine x_iconst 109 C dX5_readWord_108 rfl ?_
              refine x_iadd 110 C dX5_readWord_109 rfl ?_
              refine x_istore_n2 111 C dX5_readWord_110 rfl rfl ?_
              refine x_iinc_3 114 C dX5_readWord_111 rfl rfl ?_
              refine x_goto 50 C dX5_readWord_114 rfl ?_
              have hcc : wcnt (i + 1) = (if chS 1 i = 32 then wcnt i + 1 else wcnt i) := rfl
              have hff : wfrom (i + 1) = (if chS 1 i = 32 then i + 1 else wfrom i) := rfl
              exact ih _ (by omega) (i + 1) _ _ _ _ rfl (hnext hcc hff)
            refine x_aload_n 80 C dX5_readWord_79 rfl rfl rfl ?_
            refine x_iload_n 81 C dX5_readWord_80 rfl rfl rfl ?_
            refine x_bipush 83 C dX5_readWord_81 rfl rfl ?_
            refine x_icmp_ge 90 86 C dX5_readWord_83 rfl rfl (by omega) (by omega) (fun h83 => ?_) (fun h83 => ?_)
            · refine x_iconst 91 C dX5_readWord_90 rfl ?_
              refine x_iload_n 92 C dX5_readWord_91 rfl rfl rfl ?_
              refine x_iadd 93 C dX5_readWord_92 rfl ?_
              refine x_bipush 95 C dX5_readWord_93 rfl rfl ?_
              refine x_isub 96 C dX5_readWord_95 rfl ?_
              exact J96 _ (by first | rw [if_pos (by omega)] | (rw [if_neg (by omega)]; omega))
            refine x_iconst 87 C dX5_readWord_86 rfl ?_
            refine x_goto 96 C dX5_readWord_87 rfl ?_
            exact J96 _ (by first | rw [if_pos (by omega)] | (rw [if_neg (by omega)]; omega))
        exact L50 _ 0 _ _ _ _ rfl ⟨by omega, rfl, rfl, rfl, FR_up hF (by omega), (up_i (by omega)).trans h2, (up_i (by omega)).trans h3, Or.inr ⟨fun q hq => absurd hq (by simp [wcnt]), up_s⟩⟩
      refine x_aload_n 12 C dX5_readWord_11 rfl rfl rfl ?_
      refine x_getr (j := 0) 15 C hW.2.1 (by have := hW.1; omega) rfl rfl (by decide) inT5 tb_1_151 rfl dX5_readWord_12 rfl ?_
      refine x_aload_n 16 C dX5_readWord_15 rfl rfl rfl ?_
      refine x_geti (j := 3) 19 C hW.2.1 (by have := hW.1; omega) rfl rfl (by decide) inT5 tb_1_156 rfl dX5_readWord_16 rfl (fun r16 => ?_)
      refine x_iald 20 C hW.2.2.1 (by have := hW.1; omega) dX5_readWord_19 rfl (by omega) (by omega) (fun r19 => ?_)
      refine x_callSe 23 C dX5_readWord_20 rfl (c_X5_isLetter (by omega)) tb_2_1 tb_2_2 tb_1_9 tb_2_3 (na := 1) (by decide +kernel) rfl ⟨by decide, by decide⟩ rfl (Nat.le_of_ble_eq_true rfl) rfl (fun r20 => ?_)
      first
        | refine x_ifb_eq 39 26 C dX5_readWord_23 rfl rfl (fun h23 => ?_) (fun h23 => ?_)
        | refine x_if_eq 39 26 C dX5_readWord_23 rfl rfl (by omega) (fun h23 => ?_) (fun h23 => ?_)
      · have hrun : runF bL (σ 29) (n - a) a = j := runF_eq _ _ _ (by omega) hd (fun _ => by rw [e29, hix] at h23; unfold bL; simpa using h23)
        refine x_aload_n 40 C dX5_readWord_39 rfl rfl rfl ?_
        refine x_iconst 41 C dX5_readWord_40 rfl ?_
        refine x_puti (j := 4) tyX5 44 C hW.2.1 (by have := hW.1; omega) rfl rfl (by decide) inT5 tyX5_ok nmX5 tb_1_157 rfl rfl rfl dX5_readWord_41 rfl (by omega) ?_
        refine x_iconst 45 C dX5_readWord_44 rfl ?_
        refine x_istore_n1 46 C dX5_readWord_45 rfl rfl ?_
        refine x_iconst 47 C dX5_readWord_46 rfl ?_
        refine x_istore_n2 48 C dX5_readWord_47 rfl rfl ?_
        refine x_iconst 49 C dX5_readWord_48 rfl ?_
        refine x_istore_n3 50 C dX5_readWord_49 rfl rfl ?_
        have L50 : ∀ (m : Nat) (i : Nat) (y w1 f1 : Int) (s2 : Sig), m = 58 - i → (i ≤ 58 ∧ y = i ∧ w1 = wcnt i ∧ f1 = wfrom i ∧ FR σ s2 ∧ s2 28 2 = a ∧ s2 28 3 = ((a + j : Nat) : Int) ∧ WST (σ 29) a j (wcnt i) s2) → Ex K G N ρ sh 50 [some (.ref (ρ 28)), some (.int (iZ w1)), some (.int (iZ f1)), some (.int (iZ y))] [] s2 := by
          intro m
          induction m using Nat.strongRecOn with
          | ind m ih =>
            intro i y w1 f1 s2 hm hinv
            obtain ⟨hi, rfl, rfl, rfl, hF2, h22, h32, hst⟩ := hinv
            have hwt : i < 58 → wfrom i ≤ i ∧ wcnt i ≤ 11 := fun h => ⟨(w_tab i h).1, (w_tab i h).2.1⟩
            have hch := chS_in i
            have e29b : s2 29 = σ 29 := FR_row hF2 (by omega)
            have e1b : s2 28 1 = n := (hF2.2 1 (by omega) (by omega) (by omega) (by omega)).trans hn
            refine x_iload_n 51 C dX5_readWord_50 rfl rfl rfl ?_
            refine x_ldcW 53 C rfl dX5_readWord_51 rfl ?_
            refine x_callVse 56 C dX5_readWord_53 rfl (c_J0_length_8abf5 (j := 1) (by decide)) (by decide) tb_2_9 tb_1_180 tb_1_181 tb_1_10 tb_1_182 (na := 0) (by decide +kernel) rfl ⟨by decide, by decide⟩ rfl (Nat.le_of_ble_eq_true rfl) rfl (fun r53 => ?_)
            have h58 : ((stL.getD 1 0 : Nat) : Int) = 58 := rfl
            rw [h58]
            refine x_icmp_ge 117 59 C dX5_readWord_56 rfl rfl (by omega) (by omega) (fun h56 => ?_) (fun h56 => ?_)
            · refine x_vret C T dX5_readWord_117 ?_
              have hi58 : i = 58 := by omega
              rw [hi58, wcnt_58] at hst
              refine PV_i ⟨hF2, h22, by rw [hrun]; exact h32, ?_, ?_⟩ <;> rw [hrun]
              · rcases hst with ⟨q, q1, q2, q3, q4, q5⟩ | ⟨q1, q2⟩
                · rw [wIdx_at q2 q3, q4]
                  by_cases h6 : q < 6
                  · rw [if_pos h6, if_pos h6]
                  · rw [if_neg h6, if_neg h6, if_pos q2]
                · rw [wIdx_12 q1, q2]; rfl
              · intro hlt
                rcases hst with ⟨q, q1, q2, q3, q4, q5⟩ | ⟨q1, q2⟩
                · rw [wIdx_at q2 q3, q5]
                · rw [wIdx_12 q1] at hlt; omega
            refine x_ldcW 61 C rfl dX5_readWord_59 rfl ?_
            refine x_iload_n 62 C dX5_readWord_61 rfl rfl rfl ?_
            refine x_callVse 65 C dX5_readWord_62 rfl (c_J0_charAt_5068e (j := 1) (by decide) (i := (i : Int)) ⟨by omega, by show (i : Int) < ((58 : Nat) : Int); omega⟩) (by decide) tb_2_10 tb_1_190 tb_1_191 tb_1_10 tb_1_192 (na := 1) (by decide +kernel) rfl ⟨by decide, by decide⟩ rfl (Nat.le_of_ble_eq_true rfl) rfl (fun r62 => ?_)
            rw [Int.toNat_natCast] at *
            refine x_bipush 67 C dX5_readWord_65 rfl rfl ?_
            refine x_icmp_ne 111 70 C dX5_readWord_67 rfl rfl (by omega) (by omega) (fun h67 => ?_) (fun h67 => ?_)
            · have hnext : wcnt (i + 1) = (if chS 1 i = 32 then wcnt i + 1 else wcnt i) → wfrom (i + 1) = (if chS 1 i = 32 then i + 1 else wfrom i) → _ := fun hcc hff => (⟨by omega, by omega, by rw [hcc, if_neg (by omega)], by rw [hff, if_neg (by omega)], hF2, h22, h32, by rw [hcc, if_neg (by omega)]; exact hst⟩ : (i + 1 ≤ 58 ∧ ((i : Int) + 1) = ((i + 1 : Nat) : Int) ∧ ((wcnt i : Nat) : Int) = wcnt (i + 1) ∧ ((wfrom i : Nat) : Int) = wfrom (i + 1) ∧ FR σ s2 ∧ s2 28 2 = a ∧ s2 28 3 = ((a + j : Nat) : Int) ∧ WST (σ 29) a j (wcnt (i + 1)) s2))
              refine x_iinc_3 114 C dX5_readWord_111 rfl rfl ?_
              refine x_goto 50 C dX5_readWord_114 rfl ?_
              have hcc : wcnt (i + 1) = (if chS 1 i = 32 then wcnt i + 1 else wcnt i) := rfl
              have hff : wfrom (i + 1) = (if chS 1 i = 32 then i + 1 else wfrom i) := rfl
              exact ih _ (by omega) (i + 1) _ _ _ _ rfl (hnext hcc hff)
            have hwq := hwt (by omega)
            refine x_aload_n 71 C dX5_readWord_70 rfl rfl rfl ?_
            refine x_iload_n 72 C dX5_readWord_71 rfl rfl rfl ?_
            refine x_iload_n 73 C dX5_readWord_72 rfl rfl rfl ?_
            refine x_callVe 76 C dX5_readWord_73 rfl (c_X5_spells (a := a) (e := a + j) (fr := wfrom i) (to := i) (n := n) e1b hn1 h22 h32 (by omega) (by omega) (by omega) (by omega) hW) hW.2.1 (by have := hW.1; omega) rfl tb_2_11 tb_2_13 tb_0_2 tb_1_9 tb_2_14 (na := 2) (by decide +kernel) rfl ⟨by decide, by decide⟩ rfl (Nat.le_of_ble_eq_true rfl) rfl (fun r73 => ?_)
            first
              | refine x_ifb_eq 104 79 C dX5_readWord_76 rfl rfl (fun h76 => ?_) (fun h76 => ?_)
              | refine x_if_eq 104 79 C dX5_readWord_76 rfl rfl (by omega) (fun h76 => ?_) (fun h76 => ?_)
            · rw [e29b, show a + j - a = j by omega] at h76
              have hsp : spel (σ 29) a j (wordsL.getD (wcnt i) []) = false := by
                rw [← Bool.not_eq_true, ← spel_tab (by omega) (by omega)]
                exact h76
              have hnext : wcnt (i + 1) = (if chS 1 i = 32 then wcnt i + 1 else wcnt i) → wfrom (i + 1) = (if chS 1 i = 32 then i + 1 else wfrom i) → (i + 1 ≤ 58 ∧ ((i : Int) + 1) = ((i + 1 : Nat) : Int) ∧ ((wcnt i : Nat) : Int) + 1 = wcnt (i + 1) ∧ ((i : Int) + 1) = wfrom (i + 1) ∧ FR σ s2 ∧ s2 28 2 = a ∧ s2 28 3 = ((a + j : Nat) : Int) ∧ WST (σ 29) a j (wcnt (i + 1)) s2) := fun hcc hff => by
                rw [if_pos (by omega)] at hcc hff
                refine ⟨by omega, by omega, by omega, by omega, hF2, h22, h32, ?_⟩
                rw [hcc]
                rcases hst with ⟨q, q1, q2, q3, q4, q5⟩ | ⟨q1, q2⟩
                · exact Or.inl ⟨q, by omega, q2, q3, q4, q5⟩
                · refine Or.inr ⟨fun q hq => ?_, q2⟩
                  by_cases hqi : q = wcnt i
                  · rw [hqi]; exact hsp
                  · exact q1 q (by omega)
              refine x_iinc_1 107 C dX5_readWord_104 rfl rfl ?_
              refine x_iload_n 108 C dX5_readWord_107 rfl rfl rfl ?_
              refine x_iconst 109 C dX5_readWord_108 rfl ?_
              refine x_iadd 110 C dX5_readWord_109 rfl ?_
              refine x_istore_n2 111 C dX5_readWord_110 rfl rfl ?_
              refine x_iinc_3 114 C dX5_readWord_111 rfl rfl ?_
              refine x_goto 50 C dX5_readWord_114 rfl ?_
              have hcc : wcnt (i + 1) = (if chS 1 i = 32 then wcnt i + 1 else wcnt i) := rfl
              have hff : wfrom (i + 1) = (if chS 1 i = 32 then i + 1 else wfrom i) := rfl
              exact ih _ (by omega) (i + 1) _ _ _ _ rfl (hnext hcc hff)
            rw [e29b, show a + j - a = j by omega] at h76
            have hsp : spel (σ 29) a j (wordsL.getD (wcnt i) []) = true := (spel_tab (by omega) (by omega)).mp h76
            have J96 : ∀ (w : Int), (w = (if wcnt i < 6 then 3 else (wcnt i : Int) - 2)) → Ex K G N ρ sh 96 [some (.ref (ρ 28)), some (.int (iZ (wcnt i : Int))), some (.int (iZ (wfrom i : Int))), some (.int (iZ (i : Int)))] [.int (iZ w), .ref (ρ 28)] s2 := by
              intro w hinv
              have hw : 3 ≤ w ∧ w ≤ 9 := by rw [hinv]; split <;> omega
              have hnext : wcnt (i + 1) = (if chS 1 i = 32 then wcnt i + 1 else wcnt i) → wfrom (i + 1) = (if chS 1 i = 32 then i + 1 else wfrom i) → (i + 1 ≤ 58 ∧ ((i : Int) + 1) = ((i + 1 : Nat) : Int) ∧ ((wcnt i : Nat) : Int) + 1 = wcnt (i + 1) ∧ ((i : Int) + 1) = wfrom (i + 1) ∧ FR σ (up (up s2 28 4 w) 28 5 (wcnt i : Int)) ∧ (up (up s2 28 4 w) 28 5 (wcnt i : Int)) 28 2 = a ∧ (up (up s2 28 4 w) 28 5 (wcnt i : Int)) 28 3 = ((a + j : Nat) : Int) ∧ WST (σ 29) a j (wcnt (i + 1)) (up (up s2 28 4 w) 28 5 (wcnt i : Int))) := fun hcc hff => by
                rw [if_pos (by omega)] at hcc hff
                refine ⟨by omega, by omega, by omega, by omega, FR_up (FR_up hF2 (by omega)) (by omega), ?_, ?_, Or.inl ⟨wcnt i, by omega, by omega, hsp, ?_, up_s⟩⟩
                · rw [up_i (by omega), up_i (by omega)]; exact h22
                · rw [up_i (by omega), up_i (by omega)]; exact h32
                · rw [up_i (by omega), up_s]; exact hinv
              refine x_puti (j := 4) tyX5 99 C hW.2.1 (by have := hW.1; omega) rfl rfl (by decide) inT5 tyX5_ok nmX5 tb_1_157 rfl rfl rfl dX5_readWord_96 rfl (by omega) ?_
              refine x_aload_n 100 C dX5_readWord_99 rfl rfl rfl ?_
              refine x_iload_n 101 C dX5_readWord_100 rfl rfl rfl ?_
              refine x_puti (j := 5) tyX5 104 C hW.2.1 (by have := hW.1; omega) rfl rfl (by decide) inT5 tyX5_ok nmX5 tb_1_158 rfl rfl rfl dX5_readWord_101 rfl (by omega) ?_
              refine x_iinc_1 107 C dX5_readWord_104 rfl rfl ?_
              refine x_iload_n 108 C dX5_readWord_107 rfl rfl rfl ?_
              refine x_iconst 109 C dX5_readWord_108 rfl ?_
              refine x_iadd 110 C dX5_readWord_109 rfl ?_
              refine x_istore_n2 111 C dX5_readWord_110 rfl rfl ?_
              refine x_iinc_3 114 C dX5_readWord_111 rfl rfl ?_
              refine x_goto 50 C dX5_readWord_114 rfl ?_
              have hcc : wcnt (i + 1) = (if chS 1 i = 32 then wcnt i + 1 else wcnt i) := rfl
              have hff : wfrom (i + 1) = (if chS 1 i = 32 then i + 1 else wfrom i) := rfl
              exact ih _ (by omega) (i + 1) _ _ _ _ rfl (hnext hcc hff)
            refine x_aload_n 80 C dX5_readWord_79 rfl rfl rfl ?_
            refine x_iload_n 81 C dX5_readWord_80 rfl rfl rfl ?_
            refine x_bipush 83 C dX5_readWord_81 rfl rfl ?_
            refine x_icmp_ge 90 86 C dX5_readWord_83 rfl rfl (by omega) (by omega) (fun h83 => ?_) (fun h83 => ?_)
            · refine x_iconst 91 C dX5_readWord_90 rfl ?_
              refine x_iload_n 92 C dX5_readWord_91 rfl rfl rfl ?_
              refine x_iadd 93 C dX5_readWord_92 rfl ?_
              refine x_bipush 95 C dX5_readWord_93 rfl rfl ?_
              refine x_isub 96 C dX5_readWord_95 rfl ?_
              exact J96 _ (by first | rw [if_pos (by omega)] | (rw [if_neg (by omega)]; omega))
            refine x_iconst 87 C dX5_readWord_86 rfl ?_
            refine x_goto 96 C dX5_readWord_87 rfl ?_
            exact J96 _ (by first | rw [if_pos (by omega)] | (rw [if_neg (by omega)]; omega))
        exact L50 _ 0 _ _ _ _ rfl ⟨by omega, rfl, rfl, rfl, FR_up hF (by omega), (up_i (by omega)).trans h2, (up_i (by omega)).trans h3, Or.inr ⟨fun q hq => absurd hq (by simp [wcnt]), up_s⟩⟩
      refine x_aload_n 27 C dX5_readWord_26 rfl rfl rfl ?_
      refine x_dup 28 C dX5_readWord_27 rfl rfl ?_
      refine x_geti (j := 3) 31 C hW.2.1 (by have := hW.1; omega) rfl rfl (by decide) inT5 tb_1_156 rfl dX5_readWord_28 rfl (fun r28 => ?_)
      refine x_iconst 32 C dX5_readWord_31 rfl ?_
      refine x_iadd 33 C dX5_readWord_32 rfl ?_
      refine x_puti (j := 3) tyX5 36 C hW.2.1 (by have := hW.1; omega) rfl rfl (by decide) inT5 tyX5_ok nmX5 tb_1_156 rfl rfl rfl dX5_readWord_33 rfl (by omega) ?_
      refine x_goto 0 C dX5_readWord_36 rfl ?_
      refine ih _ ?_ (j + 1) _ rfl ⟨by omega, FR_up hF (by omega), ?_, ?_, ?_⟩
      · omega
      · rw [up_i (by omega)]; exact h2
      · rw [up_s]; omega
      · intro i hi
        by_cases hij : i = j
        · subst hij; unfold bL; rw [e29, hix] at h23; simpa using h23
        · exact hd i (by omega)
  exact L0 _ 0 _ rfl ⟨by omega, FR_refl σ, ha, he, fun i hi => absurd hi (by omega)⟩
