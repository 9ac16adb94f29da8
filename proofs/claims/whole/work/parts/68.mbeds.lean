/-! how all beds should stand, by the model -/
/-- what is best of the first k -/
def BK (X : Nat → RuT) (T : Sig) (k best : Nat) (most : Int) : Prop := (k = 0 ∧ best = 0 ∧ most = -100000) ∨ (best < k ∧ most = allT X (TW T (wK (slN T) best)) ∧ ∀ j, j < k → allT X (TW T (wK (slN T) j)) < most ∨ (allT X (TW T (wK (slN T) j)) = most ∧ best ≤ j))
section BB
variable {X : Nat → RuT} {T : Sig} {k best : Nat} {most : Int}
theorem BK_0 : BK X T 0 0 (-100000) := Or.inl ⟨rfl, rfl, rfl⟩
theorem BK_new (h : BK X T k best most) (hv : most < allT X (TW T (wK (slN T) k))) : BK X T (k + 1) k (allT X (TW T (wK (slN T) k))) := by
  refine Or.inr ⟨by omega, rfl, fun j hj => ?_⟩
  by_cases hjk : j = k
  · subst hjk; exact Or.inr ⟨rfl, Nat.le_refl _⟩
  · rcases h with ⟨h1, _⟩ | ⟨_, _, h3⟩
    · omega
    · have := h3 j (by omega)
      exact Or.inl (by omega)
theorem BK_keep (h : BK X T k best most) (hv : ¬ most < allT X (TW T (wK (slN T) k))) (hr : -500 ≤ allT X (TW T (wK (slN T) k))) : BK X T (k + 1) best most := by
  rcases h with ⟨_, _, h3⟩ | ⟨h1, h2, h3⟩
  · omega
  · refine Or.inr ⟨by omega, h2, fun j hj => ?_⟩
    by_cases hjk : j = k
    · subst hjk; omega
    · exact h3 j (by omega)
theorem BK_in (h : BK X T k best most) (hr : ∀ k, -500 ≤ allT X (TW T (wK (slN T) k)) ∧ allT X (TW T (wK (slN T) k)) ≤ 5000) : (-100000 ≤ most ∧ most ≤ 5000) ∧ best ≤ k := by
  rcases h with ⟨_, _, h3⟩ | ⟨h1, h2, _⟩
  · omega
  · have := hr best
    omega
theorem BK_end (h : BK X T (4 ^ slN T) best most) : Beds X T most (dK (slN T) best) := by
  rcases h with ⟨h1, _⟩ | ⟨h1, h2, h3⟩
  · have := Nat.pow_pos (n := slN T) (show 0 < 4 by decide)
    omega
  · refine ⟨wK (slN T) best, wK_ok _ _, h2, rfl, fun V hV => ?_⟩
    have hlt := nuW_lt hV (slN T)
    have e1 : TW T (wK (slN T) (nuW V (slN T))) = TW T V := TW_cong (fun s hs => nuW_wK hV _ s hs)
    have e2 : dgW V (slN T) = dK (slN T) (nuW V (slN T)) := (dgW_cong _ (fun s hs => nuW_wK hV _ s hs)).symm
    have h4 := h3 _ hlt
    rw [e1] at h4
    rw [e2]
    rcases h4 with h4 | ⟨h4, h5⟩
    · exact Or.inl h4
    · refine Or.inr ⟨h4, ?_⟩
      by_cases he : best = nuW V (slN T)
      · rw [he]; exact Int.le_refl _
      · exact Int.le_of_lt (dK_lt _ _ _ (by omega) hlt)
end BB
def dE (k : Nat) : Nat → Int
  | 0 => 0
  | j + 1 => dE k j + ((10 ^ j : Nat) : Int) * ((k / 4 ^ j % 4 : Nat) : Int)
theorem dE_s (k : Nat) : ∀ n, dE k (n + 1) = 10 * dE (k / 4) n + ((k % 4 : Nat) : Int)
  | 0 => by simp only [dE, Nat.pow_zero, Nat.div_one]; omega
  | n + 1 => by
    have e1 : dE k (n + 1 + 1) = dE k (n + 1) + ((10 ^ (n + 1) : Nat) : Int) * ((k / 4 ^ (n + 1) % 4 : Nat) : Int) := rfl
    have e2 : dE (k / 4) (n + 1) = dE (k / 4) n + ((10 ^ n : Nat) : Int) * ((k / 4 / 4 ^ n % 4 : Nat) : Int) := rfl
    rw [e1, e2, dE_s k n, Nat.div_div_eq_div_mul, show 4 * 4 ^ n = 4 ^ (n + 1) by rw [Nat.pow_succ, Nat.mul_comm], Nat.pow_succ 10 n, Int.mul_add]
    rw [show ((10 ^ n * 10 : Nat) : Int) = 10 * ((10 ^ n : Nat) : Int) by omega, Int.mul_assoc]
    omega
theorem dE_dK : ∀ n k : Nat, dE k n = dK n k
  | 0, k => rfl
  | n + 1, k => by rw [dE_s, dK_s, dE_dK n]
def H71 (a _ : Nat) : Prop := a = 71
def H761 (n : Nat) (a b : Nat) : Prop := a = 71 ∨ (a = 61 ∧ b < n)
theorem TI_TW {T : Sig} {W : Nat → Nat} (hT : TI T) (hW : okW W) : TI (TW T W) := by
  obtain ⟨h1, h2, h3, h4, h5⟩ := hT
  refine ⟨h1, h2, h3, h4, fun i => ?_⟩
  obtain ⟨a1, a2, a3, a4, a5, a6, a7, a8, a9⟩ := h5 i
  refine ⟨a1, a2, a3, a4, a5, a6, ?_, a8, a9⟩
  by_cases hi : i < slN T
  · rw [TW_8 hi]; have := hW i; omega
  · unfold TW; rw [if_neg (by omega)]; exact a7
theorem MW_61 {X : Nat → RuT} {N n : Nat} {σ u : Sig} {W : Nat → Nat} (h : KX (H761 n) σ u) (hV : KV X N u) (hn : (n : Int) = σ 51 18) (hw : okW W) (hu : ∀ q, q < n → u 61 q = (W q : Int)) (hW : MW X N σ) : MW X N u ∧ cM u = TW (cM σ) W := by
  have hr : ∀ a, 52 ≤ a → a ≤ 63 → a ≠ 61 → u a = σ a := fun a h1 h2 h3 => KX_row h (by omega) (by omega) (by omega) (by omega) (fun b hb => by unfold H761 at hb; omega)
  have h51 : ∀ b, b < 19 → u 51 b = σ 51 b := fun b hb => h.2 b (Or.inl hb) (fun hh => by unfold H761 at hh; omega)
  have h61 : ∀ b, ¬ b < n → u 61 b = σ 61 b := fun b hb => h.1 61 b (by omega) (by omega) (by omega) (by omega) (fun hh => by unfold H761 at hh; omega)
  refine ⟨⟨?_, HM_keep hW.2.1 (hr 52 (by omega) (by omega) (by omega)) (hr 53 (by omega) (by omega) (by omega)), by rw [h51 4 (by omega)]; exact hW.2.2.1, hV⟩, ?_⟩
  · obtain ⟨h1, h2, h3, h4, h5⟩ := hW.1
    refine ⟨by rw [h51 8 (by omega)]; exact h1, by rw [h51 4 (by omega)]; exact h2, by rw [h51 13 (by omega)]; exact h3, by rw [h51 18 (by omega)]; exact h4, fun i => ?_⟩
    have a := h5 i
    rw [hr 55 (by omega) (by omega) (by omega), hr 57 (by omega) (by omega) (by omega), hr 58 (by omega) (by omega) (by omega), hr 59 (by omega) (by omega) (by omega), hr 56 (by omega) (by omega) (by omega), hr 60 (by omega) (by omega) (by omega), hr 62 (by omega) (by omega) (by omega), hr 63 (by omega) (by omega) (by omega)]
    refine ⟨a.1, a.2.1, a.2.2.1, a.2.2.2.1, a.2.2.2.2.1, a.2.2.2.2.2.1, ?_, a.2.2.2.2.2.2.2⟩
    by_cases hi : i < n
    · rw [hu i hi]; have := hw i; omega
    · rw [h61 i hi]; exact a.2.2.2.2.2.2.1
  · have hs : slN (cM σ) = n := by rw [slN_M]; omega
    have e3 : cM (fun a => if a = 61 then σ 61 else u a) = cM σ := by
      unfold cM
      rw [mT_keep (σ := σ) (fun a h1 h2 => ?_) (fun b hb => ?_)]
      · by_cases ha : a = 61
        · subst ha; exact if_pos rfl
        · exact (if_neg ha).trans (hr a (by omega) h2 ha)
      · show u 51 b = σ 51 b
        exact h51 b (by omega)
    funext a b
    by_cases h8 : a = 8
    · subst h8
      by_cases hb : b < n
      · rw [TW_8 (by omega)]
        exact hu b hb
      · show u 61 b = TW (cM σ) W 8 b
        unfold TW
        rw [if_neg (by omega)]
        exact h61 b hb
    · rw [TW_row h8, ← e3]
      match a, h8 with
      | 0, _ => rfl
      | 1, _ => rfl
      | 2, _ => rfl
      | 3, _ => rfl
      | 4, _ => rfl
      | 5, _ => rfl
      | 6, _ => rfl
      | 7, _ => rfl
      | 9, _ => rfl
      | 10, _ => rfl
      | n + 11, _ => rfl
set_option maxHeartbeats 4000000 in
set_option maxRecDepth 100000 in
theorem c_X12_beds {l : Launch} {G : Gt} {ρ : Nat → Nat} {tc : Nat} {cl : Nat → Nat} {σ : Sig} {X : Nat → RuT} {N : Nat} {w : Int} (hW : MW X N σ) (hw : -2147483648 ≤ w ∧ w ≤ 2147483647) : MX l yX12_beds cX12_beds 8 (some .int) 56 1353 G (NN tc) ρ (shp tc cl) [.ref (ρ 51), .int (iZ w)] σ (PI (fun z σ' => KX H71 σ σ' ∧ KV X N σ' ∧ ((w = 0 ∨ w = 1) → ∃ zz d, Beds X (cM σ) zz d ∧ z = (if w = 0 then zz else d)) ∧ (¬ (w = 0 ∨ w = 1) → z = -100000))) := by
  refine MX_of [some (.ref (ρ 51)), some (.int (iZ w)), none, none, none, none, none, none] (by decide +kernel) rfl rfl (Nat.le_of_ble_eq_true rfl) ?_
  intro K hKl C T hRng
  subst hKl
  have hT := hW.1
  have h8 := hT.2.2.2.1
  have hTc := TI_cM hT
  have hsl : slN (cM σ) = (σ 51 18).toNat := slN_M
  have hal : ∀ W, okW W → -500 ≤ allT X (TW (cM σ) W) ∧ allT X (TW (cM σ) W) ≤ 5000 := fun W hok => allT_in (TI_TW hTc hok)
  refine x_iload_n 1 C dX12_beds_0 rfl rfl rfl ?_
  refine x_i2l 2 C dX12_beds_1 rfl (by omega) ?_
  refine x_lconst 3 C dX12_beds_2 rfl 0 rfl ?_
  refine x_lconst 4 C dX12_beds_3 rfl 1 rfl ?_
  refine x_callSe 7 C dX12_beds_4 rfl (c_X12_in (by omega) (by omega) (by omega)) tb_5_69 tb_5_70 tb_1_20 tb_5_71 (na := 3) (by decide +kernel) rfl ⟨by decide, by decide⟩ rfl (Nat.le_of_ble_eq_true rfl) rfl (fun r4 => ?_)
  first
    | refine x_ifb_ne 14 10 C dX12_beds_7 rfl rfl (fun h7 => ?_) (fun h7 => ?_)
    | refine x_if_ne 14 10 C dX12_beds_7 rfl rfl (by omega) (fun h7 => ?_) (fun h7 => ?_)
  · refine x_iconst 15 C dX12_beds_14 rfl ?_
    refine x_istore_n2 16 C dX12_beds_15 rfl rfl ?_
    refine x_iconst 17 C dX12_beds_16 rfl ?_
    refine x_istore_n3 18 C dX12_beds_17 rfl rfl ?_
    have L18 : ∀ (mz : Nat) (s : Nat) (y al : Int) (s1 : Sig), mz = 6 - s → ((s : Int) ≤ σ 51 18 ∧ y = s ∧ al = ((4 ^ s : Nat) : Int) ∧ KX H71 σ s1 ∧ KV X N s1 ∧ ∀ j, j < s → s1 71 j = σ 61 j) → Ex K G (NN tc) ρ (shp tc cl) 18 [some (.ref (ρ 51)), some (.int (iZ w)), some (.int (iZ al)), some (.int (iZ y)), none, none, none, none] [] s1 := by
      intro mz
      induction mz using Nat.strongRecOn with
      | ind mz ih =>
        intro s y al s1 hmz hinv
        obtain ⟨hs, rfl, rfl, hX1, hV1, h711⟩ := hinv
        have hss : (s : Int).toNat = s := Int.toNat_natCast s
        have hqs := hT.2.2.2.2 s
        have e18a : s1 51 18 = σ 51 18 := hX1.2 18 (by omega) (fun hh => by unfold H71 at hh; omega)
        refine x_iload_n 19 C dX12_beds_18 rfl rfl rfl ?_
        refine x_aload_n 20 C dX12_beds_19 rfl rfl rfl ?_
        refine x_geti (j := 18) 23 C rfl (lt79 (by decide)) rfl rfl (by decide) inT12 tb_4_152 rfl dX12_beds_20 rfl (fun r20 => ?_)
        refine x_icmp_ge 48 26 C dX12_beds_23 rfl rfl (by omega) (by omega) (fun h23 => ?_) (fun h23 => ?_)
        · obtain ⟨n, hn⟩ : ∃ n : Nat, n = s := ⟨_, rfl⟩
          subst hn
          have hn18 : (n : Int) = σ 51 18 := by omega
          have hsn : slN (cM σ) = n := by omega
          have hp4 : 4 ^ n ≤ 1024 := Nat.le_trans (Nat.pow_le_pow_right (by decide) (show n ≤ 5 by omega)) (by decide)
          have hp10 : 10 ^ n ≤ 100000 := Nat.le_trans (Nat.pow_le_pow_right (by decide) (show n ≤ 5 by omega)) (by decide)
          have hbr : ∀ k, -500 ≤ allT X (TW (cM σ) (wK (slN (cM σ)) k)) ∧ allT X (TW (cM σ) (wK (slN (cM σ)) k)) ≤ 5000 := fun k => hal _ (wK_ok _ _)
          refine x_iconst 49 C dX12_beds_48 rfl ?_
          refine x_istore_n3 50 C dX12_beds_49 rfl rfl ?_
          refine x_ldcwN (z := -100000) 53 C tb_6_10 (by decide) dX12_beds_50 rfl ?_
          refine x_istore_4 55 C dX12_beds_53 rfl rfl ?_
          refine x_iconst 56 C dX12_beds_55 rfl ?_
          refine x_istore_5 58 C dX12_beds_56 rfl rfl ?_
          have L58 : ∀ (mz : Nat) (k best : Nat) (y bs most : Int) (s2 : Sig) (x6 x7 : Option Value), mz = 4 ^ n - k → (k ≤ 4 ^ n ∧ y = k ∧ bs = best ∧ KX (H761 n) σ s2 ∧ KV X N s2 ∧ (∀ j, j < n → s2 71 j = σ 61 j) ∧ BK X (cM σ) k best most) → Ex K G (NN tc) ρ (shp tc cl) 58 [some (.ref (ρ 51)), some (.int (iZ w)), some (.int (iZ ((4 ^ n : Nat) : Int))), some (.int (iZ bs)), some (.int (iZ most)), some (.int (iZ y)), x6, x7] [] s2 := by
            intro mz
            induction mz using Nat.strongRecOn with
            | ind mz ih =>
              intro k best y bs most s2 x6 x7 hmz hinv
              have ihB := ih
              obtain ⟨hk, rfl, rfl, hX2, hV2, h712, hB⟩ := hinv
              have hbi := BK_in hB hbr
              have e18b : s2 51 18 = σ 51 18 := hX2.2 18 (by omega) (fun hh => by unfold H761 at hh; omega)
              refine x_iload 60 C dX12_beds_58 rfl rfl ?_
              refine x_iload_n 61 C dX12_beds_60 rfl rfl rfl ?_
              refine x_icmp_ge 134 64 C dX12_beds_61 rfl rfl (by omega) (by omega) (fun h61 => ?_) (fun h61 => ?_)
              · have hkk : k = 4 ^ n := by omega
                subst hkk
                rw [← hsn] at hB
                have hBd := BK_end hB
                rw [hsn] at hBd
                refine x_iconst 135 C dX12_beds_134 rfl ?_
                refine x_istore_5 137 C dX12_beds_135 rfl rfl ?_
                have L137 : ∀ (mz : Nat) (j : Nat) (y : Int) (s4 : Sig), mz = 6 - j → ((j : Int) ≤ σ 51 18 ∧ y = j ∧ KX (H761 n) σ s4 ∧ KV X N s4 ∧ (∀ q, q < n → s4 71 q = σ 61 q) ∧ ∀ q, q < j → s4 61 q = σ 61 q) → Ex K G (NN tc) ρ (shp tc cl) 137 [some (.ref (ρ 51)), some (.int (iZ w)), some (.int (iZ ((4 ^ n : Nat) : Int))), some (.int (iZ (best : Int))), some (.int (iZ most)), some (.int (iZ y)), x6, x7] [] s4 := by
                  intro mz
                  induction mz using Nat.strongRecOn with
                  | ind mz ih =>
                    intro j y s4 hmz hinv
                    obtain ⟨hj, rfl, hX4, hV4, h71, h61⟩ := hinv
                    have hss4 : (j : Int).toNat = j := Int.toNat_natCast j
                    have e18d : s4 51 18 = σ 51 18 := hX4.2 18 (by omega) (fun hh => by unfold H761 at hh; omega)
                    have hqj := hT.2.2.2.2 j
                    refine x_iload 139 C dX12_beds_137 rfl rfl ?_
                    refine x_aload_n 140 C dX12_beds_139 rfl rfl rfl ?_
                    refine x_geti (j := 18) 143 C rfl (lt79 (by decide)) rfl rfl (by decide) inT12 tb_4_152 rfl dX12_beds_140 rfl (fun r140 => ?_)
                    refine x_icmp_ge 166 146 C dX12_beds_143 rfl rfl (by omega) (by omega) (fun h143 => ?_) (fun h143 => ?_)
                    rotate_left
                    · refine x_aload_n 147 C dX12_beds_146 rfl rfl rfl ?_
                      refine x_getr (j := 15) 150 C rfl (lt79 (by decide)) rfl rfl (by decide) inT12 tb_4_149 rfl dX12_beds_147 rfl ?_
                      refine x_iload 152 C dX12_beds_150 rfl rfl ?_
                      refine x_aload_n 153 C dX12_beds_152 rfl rfl rfl ?_
                      refine x_getr (j := 44) 156 C rfl (lt79 (by decide)) rfl rfl (by decide) inT12 tb_4_178 rfl dX12_beds_153 rfl ?_
                      refine x_iload 158 C dX12_beds_156 rfl rfl ?_
                      refine x_iald 159 C rfl (lt79 (by decide)) dX12_beds_158 rfl (by omega) (by omega) (fun r158 => ?_)
                      rw [hss4, show s4 71 j = σ 61 j from h71 j (by omega)] at r158 ⊢
                      refine x_iast 160 C rfl (lt79 (by decide)) dX12_beds_159 rfl (by omega) (by omega) (by omega) ?_
                      refine x_iinc_5 163 C dX12_beds_160 rfl rfl ?_
                      refine x_goto 137 C dX12_beds_163 rfl ?_
                      refine ih _ (by omega) (j + 1) _ _ rfl ⟨by omega, by omega, KX_up hX4 (Or.inr ⟨rfl, by omega⟩), KV_keep hV4 (up_row (by omega)) (up_row (by omega)), fun q hq => by rw [up_r (by omega)]; exact h71 q hq, fun q hq => ?_⟩
                      rw [hss4]
                      by_cases hqj : q = j
                      · subst hqj; exact up_s
                      · rw [up_i hqj]; exact h61 q (by omega)
                    refine x_iload_n 167 C dX12_beds_166 rfl rfl rfl ?_
                    refine x_if_ne 173 170 C dX12_beds_167 rfl rfl (by omega) (fun h167 => ?_) (fun h167 => ?_)
                    · have hw0 : w ≠ 0 := h167
                      refine x_iconst 174 C dX12_beds_173 rfl ?_
                      refine x_istore_5 176 C dX12_beds_174 rfl rfl ?_
                      refine x_iconst 177 C dX12_beds_176 rfl ?_
                      refine x_istore_6 179 C dX12_beds_177 rfl rfl ?_
                      refine x_iconst 180 C dX12_beds_179 rfl ?_
                      refine x_istore_7 182 C dX12_beds_180 rfl rfl ?_
                      have L182 : ∀ (mz : Nat) (j : Nat) (y dg pl bs : Int), mz = 6 - j → ((j : Int) ≤ σ 51 18 ∧ y = j ∧ dg = dE best j ∧ pl = ((10 ^ j : Nat) : Int) ∧ bs = ((best / 4 ^ j : Nat) : Int)) → Ex K G (NN tc) ρ (shp tc cl) 182 [some (.ref (ρ 51)), some (.int (iZ w)), some (.int (iZ ((4 ^ n : Nat) : Int))), some (.int (iZ bs)), some (.int (iZ most)), some (.int (iZ dg)), some (.int (iZ pl)), some (.int (iZ y))] [] s4 := by
                        intro mz
                        induction mz using Nat.strongRecOn with
                        | ind mz ih =>
                          intro j y dg pl bs hmz hinv
                          obtain ⟨hj2, rfl, rfl, rfl, rfl⟩ := hinv
                          have hdl : best / 4 ^ j ≤ best := Nat.div_le_self _ _
                          have hd0 : 0 ≤ ((best / 4 ^ j : Nat) : Int) := Int.natCast_nonneg _
                          refine x_iload 184 C dX12_beds_182 rfl rfl ?_
                          refine x_aload_n 185 C dX12_beds_184 rfl rfl rfl ?_
                          refine x_geti (j := 18) 188 C rfl (lt79 (by decide)) rfl rfl (by decide) inT12 tb_4_152 rfl dX12_beds_185 rfl (fun r185 => ?_)
                          refine x_icmp_ge 219 191 C dX12_beds_188 rfl rfl (by omega) (by omega) (fun h188 => ?_) (fun h188 => ?_)
                          · refine x_iload 221 C dX12_beds_219 rfl rfl ?_
                            refine x_iret C T dX12_beds_221 ?_
                            refine PI_i ?_ ⟨?_, ?_, ?_, ?_⟩
                            · first
                                | omega
                                | (have hdi := dK_in n best
                                   rw [show j = n by omega, dE_dK]
                                   omega)
                            · first
                                | exact KX_refl σ
                                | exact KX_mono hX4 (fun a b h1 h2 => by
                                    rcases h1 with h1 | ⟨rfl, h1⟩
                                    · exact absurd h1 h2
                                    · exact h61 b (by omega))
                            · first | exact hW.2.2.2 | exact hV4
                            · first
                                | (intro hh; exfalso; omega)
                                | (intro _
                                   refine ⟨_, _, hBd, ?_⟩
                                   first | (rw [if_pos hw0]; done) | (rw [if_neg hw0, show j = n by omega, dE_dK]))
                            · first
                                | (intro _; rfl)
                                | (intro hh; exfalso; omega)
                          refine x_iload 193 C dX12_beds_191 rfl rfl ?_
                          refine x_iload 195 C dX12_beds_193 rfl rfl ?_
                          refine x_iload_n 196 C dX12_beds_195 rfl rfl rfl ?_
                          refine x_iconst 197 C dX12_beds_196 rfl ?_
                          refine x_irem 198 C dX12_beds_197 rfl (by omega) (by omega) ?_
                          rw [show ((best / 4 ^ j : Nat) : Int) % 4 = ((best / 4 ^ j % 4 : Nat) : Int) by omega]
                          refine x_imul 199 C dX12_beds_198 rfl ?_
                          refine x_iadd 200 C dX12_beds_199 rfl ?_
                          refine x_istore_5 202 C dX12_beds_200 rfl rfl ?_
                          refine x_iload_n 203 C dX12_beds_202 rfl rfl rfl ?_
                          refine x_iconst 204 C dX12_beds_203 rfl ?_
                          refine x_idiv 205 C dX12_beds_204 rfl (by omega) (by omega) ?_
                          refine x_istore_n3 206 C dX12_beds_205 rfl rfl ?_
                          refine x_iload 208 C dX12_beds_206 rfl rfl ?_
                          refine x_bipush 210 C dX12_beds_208 rfl rfl ?_
                          refine x_imul 211 C dX12_beds_210 rfl ?_
                          refine x_istore_6 213 C dX12_beds_211 rfl rfl ?_
                          refine x_iinc_7 216 C dX12_beds_213 rfl rfl ?_
                          refine x_goto 182 C dX12_beds_216 rfl ?_
                          refine ih _ (by omega) (j + 1) _ _ _ _ rfl ⟨by omega, by omega, rfl, by rw [Nat.pow_succ]; omega, ?_⟩
                          rw [Nat.pow_succ, ← Nat.div_div_eq_div_mul]
                          omega
                      exact L182 _ 0 _ _ _ _ rfl ⟨by omega, rfl, rfl, rfl, by rw [Nat.pow_zero, Nat.div_one]⟩
                    have hw0 : w = 0 := h167
                    refine x_iload 172 C dX12_beds_170 rfl rfl ?_
                    refine x_iret C T dX12_beds_172 ?_
                    refine PI_i ?_ ⟨?_, ?_, ?_, ?_⟩
                    · first
                        | omega
                        | (have hdi := dK_in n best
                           rw [show j = n by omega, dE_dK]
                           omega)
                    · first
                        | exact KX_refl σ
                        | exact KX_mono hX4 (fun a b h1 h2 => by
                            rcases h1 with h1 | ⟨rfl, h1⟩
                            · exact absurd h1 h2
                            · exact h61 b (by omega))
                    · first | exact hW.2.2.2 | exact hV4
                    · first
                        | (intro hh; exfalso; omega)
                        | (intro _
                           refine ⟨_, _, hBd, ?_⟩
                           first | (rw [if_pos hw0]; done) | (rw [if_neg hw0, show j = n by omega, dE_dK]))
                    · first
                        | (intro _; rfl)
                        | (intro hh; exfalso; omega)
                exact L137 _ 0 _ _ rfl ⟨by omega, rfl, hX2, hV2, h712, fun q hq => absurd hq (by omega)⟩
              refine x_iload 66 C dX12_beds_64 rfl rfl ?_
              refine x_istore_6 68 C dX12_beds_66 rfl rfl ?_
              refine x_aload_n 69 C dX12_beds_68 rfl rfl rfl ?_
              refine x_geti (j := 18) 72 C rfl (lt79 (by decide)) rfl rfl (by decide) inT12 tb_4_152 rfl dX12_beds_69 rfl (fun r69 => ?_)
              refine x_iconst 73 C dX12_beds_72 rfl ?_
              refine x_isub 74 C dX12_beds_73 rfl ?_
              refine x_istore_7 76 C dX12_beds_74 rfl rfl ?_
              have L76 : ∀ (mz : Nat) (j : Nat) (y7 lf : Int) (s3 : Sig), mz = j → (j ≤ n ∧ y7 = (j : Int) - 1 ∧ lf = ((k / 4 ^ (n - j) : Nat) : Int) ∧ KX (H761 n) σ s3 ∧ KV X N s3 ∧ (∀ q, q < n → s3 71 q = σ 61 q) ∧ ∀ q, j ≤ q → q < n → s3 61 q = ((wK n k q : Nat) : Int)) → Ex K G (NN tc) ρ (shp tc cl) 76 [some (.ref (ρ 51)), some (.int (iZ w)), some (.int (iZ ((4 ^ n : Nat) : Int))), some (.int (iZ (best : Int))), some (.int (iZ most)), some (.int (iZ (k : Int))), some (.int (iZ lf)), some (.int (iZ y7))] [] s3 := by
                intro mz
                induction mz using Nat.strongRecOn with
                | ind mz ih =>
                  intro j y7 lf s3 hmz hinv
                  obtain ⟨hj, rfl, rfl, hX3, hV3, h713, hq3⟩ := hinv
                  have hdl : k / 4 ^ (n - j) ≤ k := Nat.div_le_self _ _
                  have hd0 : 0 ≤ ((k / 4 ^ (n - j) : Nat) : Int) := Int.natCast_nonneg _
                  refine x_iload 78 C dX12_beds_76 rfl rfl ?_
                  refine x_if_lt 104 81 C dX12_beds_78 rfl rfl (by omega) (fun h78 => ?_) (fun h78 => ?_)
                  rotate_left
                  · obtain ⟨j, rfl⟩ : ∃ q, j = q + 1 := ⟨j - 1, by omega⟩
                    have hwk := wK_ok n k j
                    refine x_aload_n 82 C dX12_beds_81 rfl rfl rfl ?_
                    refine x_getr (j := 15) 85 C rfl (lt79 (by decide)) rfl rfl (by decide) inT12 tb_4_149 rfl dX12_beds_82 rfl ?_
                    refine x_iload 87 C dX12_beds_85 rfl rfl ?_
                    refine x_iload 89 C dX12_beds_87 rfl rfl ?_
                    refine x_iconst 90 C dX12_beds_89 rfl ?_
                    refine x_irem 91 C dX12_beds_90 rfl (by omega) (by omega) ?_
                    rw [show ((k / 4 ^ (n - (j + 1)) : Nat) : Int) % 4 = ((wK n k j : Nat) : Int) from by unfold wK; rw [show n - 1 - j = n - (j + 1) by omega]; omega]
                    refine x_iast 92 C rfl (lt79 (by decide)) dX12_beds_91 rfl (by omega) (by omega) (by omega) ?_
                    refine x_iload 94 C dX12_beds_92 rfl rfl ?_
                    refine x_iconst 95 C dX12_beds_94 rfl ?_
                    refine x_idiv 96 C dX12_beds_95 rfl (by omega) (by omega) ?_
                    refine x_istore_6 98 C dX12_beds_96 rfl rfl ?_
                    refine x_iinc_7 101 C dX12_beds_98 rfl rfl ?_
                    refine x_goto 76 C dX12_beds_101 rfl ?_
                    refine ih _ (by omega) j _ _ _ rfl ⟨by omega, by omega, ?_, KX_up hX3 (Or.inr ⟨rfl, by omega⟩), KV_keep hV3 (up_row (by omega)) (up_row (by omega)), fun q hq => by rw [up_r (by omega)]; exact h713 q hq, fun q h1 h2 => ?_⟩
                    · rw [show n - j = n - (j + 1) + 1 by omega, Nat.pow_succ, ← Nat.div_div_eq_div_mul]
                      omega
                    · rw [show ((j + 1 : Nat) : Int) - 1 = j by omega, Int.toNat_natCast]
                      by_cases hqj : q = j
                      · subst hqj; exact up_s
                      · rw [up_i hqj]; exact hq3 q (by omega) h2
                  have J128 : ∀ (b5 : Nat) (most5 v7 : Int) (s5 : Sig), (KX (H761 n) σ s5 ∧ KV X N s5 ∧ (∀ q, q < n → s5 71 q = σ 61 q) ∧ BK X (cM σ) (k + 1) b5 most5) → Ex K G (NN tc) ρ (shp tc cl) 128 [some (.ref (ρ 51)), some (.int (iZ w)), some (.int (iZ ((4 ^ n : Nat) : Int))), some (.int (iZ (b5 : Int))), some (.int (iZ most5)), some (.int (iZ (k : Int))), some (.int (iZ ((k / 4 ^ (n - 0) : Nat) : Int))), some (.int (iZ v7))] [] s5 := by
                    intro b5 most5 v7 s5 hinv
                    obtain ⟨hX5, hV5, h715, hB5⟩ := hinv
                    refine x_iinc_5 131 C dX12_beds_128 rfl rfl ?_
                    refine x_goto 58 C dX12_beds_131 rfl ?_
                    exact ihB _ (by omega) (k + 1) b5 _ _ _ _ _ _ rfl ⟨by omega, by omega, rfl, hX5, hV5, h715, hB5⟩
                  have hj0 : j = 0 := by omega
                  subst hj0
                  obtain ⟨hW_s3, hu_s3⟩ := MW_61 hX3 hV3 hn18 (wK_ok n k) (fun q hq => hq3 q (by omega) hq) hW
                  have f18_s3 : s3 51 18 = σ 51 18 := hX3.2 18 (by omega) (fun hh => by unfold H761 at hh; omega)
                  refine x_aload_n 105 C dX12_beds_104 rfl rfl rfl ?_
                  refine x_callVv 108 C dX12_beds_105 rfl (c_X12_morning (X := X) (N := N) hW_s3) rfl (lt79 (by decide)) rfl tb_5_234 tb_5_236 tb_0_60 tb_1_20 tb_5_237 (na := 0) (by decide +kernel) rfl ⟨by decide, by decide⟩ rfl (Nat.le_of_ble_eq_true rfl) rfl (fun s105 hq105 hR105 => ?_)
                  obtain ⟨hM_105, hV_105, hL_105, hD_105⟩ := hq105
                  have hW_105 := KM_MW hM_105 hV_105 hW_s3
                  have e18_105 : s105 51 18 = σ 51 18 := (hM_105.2 18 (by omega)).trans f18_s3
                  have e13_105 : s105 51 13 = s3 51 13 := hM_105.2 13 (by omega)
                  have e62_105 : s105 62 = s3 62 := KM_row hM_105 (by omega) (by omega) (by omega) (by omega)
                  refine x_aload_n 109 C dX12_beds_108 rfl rfl rfl ?_
                  refine x_callVi 112 C dX12_beds_109 rfl (c_X12_allLeft (X := X) (N := N) hW_105 (HDm_self hD_105 hM_105)) rfl (lt79 (by decide)) rfl tb_6_11 tb_6_13 tb_0_62 tb_1_20 tb_6_14 (na := 0) (by decide +kernel) rfl ⟨by decide, by decide⟩ rfl (Nat.le_of_ble_eq_true rfl) rfl (fun z109 s109 hz109 hq109 hR109 => ?_)
                  obtain ⟨hf_109, hV_109, jj_109⟩ := hq109
                  rw [KM_cM hM_105, hu_s3] at jj_109
                  have j_109 := jj_109
                  have hM_109 := KM_trans hM_105 (FRk_KM hf_109)
                  have hW_109 := KM_MW hM_109 hV_109 hW_s3
                  refine x_istore_7 114 C dX12_beds_112 rfl rfl ?_
                  refine x_iload 116 C dX12_beds_114 rfl rfl ?_
                  refine x_iload 118 C dX12_beds_116 rfl rfl ?_
                  refine x_icmp_le 128 121 C dX12_beds_118 rfl rfl (by omega) (by omega) (fun h118 => ?_) (fun h118 => ?_)
                  · have hst := BK_keep hB (by rw [hsn, ← j_109]; omega) (hbr k).1
                    exact J128 _ _ _ _ ⟨KX_KM hX3 hM_109, hV_109, fun q hq => by rw [KM_row hM_109 (by omega) (by omega) (by omega) (by omega)]; exact h713 q hq, hst⟩
                  have hst := BK_new hB (by rw [hsn, ← j_109]; omega)
                  rw [hsn, ← j_109] at hst
                  refine x_iload 123 C dX12_beds_121 rfl rfl ?_
                  refine x_istore_4 125 C dX12_beds_123 rfl rfl ?_
                  refine x_iload 127 C dX12_beds_125 rfl rfl ?_
                  refine x_istore_n3 128 C dX12_beds_127 rfl rfl ?_
                  exact J128 _ _ _ _ ⟨KX_KM hX3 hM_109, hV_109, fun q hq => by rw [KM_row hM_109 (by omega) (by omega) (by omega) (by omega)]; exact h713 q hq, hst⟩
              exact L76 _ n _ _ _ rfl ⟨Nat.le_refl _, by omega, by rw [Nat.sub_self, Nat.pow_zero, Nat.div_one], hX2, hV2, h712, fun q h1 h2 => absurd h2 (by omega)⟩
          exact L58 _ 0 0 _ _ _ _ _ _ rfl ⟨Nat.zero_le _, rfl, rfl, KX_mono hX1 (fun a b h1 h2 => absurd (Or.inl h1) h2), hV1, h711, BK_0⟩
        refine x_aload_n 27 C dX12_beds_26 rfl rfl rfl ?_
        refine x_getr (j := 44) 30 C rfl (lt79 (by decide)) rfl rfl (by decide) inT12 tb_4_178 rfl dX12_beds_27 rfl ?_
        refine x_iload_n 31 C dX12_beds_30 rfl rfl rfl ?_
        refine x_aload_n 32 C dX12_beds_31 rfl rfl rfl ?_
        refine x_getr (j := 15) 35 C rfl (lt79 (by decide)) rfl rfl (by decide) inT12 tb_4_149 rfl dX12_beds_32 rfl ?_
        refine x_iload_n 36 C dX12_beds_35 rfl rfl rfl ?_
        refine x_iald 37 C rfl (lt79 (by decide)) dX12_beds_36 rfl (by omega) (by omega) (fun r36 => ?_)
        rw [hss, show s1 61 = σ 61 from KX_row hX1 (by omega) (by omega) (by omega) (by omega) (fun b hb => by unfold H71 at hb; omega)] at r36 ⊢
        refine x_iast 38 C rfl (lt79 (by decide)) dX12_beds_37 rfl (by omega) (by omega) (by omega) ?_
        refine x_iload_n 39 C dX12_beds_38 rfl rfl rfl ?_
        refine x_iconst 40 C dX12_beds_39 rfl ?_
        refine x_imul 41 C dX12_beds_40 rfl ?_
        refine x_istore_n2 42 C dX12_beds_41 rfl rfl ?_
        refine x_iinc_3 45 C dX12_beds_42 rfl rfl ?_
        refine x_goto 18 C dX12_beds_45 rfl ?_
        refine ih _ (by omega) (s + 1) _ _ _ rfl ⟨by omega, by omega, by rw [Nat.pow_succ]; omega, KX_up hX1 rfl, KV_keep hV1 (up_row (by omega)) (up_row (by omega)), fun j hj => ?_⟩
        rw [hss]
        by_cases hjs : j = s
        · subst hjs; exact up_s
        · rw [up_i hjs]; exact h711 j (by omega)
    exact L18 _ 0 _ _ _ rfl ⟨by omega, rfl, rfl, KX_refl σ, hW.2.2.2, fun j hj => absurd hj (by omega)⟩
  refine x_ldcwN (z := -100000) 13 C tb_6_10 (by decide) dX12_beds_10 rfl ?_
  refine x_iret C T dX12_beds_13 ?_
  refine PI_i ?_ ⟨?_, ?_, ?_, ?_⟩
  · first
      | omega
      | (have hdi := dK_in n best
         rw [show j = n by omega, dE_dK]
         omega)
  · first
      | exact KX_refl σ
      | exact KX_mono hX4 (fun a b h1 h2 => by
          rcases h1 with h1 | ⟨rfl, h1⟩
          · exact absurd h1 h2
          · exact h61 b (by omega))
  · first | exact hW.2.2.2 | exact hV4
  · first
      | (intro hh; exfalso; omega)
      | (intro _
         refine ⟨_, _, hBd, ?_⟩
         first | (rw [if_pos hw0]; done) | (rw [if_neg hw0, show j = n by omega, dE_dK]))
  · first
      | (intro _; rfl)
      | (intro hh; exfalso; omega)
