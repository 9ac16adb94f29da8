/-- the model's list of a bed -/
def MLa (σ : Sig) (s : Nat) (L : List (Nat × Nat)) : Prop := σ 68 s = (L.length : Int) ∧ ∀ i q, L[i]? = some q → σ 66 (6 * s + i) = (q.1 : Int) ∧ σ 67 (6 * s + i) = (q.2 : Int)
/-- the other lists, and who has what, stay -/
def OM (s : Nat) (σ σ' : Sig) : Prop := (∀ i, i ≠ s → σ' 68 i = σ 68 i) ∧ (∀ i, ¬ (6 * s ≤ i ∧ i < 6 * s + 6) → σ' 66 i = σ 66 i ∧ σ' 67 i = σ 67 i) ∧ σ' 69 = σ 69 ∧ σ' 70 = σ 70
theorem OM_refl {s : Nat} (σ : Sig) : OM s σ σ := ⟨fun _ _ => rfl, fun _ _ => ⟨rfl, rfl⟩, rfl, rfl⟩
theorem OM_FRk {s : Nat} {σ s1 s2 : Sig} (h : OM s σ s1) (hk : FRk s1 s2) : OM s σ s2 := by
  have e66 := FRk_row hk (a := 66) (by omega) (by omega) (by omega) (by omega)
  have e67 := FRk_row hk (a := 67) (by omega) (by omega) (by omega) (by omega)
  have e68 := FRk_row hk (a := 68) (by omega) (by omega) (by omega) (by omega)
  have e69 := FRk_row hk (a := 69) (by omega) (by omega) (by omega) (by omega)
  have e70 := FRk_row hk (a := 70) (by omega) (by omega) (by omega) (by omega)
  exact ⟨fun i hi => by rw [e68]; exact h.1 i hi, fun i hi => by rw [e66, e67]; exact h.2.1 i hi, e69.trans h.2.2.1, e70.trans h.2.2.2⟩
theorem OM_up66 {s i : Nat} {σ s1 : Sig} {v : Int} (h : OM s σ s1) (hi : 6 * s ≤ i ∧ i < 6 * s + 6) : OM s σ (up s1 66 i v) := ⟨fun j hj => by rw [up_r (by omega)]; exact h.1 j hj, fun j hj => by rw [up_i (by omega), up_r (by omega)]; exact h.2.1 j hj, (up_row (by omega)).trans h.2.2.1, (up_row (by omega)).trans h.2.2.2⟩
theorem OM_up67 {s i : Nat} {σ s1 : Sig} {v : Int} (h : OM s σ s1) (hi : 6 * s ≤ i ∧ i < 6 * s + 6) : OM s σ (up s1 67 i v) := ⟨fun j hj => by rw [up_r (by omega)]; exact h.1 j hj, fun j hj => by rw [up_r (by omega), up_i (by omega)]; exact h.2.1 j hj, (up_row (by omega)).trans h.2.2.1, (up_row (by omega)).trans h.2.2.2⟩
theorem OM_up68 {s : Nat} {σ s1 : Sig} {v : Int} (h : OM s σ s1) : OM s σ (up s1 68 s v) := ⟨fun j hj => by rw [up_i hj]; exact h.1 j hj, fun j hj => by rw [up_r (by omega), up_r (by omega)]; exact h.2.1 j hj, (up_row (by omega)).trans h.2.2.1, (up_row (by omega)).trans h.2.2.2⟩
theorem MLa_other {s s' : Nat} {σ s1 : Sig} {L : List (Nat × Nat)} (h : MLa σ s' L) (ho : OM s σ s1) (hne : s' ≠ s) (h6 : L.length ≤ 6) : MLa s1 s' L := by
  refine ⟨by rw [ho.1 s' hne]; exact h.1, fun i q hi => ?_⟩
  have hlt := (List.getElem?_eq_some_iff.mp hi).1
  have hn : ¬ (6 * s ≤ 6 * s' + i ∧ 6 * s' + i < 6 * s + 6) := by omega
  obtain ⟨e1, e2⟩ := ho.2.1 _ hn
  rw [e1, e2]
  exact h.2 i q hi
def MLI (X : Nat → RuT) (N : Nat) (σ : Sig) (s : Nat) (L : List (Nat × Nat)) (s1 : Sig) : Prop := KM σ s1 ∧ KV X N s1 ∧ OM s σ s1 ∧ MLa s1 s L
theorem MLI_FRk {X : Nat → RuT} {N : Nat} {σ s1 s2 : Sig} {s : Nat} {L : List (Nat × Nat)} (h : MLI X N σ s L s1) (hk : FRk s1 s2) (hV : KV X N s2) : MLI X N σ s L s2 := by
  obtain ⟨a1, a2, a3, a4⟩ := h
  have e66 := FRk_row hk (a := 66) (by omega) (by omega) (by omega) (by omega)
  have e67 := FRk_row hk (a := 67) (by omega) (by omega) (by omega) (by omega)
  have e68 := FRk_row hk (a := 68) (by omega) (by omega) (by omega) (by omega)
  refine ⟨KM_trans a1 (FRk_KM hk), hV, OM_FRk a3 hk, ?_⟩
  unfold MLa at a4 ⊢
  rw [e66, e67, e68]
  exact a4
theorem MLI_push {X : Nat → RuT} {N : Nat} {σ s1 : Sig} {s : Nat} {L : List (Nat × Nat)} {q : Nat × Nat} (h : MLI X N σ s L s1) (h6 : L.length < 6) : MLI X N σ s (L ++ [q]) (up (up (up s1 66 (6 * s + L.length) (q.1 : Nat)) 67 (6 * s + L.length) (q.2 : Nat)) 68 s ((L.length : Int) + 1)) := by
  obtain ⟨a1, a2, a3, a4, a5⟩ := h
  refine ⟨KM_up (KM_up (KM_up a1 (by omega)) (by omega)) (by omega), KV_keep a2 (by rw [up_row (by omega), up_row (by omega), up_row (by omega)]) (by rw [up_row (by omega), up_row (by omega), up_row (by omega)]), OM_up68 (OM_up67 (OM_up66 a3 (by omega)) (by omega)), by rw [up_s]; simp, fun i x hi => ?_⟩
  rw [up_r (show (66 : Nat) ≠ 68 by omega), up_r (show (66 : Nat) ≠ 67 by omega), up_r (show (67 : Nat) ≠ 68 by omega)]
  by_cases hil : i = L.length
  · subst hil
    rw [List.getElem?_append_right (Nat.le_refl _)] at hi
    simp only [Nat.sub_self, List.getElem?_cons_zero, Option.some.injEq] at hi
    subst hi
    rw [up_s, up_s]
    exact ⟨rfl, rfl⟩
  · have hlt := (List.getElem?_eq_some_iff.mp hi).1
    simp only [List.length_append, List.length_cons, List.length_nil] at hlt
    rw [List.getElem?_append_left (by omega)] at hi
    rw [up_i (by omega), up_i (by omega), up_r (by omega)]
    exact a5 i x hi
set_option maxHeartbeats 4000000 in
set_option maxRecDepth 100000 in
theorem c_X12_looks {l : Launch} {G : Gt} {ρ : Nat → Nat} {tc : Nat} {cl : Nat → Nat} {σ : Sig} {X : Nat → RuT} {N s : Nat} (hW : MW X N σ) (hs : (s : Int) < σ 51 18) : MX l yX12_looks cX12_looks 7 none 54 1301 G (NN tc) ρ (shp tc cl) [.ref (ρ 51), .int (iZ (s : Int))] σ (PV (fun σ' => KM σ σ' ∧ KV X N σ' ∧ OM s σ σ' ∧ MLa σ' s (seenT X (cM σ) s))) := by
  refine MX_of [some (.ref (ρ 51)), some (.int (iZ (s : Int))), none, none, none, none, none] (by decide +kernel) rfl rfl (Nat.le_of_ble_eq_true rfl) ?_
  intro K hKl C T hRng
  subst hKl
  have hT := hW.1
  have hTc := TI_cM hT
  have h3 := hT.2.2.1
  have h4 := hT.2.1
  have h8 := hT.2.2.2.1
  have hg := hT.1
  have hqs := hT.2.2.2.2 s
  have hss : (s : Int).toNat = s := Int.toNat_natCast s
  have hthN : thN (cM σ) = (σ 51 13).toNat := rfl
  have hH : ∀ i, 0 ≤ σ 55 i ∧ σ 55 i ≤ 9 := fun i => (hT.2.2.2.2 i).1
  have hHb := hH (σ 60 s).toNat
  refine x_aload_n 1 C dX12_looks_0 rfl rfl rfl ?_
  refine x_getr (j := 38) 4 C rfl (lt79 (by decide)) rfl rfl (by decide) inT12 tb_4_172 rfl dX12_looks_1 rfl ?_
  refine x_iload_n 5 C dX12_looks_4 rfl rfl rfl ?_
  refine x_iconst 6 C dX12_looks_5 rfl ?_
  refine x_iast 7 C rfl (lt79 (by decide)) dX12_looks_6 rfl (by omega) (by omega) (by omega) ?_
  rw [hss]
  obtain ⟨s0, hs0⟩ : ∃ s0, up σ 68 s 0 = s0 := ⟨_, rfl⟩
  rw [hs0]
  have hK0 : KM σ s0 := by rw [← hs0]; exact KM_up (KM_refl σ) (by omega)
  have f55 : s0 55 = σ 55 := by rw [← hs0, up_row (by omega)]
  have f60 : s0 60 = σ 60 := by rw [← hs0, up_row (by omega)]
  have f61 : s0 61 = σ 61 := by rw [← hs0, up_row (by omega)]
  have hM0 : MLI X N σ s ((seenP X (cM σ) (σ 60 s) (σ 61 s) (σ 62 s) s (thN (cM σ)) (0))) s0 := by
    rw [← hs0]
    exact ⟨KM_up (KM_refl σ) (by omega), KV_keep hW.2.2.2 (up_row (by omega)) (up_row (by omega)), OM_up68 (OM_refl σ), up_s, fun i q hi => by simp [seenP] at hi⟩
  refine x_aload_n 8 C dX12_looks_7 rfl rfl rfl ?_
  refine x_getr (j := 7) 11 C rfl (lt79 (by decide)) rfl rfl (by decide) inT12 tb_4_141 rfl dX12_looks_8 rfl ?_
  refine x_aload_n 12 C dX12_looks_11 rfl rfl rfl ?_
  refine x_getr (j := 14) 15 C rfl (lt79 (by decide)) rfl rfl (by decide) inT12 tb_4_148 rfl dX12_looks_12 rfl ?_
  refine x_iload_n 16 C dX12_looks_15 rfl rfl rfl ?_
  refine x_iald 17 C rfl (lt79 (by decide)) dX12_looks_16 rfl (by omega) (by omega) (fun r16 => ?_)
  rw [f60, hss] at r16 ⊢
  refine x_iald 18 C rfl (lt79 (by decide)) dX12_looks_17 rfl (by omega) (by omega) (fun r17 => ?_)
  rw [f55] at r17 ⊢
  refine x_istore_n2 19 C dX12_looks_18 rfl rfl ?_
  refine x_iconst 20 C dX12_looks_19 rfl ?_
  refine x_istore_n3 21 C dX12_looks_20 rfl rfl ?_
  refine x_iconst 22 C dX12_looks_21 rfl ?_
  refine x_istore_4 24 C dX12_looks_22 rfl rfl ?_
  refine x_aload_n 25 C dX12_looks_24 rfl rfl rfl ?_
  refine x_getr (j := 14) 28 C rfl (lt79 (by decide)) rfl rfl (by decide) inT12 tb_4_148 rfl dX12_looks_25 rfl ?_
  refine x_iload_n 29 C dX12_looks_28 rfl rfl rfl ?_
  refine x_iald 30 C rfl (lt79 (by decide)) dX12_looks_29 rfl (by omega) (by omega) (fun r29 => ?_)
  rw [f60, hss] at r29 ⊢
  refine x_aload_n 31 C dX12_looks_30 rfl rfl rfl ?_
  refine x_getr (j := 15) 34 C rfl (lt79 (by decide)) rfl rfl (by decide) inT12 tb_4_149 rfl dX12_looks_31 rfl ?_
  refine x_iload_n 35 C dX12_looks_34 rfl rfl rfl ?_
  refine x_iald 36 C rfl (lt79 (by decide)) dX12_looks_35 rfl (by omega) (by omega) (fun r35 => ?_)
  rw [f61, hss] at r35 ⊢
  refine x_callSe 39 C dX12_looks_36 rfl (c_X12_beside (by omega) (by omega)) tb_5_212 tb_5_213 tb_1_20 tb_5_214 (na := 2) (by decide +kernel) rfl ⟨by decide, by decide⟩ rfl (Nat.le_of_ble_eq_true rfl) rfl (fun r36 => ?_)
  rw [besF_1 (by omega)] at r36 ⊢
  refine x_istore_5 41 C dX12_looks_39 rfl rfl ?_
  have L41 : ∀ (mz : Nat) (F : Nat) (tp fr y c5 : Int) (s1 : Sig) (x6 : Option Value), mz = 6 - F → (F ≤ 5 ∧ y = ((F + 1 : Nat) : Int) ∧ c5 = (cellF (σ 60 s) (σ 61 s) (F + 1)) ∧ ((fr = 1 ∧ (tallF (σ 55) (σ 60 s) (σ 61 s) (F)) ≤ σ 55 (σ 60 s).toNat ∧ tp = σ 55 (σ 60 s).toNat) ∨ (fr = 0 ∧ σ 55 (σ 60 s).toNat < (tallF (σ 55) (σ 60 s) (σ 61 s) (F)) ∧ tp = (tallF (σ 55) (σ 60 s) (σ 61 s) (F)))) ∧ MLI X N σ s (seenP X (cM σ) (σ 60 s) (σ 61 s) (σ 62 s) s (thN (cM σ)) (F)) s1) → Ex K G (NN tc) ρ (shp tc cl) 41 [some (.ref (ρ 51)), some (.int (iZ (s : Int))), some (.int (iZ tp)), some (.int (iZ fr)), some (.int (iZ y)), some (.int (iZ c5)), x6] [] s1 := by
    intro mz
    induction mz using Nat.strongRecOn with
    | ind mz ih =>
      intro F tp fr y c5 s1 x6 hmz hinv
      have ihF := ih
      obtain ⟨hF, rfl, rfl, htop, hMI0⟩ := hinv
      have htl := tallF_in (H := σ 55) (c := σ 60 s) (w := σ 61 s) hH F
      have hcin := cellF_in (c := σ 60 s) (w := σ 61 s) (f := F + 1)
      have hK1 := hMI0.1
      have e55 : s1 55 = σ 55 := KM_row hK1 (by omega) (by omega) (by omega) (by omega)
      have htpr : 0 ≤ tp ∧ tp ≤ 9 := by omega
      have hFF : ((F + 1 : Nat) : Int).toNat = F + 1 := Int.toNat_natCast _
      refine x_iload 43 C dX12_looks_41 rfl rfl ?_
      refine x_iconst 44 C dX12_looks_43 rfl ?_
      refine x_icmp_eq 207 47 C dX12_looks_44 rfl rfl (by omega) (by omega) (fun h44 => ?_) (fun h44 => ?_)
      · refine x_vret C T dX12_looks_207 ?_
        have hsG : (seenP X (cM σ) (σ 60 s) (σ 61 s) (σ 62 s) s (thN (cM σ)) (F)) = seenT X (cM σ) s := by
          have h := seenP_gone (X := X) (T := cM σ) (c := σ 60 s) (w := σ 61 s) (m := σ 62 s) (s := s) hTc (by omega) (by omega) (by omega) (F := F) (by omega) (thN (cM σ)) (5 - F)
          rw [show F + (5 - F) = 5 by omega] at h
          rw [← h]
          rfl
        rw [hsG] at hMI0
        exact PV_i hMI0
      have hcell : (cellF (σ 60 s) (σ 61 s) (F + 1)) ≠ -1 := by omega
      have hF4 : F ≤ 4 := by
        apply Nat.le_of_not_lt
        intro hlt
        exact hcell (by rw [show F + 1 = 6 by omega]; exact cell_6 (by omega) (by omega))
      have J188 : ∀ (tp6 fr6 : Int) (s5 : Sig) (x6b : Option Value), (((fr6 = 1 ∧ (tallF (σ 55) (σ 60 s) (σ 61 s) (F + 1)) ≤ σ 55 (σ 60 s).toNat ∧ tp6 = σ 55 (σ 60 s).toNat) ∨ (fr6 = 0 ∧ σ 55 (σ 60 s).toNat < (tallF (σ 55) (σ 60 s) (σ 61 s) (F + 1)) ∧ tp6 = (tallF (σ 55) (σ 60 s) (σ 61 s) (F + 1)))) ∧ MLI X N σ s (seenP X (cM σ) (σ 60 s) (σ 61 s) (σ 62 s) s (thN (cM σ)) (F + 1)) s5) → Ex K G (NN tc) ρ (shp tc cl) 188 [some (.ref (ρ 51)), some (.int (iZ (s : Int))), some (.int (iZ tp6)), some (.int (iZ fr6)), some (.int (iZ ((F + 1 : Nat) : Int))), some (.int (iZ (cellF (σ 60 s) (σ 61 s) (F + 1)))), x6b] [] s5 := by
        intro tp6 fr6 s5 x6b hinv
        obtain ⟨htop6, hMI5⟩ := hinv
        have hK5 := hMI5.1
        have e1 : ∀ b, b < 19 → s5 51 b = σ 51 b := fun b hb => hK5.2 b (by omega)
        have e13 : s5 51 13 = σ 51 13 := e1 13 (by omega)
        have e18 : s5 51 18 = σ 51 18 := e1 18 (by omega)
        have e55 : s5 55 = σ 55 := KM_row hK5 (by omega) (by omega) (by omega) (by omega)
        have e56 : s5 56 = σ 56 := KM_row hK5 (by omega) (by omega) (by omega) (by omega)
        have e57 : s5 57 = σ 57 := KM_row hK5 (by omega) (by omega) (by omega) (by omega)
        have e59 : s5 59 = σ 59 := KM_row hK5 (by omega) (by omega) (by omega) (by omega)
        have e61 : s5 61 = σ 61 := KM_row hK5 (by omega) (by omega) (by omega) (by omega)
        have e62 : s5 62 = σ 62 := KM_row hK5 (by omega) (by omega) (by omega) (by omega)
        refine x_iinc_4 191 C dX12_looks_188 rfl rfl ?_
        refine x_iload 193 C dX12_looks_191 rfl rfl ?_
        refine x_aload_n 194 C dX12_looks_193 rfl rfl rfl ?_
        refine x_getr (j := 15) 197 C rfl (lt79 (by decide)) rfl rfl (by decide) inT12 tb_4_149 rfl dX12_looks_194 rfl ?_
        refine x_iload_n 198 C dX12_looks_197 rfl rfl rfl ?_
        refine x_iald 199 C rfl (lt79 (by decide)) dX12_looks_198 rfl (by omega) (by omega) (fun r198 => ?_)
        rw [show s5 61 (s : Int).toNat = σ 61 s by rw [hss, e61]] at r198 ⊢
        refine x_callSe 202 C dX12_looks_199 rfl (c_X12_beside (by omega) (by omega)) tb_5_212 tb_5_213 tb_1_20 tb_5_214 (na := 2) (by decide +kernel) rfl ⟨by decide, by decide⟩ rfl (Nat.le_of_ble_eq_true rfl) rfl (fun r199 => ?_)
        rw [besF_s (by omega) (by omega) hcell] at r199 ⊢
        refine x_istore_5 204 C dX12_looks_202 rfl rfl ?_
        refine x_goto 41 C dX12_looks_204 rfl ?_
        refine ihF _ (by omega) (F + 1) _ _ _ _ _ _ rfl ⟨by omega, by omega, rfl, htop6, hMI5⟩
      have J167 : ∀ (s4 : Sig) (x6b : Option Value), MLI X N σ s (seenP X (cM σ) (σ 60 s) (σ 61 s) (σ 62 s) s (thN (cM σ)) (F + 1)) s4 → Ex K G (NN tc) ρ (shp tc cl) 167 [some (.ref (ρ 51)), some (.int (iZ (s : Int))), some (.int (iZ tp)), some (.int (iZ fr)), some (.int (iZ ((F + 1 : Nat) : Int))), some (.int (iZ (cellF (σ 60 s) (σ 61 s) (F + 1)))), x6b] [] s4 := by
        intro s4 x6b hinv
        have hMI4 := hinv
        have hK4 := hMI4.1
        have e55 : s4 55 = σ 55 := KM_row hK4 (by omega) (by omega) (by omega) (by omega)
        refine x_aload_n 168 C dX12_looks_167 rfl rfl rfl ?_
        refine x_getr (j := 7) 171 C rfl (lt79 (by decide)) rfl rfl (by decide) inT12 tb_4_141 rfl dX12_looks_168 rfl ?_
        refine x_iload 173 C dX12_looks_171 rfl rfl ?_
        refine x_iald 174 C rfl (lt79 (by decide)) dX12_looks_173 rfl (by omega) (by omega) (fun r173 => ?_)
        rw [e55] at r173 ⊢
        refine x_iload_n 175 C dX12_looks_174 rfl rfl rfl ?_
        refine x_icmp_le 188 178 C dX12_looks_175 rfl rfl (by omega) (by omega) (fun h175 => ?_) (fun h175 => ?_)
        · have htop6 : ((fr = 1 ∧ (tallF (σ 55) (σ 60 s) (σ 61 s) (F + 1)) ≤ σ 55 (σ 60 s).toNat ∧ tp = σ 55 (σ 60 s).toNat) ∨ (fr = 0 ∧ σ 55 (σ 60 s).toNat < (tallF (σ 55) (σ 60 s) (σ 61 s) (F + 1)) ∧ tp = (tallF (σ 55) (σ 60 s) (σ 61 s) (F + 1)))) := by
            have htS : (tallF (σ 55) (σ 60 s) (σ 61 s) (F + 1)) = max (tallF (σ 55) (σ 60 s) (σ 61 s) (F)) (σ 55 (cellF (σ 60 s) (σ 61 s) (F + 1)).toNat) := by simp only [tallF]; rw [if_neg hcell]
            rw [htS, Int.max_def]
            split <;> omega
          exact J188 _ _ _ _ ⟨htop6, hMI4⟩
        have htop6 : (((0 : Int) = 1 ∧ (tallF (σ 55) (σ 60 s) (σ 61 s) (F + 1)) ≤ σ 55 (σ 60 s).toNat ∧ (σ 55 (cellF (σ 60 s) (σ 61 s) (F + 1)).toNat) = σ 55 (σ 60 s).toNat) ∨ ((0 : Int) = 0 ∧ σ 55 (σ 60 s).toNat < (tallF (σ 55) (σ 60 s) (σ 61 s) (F + 1)) ∧ (σ 55 (cellF (σ 60 s) (σ 61 s) (F + 1)).toNat) = (tallF (σ 55) (σ 60 s) (σ 61 s) (F + 1)))) := by
          have htS : (tallF (σ 55) (σ 60 s) (σ 61 s) (F + 1)) = max (tallF (σ 55) (σ 60 s) (σ 61 s) (F)) (σ 55 (cellF (σ 60 s) (σ 61 s) (F + 1)).toNat) := by simp only [tallF]; rw [if_neg hcell]
          rw [htS, Int.max_def]
          split <;> omega
        refine x_aload_n 179 C dX12_looks_178 rfl rfl rfl ?_
        refine x_getr (j := 7) 182 C rfl (lt79 (by decide)) rfl rfl (by decide) inT12 tb_4_141 rfl dX12_looks_179 rfl ?_
        refine x_iload 184 C dX12_looks_182 rfl rfl ?_
        refine x_iald 185 C rfl (lt79 (by decide)) dX12_looks_184 rfl (by omega) (by omega) (fun r184 => ?_)
        rw [e55] at r184 ⊢
        refine x_istore_n2 186 C dX12_looks_185 rfl rfl ?_
        refine x_iconst 187 C dX12_looks_186 rfl ?_
        refine x_istore_n3 188 C dX12_looks_187 rfl rfl ?_
        exact J188 _ _ _ _ ⟨htop6, hMI4⟩
      have J62 : ∀ (u : Unit), (viewF (σ 55) (σ 60 s) (σ 61 s) (F + 1) = (cellF (σ 60 s) (σ 61 s) (F + 1))) → Ex K G (NN tc) ρ (shp tc cl) 62 [some (.ref (ρ 51)), some (.int (iZ (s : Int))), some (.int (iZ tp)), some (.int (iZ fr)), some (.int (iZ ((F + 1 : Nat) : Int))), some (.int (iZ (cellF (σ 60 s) (σ 61 s) (F + 1)))), x6] [] s1 := by
        intro u hinv
        have hview := hinv
        refine x_iconst 63 C dX12_looks_62 rfl ?_
        refine x_istore_6 65 C dX12_looks_63 rfl rfl ?_
        have L65 : ∀ (mz : Nat) (k : Nat) (y : Int) (s3 : Sig), mz = 6 - k → ((k : Int) ≤ σ 51 13 ∧ y = k ∧ MLI X N σ s ((seenP X (cM σ) (σ 60 s) (σ 61 s) (σ 62 s) s (thN (cM σ)) (F)) ++ (rowS1 X (cM σ) (σ 60 s) (σ 61 s) (σ 62 s) s (F + 1) (k))) s3) → Ex K G (NN tc) ρ (shp tc cl) 65 [some (.ref (ρ 51)), some (.int (iZ (s : Int))), some (.int (iZ tp)), some (.int (iZ fr)), some (.int (iZ ((F + 1 : Nat) : Int))), some (.int (iZ (cellF (σ 60 s) (σ 61 s) (F + 1)))), some (.int (iZ y))] [] s3 := by
          intro mz
          induction mz using Nat.strongRecOn with
          | ind mz ih =>
            intro k y s3 hmz hinv
            obtain ⟨hk, rfl, hMI⟩ := hinv
            have hK3 := hMI.1
            have e1 : ∀ b, b < 19 → s3 51 b = σ 51 b := fun b hb => hK3.2 b (by omega)
            have e13 : s3 51 13 = σ 51 13 := e1 13 (by omega)
            have e18 : s3 51 18 = σ 51 18 := e1 18 (by omega)
            have e55 : s3 55 = σ 55 := KM_row hK3 (by omega) (by omega) (by omega) (by omega)
            have e56 : s3 56 = σ 56 := KM_row hK3 (by omega) (by omega) (by omega) (by omega)
            have e57 : s3 57 = σ 57 := KM_row hK3 (by omega) (by omega) (by omega) (by omega)
            have e59 : s3 59 = σ 59 := KM_row hK3 (by omega) (by omega) (by omega) (by omega)
            have e61 : s3 61 = σ 61 := KM_row hK3 (by omega) (by omega) (by omega) (by omega)
            have e62 : s3 62 = σ 62 := KM_row hK3 (by omega) (by omega) (by omega) (by omega)
            have hW1 := KM_MW hK3 hMI.2.1 hW
            have hT1 := hW1.1
            have hkk : (k : Int).toNat = k := Int.toNat_natCast k
            refine x_iload 67 C dX12_looks_65 rfl rfl ?_
            refine x_aload_n 68 C dX12_looks_67 rfl rfl rfl ?_
            refine x_geti (j := 13) 71 C rfl (lt79 (by decide)) rfl rfl (by decide) inT12 tb_4_147 rfl dX12_looks_68 rfl (fun r68 => ?_)
            refine x_icmp_ge 167 74 C dX12_looks_71 rfl rfl (by omega) (by omega) (fun h71 => ?_) (fun h71 => ?_)
            · have hkth : k = thN (cM σ) := by rw [hthN]; omega
              have h167 : MLI X N σ s (seenP X (cM σ) (σ 60 s) (σ 61 s) (σ 62 s) s (thN (cM σ)) (F + 1)) s3 := by
                rw [seenP_s, ← hkth]
                rw [← hkth] at hMI
                exact hMI
              exact J167 _ _ h167
            have hklt : (k : Int) < σ 51 13 := by omega
            have hc6 : cM σ 6 k = σ 56 k := cM_6 hklt
            have hplk : plc (cM σ) k (σ 62 s) = whereF (σ 56 k) (σ 57 k) (σ 59 k) (σ 62 s) := by
              unfold plc
              rw [hc6]
              rfl
            have J161 : ∀ (s6 : Sig), MLI X N σ s ((seenP X (cM σ) (σ 60 s) (σ 61 s) (σ 62 s) s (thN (cM σ)) (F)) ++ (rowS1 X (cM σ) (σ 60 s) (σ 61 s) (σ 62 s) s (F + 1) (k + 1))) s6 → Ex K G (NN tc) ρ (shp tc cl) 161 [some (.ref (ρ 51)), some (.int (iZ (s : Int))), some (.int (iZ tp)), some (.int (iZ fr)), some (.int (iZ ((F + 1 : Nat) : Int))), some (.int (iZ (cellF (σ 60 s) (σ 61 s) (F + 1)))), some (.int (iZ (k : Int)))] [] s6 := by
              intro s6 hinv
              have hMI6 := hinv
              refine x_iinc_6 164 C dX12_looks_161 rfl rfl ?_
              refine x_goto 65 C dX12_looks_164 rfl ?_
              exact ih _ (by omega) (k + 1) _ _ rfl ⟨by omega, by omega, hMI6⟩
            refine x_aload_n 75 C dX12_looks_74 rfl rfl rfl ?_
            refine x_iload 77 C dX12_looks_75 rfl rfl ?_
            refine x_aload_n 78 C dX12_looks_77 rfl rfl rfl ?_
            refine x_getr (j := 16) 81 C rfl (lt79 (by decide)) rfl rfl (by decide) inT12 tb_4_150 rfl dX12_looks_78 rfl ?_
            refine x_iload_n 82 C dX12_looks_81 rfl rfl rfl ?_
            refine x_iald 83 C rfl (lt79 (by decide)) dX12_looks_82 rfl (by omega) (by omega) (fun r82 => ?_)
            rw [show s3 62 (s : Int).toNat = σ 62 s by rw [hss, e62]] at r82 ⊢
            refine x_callVe 86 C dX12_looks_83 rfl (c_X12_whereAt (by omega) (by omega) hT1) rfl (lt79 (by decide)) rfl tb_5_116 tb_5_118 tb_0_39 tb_1_20 tb_5_119 (na := 2) (by decide +kernel) rfl ⟨by decide, by decide⟩ rfl (Nat.le_of_ble_eq_true rfl) rfl (fun r83 => ?_)
            rw [e56, e57, e59, Int.toNat_natCast] at r83 ⊢
            refine x_iload 88 C dX12_looks_86 rfl rfl ?_
            refine x_icmp_ne 161 91 C dX12_looks_88 rfl rfl (by omega) (by omega) (fun h88 => ?_) (fun h88 => ?_)
            · have hno : isSn X (cM σ) (σ 60 s) (σ 61 s) (σ 62 s) s (F + 1) k = false := by
                unfold isSn
                rw [Bool.and_eq_false_iff]
                refine Or.inl ?_
                rw [decide_eq_false_iff_not]
                intro h
                have h2 : plc (cM σ) k (σ 62 s) = viewF (σ 55) (σ 60 s) (σ 61 s) (F + 1) := h
                rw [hplk, hview] at h2
                exact h88 h2
              have hj : MLI X N σ s ((seenP X (cM σ) (σ 60 s) (σ 61 s) (σ 62 s) s (thN (cM σ)) (F)) ++ (rowS1 X (cM σ) (σ 60 s) (σ 61 s) (σ 62 s) s (F + 1) (k + 1))) s3 := by
                rw [rowS1_s, hno]
                simp only [Bool.false_eq_true, if_false, List.append_nil]
                exact hMI
              first | exact J161 _ hj | (have hpush := MLI_push (q := (k, F + 1)) hMI2 (by rw [hM]; omega); rw [hM] at hpush; rw [show (6 * (s : Int) + (M : Int)).toNat = 6 * s + M by omega, hss]; refine J161 _ ?_; rw [rowS1_s, hyes, if_pos rfl, ← List.append_assoc]; exact hpush)
            have hdef : isSn X (cM σ) (σ 60 s) (σ 61 s) (σ 62 s) s (F + 1) k = (showsF (σ 56 k) (σ 59 k) (σ 51 8) ((F + 1 : Nat) : Int) && decide (evL (nmF ((F + 1 : Nat) : Int) (σ 62 s) (σ 51 8) (σ 55 (whereF (σ 56 k) (σ 57 k) (σ 59 k) (σ 62 s)).toNat) (s : Int) (k : Int)) (prt 0 (X (σ 51 4).toNat)) ≠ 0)) := by
              have h2 : plc (cM σ) k (σ 62 s) = viewF (σ 55) (σ 60 s) (σ 61 s) (F + 1) := by rw [hplk, hview]; exact h88
              have h2' : plc (cM σ) k (σ 62 s) = viewF (cM σ 2) (σ 60 s) (σ 61 s) (F + 1) := h2
              unfold isSn
              rw [show decide (plc (cM σ) k (σ 62 s) = viewF (cM σ 2) (σ 60 s) (σ 61 s) (F + 1)) = true from decide_eq_true h2', Bool.true_and, hplk, hc6]
              rfl
            refine x_aload_n 92 C dX12_looks_91 rfl rfl rfl ?_
            refine x_iload 94 C dX12_looks_92 rfl rfl ?_
            refine x_iload 96 C dX12_looks_94 rfl rfl ?_
            refine x_callVe 99 C dX12_looks_96 rfl (c_X12_shows (by omega) (by omega) hT1) rfl (lt79 (by decide)) rfl tb_5_215 tb_5_217 tb_0_57 tb_1_20 tb_5_218 (na := 2) (by decide +kernel) rfl ⟨by decide, by decide⟩ rfl (Nat.le_of_ble_eq_true rfl) rfl (fun r96 => ?_)
            first
              | refine x_ifb_eq 161 102 C dX12_looks_99 rfl rfl (fun h99 => ?_) (fun h99 => ?_)
              | refine x_if_eq 161 102 C dX12_looks_99 rfl rfl (by omega) (fun h99 => ?_) (fun h99 => ?_)
            · rw [e56, e59, e1 8 (by omega), Int.toNat_natCast] at h99
              have hno : isSn X (cM σ) (σ 60 s) (σ 61 s) (σ 62 s) s (F + 1) k = false := by
                rw [hdef]
                rw [show showsF (σ 56 k) (σ 59 k) (σ 51 8) ((F + 1 : Nat) : Int) = false by simpa using h99]
                rfl
              have hj : MLI X N σ s ((seenP X (cM σ) (σ 60 s) (σ 61 s) (σ 62 s) s (thN (cM σ)) (F)) ++ (rowS1 X (cM σ) (σ 60 s) (σ 61 s) (σ 62 s) s (F + 1) (k + 1))) s3 := by
                rw [rowS1_s, hno]
                simp only [Bool.false_eq_true, if_false, List.append_nil]
                exact hMI
              first | exact J161 _ hj | (have hpush := MLI_push (q := (k, F + 1)) hMI2 (by rw [hM]; omega); rw [hM] at hpush; rw [show (6 * (s : Int) + (M : Int)).toNat = 6 * s + M by omega, hss]; refine J161 _ ?_; rw [rowS1_s, hyes, if_pos rfl, ← List.append_assoc]; exact hpush)
            rw [e56, e59, e1 8 (by omega), Int.toNat_natCast] at h99
            refine x_aload_n 103 C dX12_looks_102 rfl rfl rfl ?_
            refine x_iconst 104 C dX12_looks_103 rfl ?_
            refine x_iload_n 105 C dX12_looks_104 rfl rfl rfl ?_
            refine x_iload 107 C dX12_looks_105 rfl rfl ?_
            refine x_iload 109 C dX12_looks_107 rfl rfl ?_
            refine x_callVi 112 C dX12_looks_109 rfl (c_X12_says (X := X) (N := N) (w := 0) (s := (s : Int)) (t := (k : Int)) (far := ((F + 1 : Nat) : Int)) hW1.2.1 ⟨by rw [e1 4 (by omega)]; omega, hW1.2.2.1⟩ hW1.2.2.2 (by omega) hT1 (by omega) (by omega) (by omega)) rfl (lt79 (by decide)) rfl tb_5_219 tb_5_221 tb_0_58 tb_1_20 tb_5_222 (na := 4) (by decide +kernel) rfl ⟨by decide, by decide⟩ rfl (Nat.le_of_ble_eq_true rfl) rfl (fun z109 s109 hz109 hq109 hR109 => ?_)
            obtain ⟨g1, g2, g3⟩ := hq109
            rw [if_neg (show ¬ (0 : Int) = 2 by decide), if_neg (show ¬ (0 : Int) = 2 by decide), e62, e1 8 (by omega), e1 4 (by omega), e55, e56, e57, e59, hss, Int.toNat_natCast] at g3
            have hMI2 := MLI_FRk hMI g1 g2
            first
              | refine x_ifb_eq 161 115 C dX12_looks_112 rfl rfl (fun h112 => ?_) (fun h112 => ?_)
              | refine x_if_eq 161 115 C dX12_looks_112 rfl rfl (by omega) (fun h112 => ?_) (fun h112 => ?_)
            · have hno : isSn X (cM σ) (σ 60 s) (σ 61 s) (σ 62 s) s (F + 1) k = false := by
                rw [hdef, h99, Bool.true_and, decide_eq_false_iff_not, ← g3]
                exact fun h => h h112
              have hj : MLI X N σ s ((seenP X (cM σ) (σ 60 s) (σ 61 s) (σ 62 s) s (thN (cM σ)) (F)) ++ (rowS1 X (cM σ) (σ 60 s) (σ 61 s) (σ 62 s) s (F + 1) (k + 1))) s109 := by
                rw [rowS1_s, hno]
                simp only [Bool.false_eq_true, if_false, List.append_nil]
                exact hMI2
              first | exact J161 _ hj | (have hpush := MLI_push (q := (k, F + 1)) hMI2 (by rw [hM]; omega); rw [hM] at hpush; rw [show (6 * (s : Int) + (M : Int)).toNat = 6 * s + M by omega, hss]; refine J161 _ ?_; rw [rowS1_s, hyes, if_pos rfl, ← List.append_assoc]; exact hpush)
            have hyes : isSn X (cM σ) (σ 60 s) (σ 61 s) (σ 62 s) s (F + 1) k = true := by
              rw [hdef, h99, Bool.true_and, decide_eq_true_eq, ← g3]
              exact h112
            have hroom := seen_room (X := X) (T := cM σ) (c := σ 60 s) (w := σ 61 s) (m := σ 62 s) (s := s) hTc (by omega) (by omega) (F := F) (k := k) (by omega) (by rw [hthN]; omega) hyes
            obtain ⟨M, hM⟩ : ∃ M, ((seenP X (cM σ) (σ 60 s) (σ 61 s) (σ 62 s) s (thN (cM σ)) (F)) ++ (rowS1 X (cM σ) (σ 60 s) (σ 61 s) (σ 62 s) s (F + 1) (k))).length = M := ⟨_, rfl⟩
            rw [hM] at hroom
            have hM68 : s109 68 s = (M : Int) := by rw [hMI2.2.2.2.1, hM]
            refine x_aload_n 116 C dX12_looks_115 rfl rfl rfl ?_
            refine x_getr (j := 36) 119 C rfl (lt79 (by decide)) rfl rfl (by decide) inT12 tb_4_170 rfl dX12_looks_116 rfl ?_
            refine x_bipush 121 C dX12_looks_119 rfl rfl ?_
            refine x_iload_n 122 C dX12_looks_121 rfl rfl rfl ?_
            refine x_imul 123 C dX12_looks_122 rfl ?_
            refine x_aload_n 124 C dX12_looks_123 rfl rfl rfl ?_
            refine x_getr (j := 38) 127 C rfl (lt79 (by decide)) rfl rfl (by decide) inT12 tb_4_172 rfl dX12_looks_124 rfl ?_
            refine x_iload_n 128 C dX12_looks_127 rfl rfl rfl ?_
            refine x_iald 129 C rfl (lt79 (by decide)) dX12_looks_128 rfl (by omega) (by omega) (fun r128 => ?_)
            refine x_iadd 130 C dX12_looks_129 rfl ?_
            refine x_iload 132 C dX12_looks_130 rfl rfl ?_
            rw [show s109 68 (s : Int).toNat = (M : Int) by rw [hss, hM68]] at r128 ⊢
            refine x_iast 133 C rfl (lt79 (by decide)) dX12_looks_132 rfl (by omega) (by omega) (by omega) ?_
            refine x_aload_n 134 C dX12_looks_133 rfl rfl rfl ?_
            refine x_getr (j := 37) 137 C rfl (lt79 (by decide)) rfl rfl (by decide) inT12 tb_4_171 rfl dX12_looks_134 rfl ?_
            refine x_bipush 139 C dX12_looks_137 rfl rfl ?_
            refine x_iload_n 140 C dX12_looks_139 rfl rfl rfl ?_
            refine x_imul 141 C dX12_looks_140 rfl ?_
            refine x_aload_n 142 C dX12_looks_141 rfl rfl rfl ?_
            refine x_getr (j := 38) 145 C rfl (lt79 (by decide)) rfl rfl (by decide) inT12 tb_4_172 rfl dX12_looks_142 rfl ?_
            refine x_iload_n 146 C dX12_looks_145 rfl rfl rfl ?_
            refine x_iald 147 C rfl (lt79 (by decide)) dX12_looks_146 rfl (by omega) (by omega) (fun r146 => ?_)
            refine x_iadd 148 C dX12_looks_147 rfl ?_
            refine x_iload 150 C dX12_looks_148 rfl rfl ?_
            rw [show (up s109 66 (6 * (s : Int) + (M : Int)).toNat (k : Int)) 68 (s : Int).toNat = (M : Int) by rw [up_r (by omega), hss, hM68]] at r146 ⊢
            refine x_iast 151 C rfl (lt79 (by decide)) dX12_looks_150 rfl (by omega) (by omega) (by omega) ?_
            refine x_aload_n 152 C dX12_looks_151 rfl rfl rfl ?_
            refine x_getr (j := 38) 155 C rfl (lt79 (by decide)) rfl rfl (by decide) inT12 tb_4_172 rfl dX12_looks_152 rfl ?_
            refine x_iload_n 156 C dX12_looks_155 rfl rfl rfl ?_
            refine x_dup2 157 C dX12_looks_156 rfl rfl rfl ?_
            refine x_iald 158 C rfl (lt79 (by decide)) dX12_looks_157 rfl (by omega) (by omega) (fun r157 => ?_)
            refine x_iconst 159 C dX12_looks_158 rfl ?_
            refine x_iadd 160 C dX12_looks_159 rfl ?_
            rw [show (up (up s109 66 (6 * (s : Int) + (M : Int)).toNat (k : Int)) 67 (6 * (s : Int) + (M : Int)).toNat ((F + 1 : Nat) : Int)) 68 (s : Int).toNat = (M : Int) by rw [up_r (by omega), up_r (by omega), hss, hM68]] at r157 ⊢
            refine x_iast 161 C rfl (lt79 (by decide)) dX12_looks_160 rfl (by omega) (by omega) (by omega) ?_
            first | exact J161 _ hj | (have hpush := MLI_push (q := (k, F + 1)) hMI2 (by rw [hM]; omega); rw [hM] at hpush; rw [show (6 * (s : Int) + (M : Int)).toNat = 6 * s + M by omega, hss]; refine J161 _ ?_; rw [rowS1_s, hyes, if_pos rfl, ← List.append_assoc]; exact hpush)
        exact L65 _ 0 _ _ rfl ⟨by omega, rfl, by rw [show (rowS1 X (cM σ) (σ 60 s) (σ 61 s) (σ 62 s) s (F + 1) (0)) = [] from rfl, List.append_nil]; exact hMI0⟩
      refine x_iload_n 48 C dX12_looks_47 rfl rfl rfl ?_
      refine x_if_ne 62 51 C dX12_looks_48 rfl rfl (by omega) (fun h48 => ?_) (fun h48 => ?_)
      · exact J62 () (by unfold viewF; rw [if_pos ⟨hcell, by rw [show F + 1 - 1 = F by omega]; omega⟩])
      refine x_aload_n 52 C dX12_looks_51 rfl rfl rfl ?_
      refine x_getr (j := 7) 55 C rfl (lt79 (by decide)) rfl rfl (by decide) inT12 tb_4_141 rfl dX12_looks_52 rfl ?_
      refine x_iload 57 C dX12_looks_55 rfl rfl ?_
      refine x_iald 58 C rfl (lt79 (by decide)) dX12_looks_57 rfl (by omega) (by omega) (fun r57 => ?_)
      rw [e55] at r57 ⊢
      refine x_iload_n 59 C dX12_looks_58 rfl rfl rfl ?_
      refine x_icmp_le 167 62 C dX12_looks_59 rfl rfl (by omega) (by omega) (fun h59 => ?_) (fun h59 => ?_)
      · have hnv : viewF (σ 55) (σ 60 s) (σ 61 s) (F + 1) = -1 := by
          unfold viewF
          rw [if_neg (by rw [show F + 1 - 1 = F by omega]; omega)]
        have h167 : MLI X N σ s (seenP X (cM σ) (σ 60 s) (σ 61 s) (σ 62 s) s (thN (cM σ)) (F + 1)) s1 := by
          rw [seenP_s, row_nil hTc (by omega) hnv, List.append_nil]
          exact hMI0
        exact J167 _ _ h167
      exact J62 () (by unfold viewF; rw [if_pos ⟨hcell, by rw [show F + 1 - 1 = F by omega]; omega⟩])
  exact L41 _ 0 _ _ _ _ _ _ rfl ⟨by omega, rfl, rfl, Or.inl ⟨rfl, show (-1 : Int) ≤ _ by omega, rfl⟩, hM0⟩
