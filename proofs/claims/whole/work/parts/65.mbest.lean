/-! what is best, by the model -/
def HB (a b : Nat) : Prop := a = 51 ∧ 41 ≤ b ∧ b ≤ 43
theorem KX_MW {X : Nat → RuT} {N : Nat} {H : Nat → Nat → Prop} (hH : ∀ a b, H a b → ¬ (52 ≤ a ∧ a ≤ 63) ∧ ¬ (a = 51 ∧ b < 19)) {σ s1 : Sig} (h : KX H σ s1) (hV : KV X N s1) (hW : MW X N σ) : MW X N s1 ∧ cM s1 = cM σ := by
  have hr : ∀ a, 52 ≤ a → a ≤ 63 → s1 a = σ a := fun a h1 h2 => KX_row h (by omega) (by omega) (by omega) (by omega) (fun b hb => (hH a b hb).1 ⟨h1, h2⟩)
  have h51 : ∀ b, b < 19 → s1 51 b = σ 51 b := fun b hb => h.2 b (Or.inl hb) (fun hh => (hH 51 b hh).2 ⟨rfl, hb⟩)
  refine ⟨⟨MI_keep (fun a h1 h2 => hr a (by omega) h2) (fun b hb => h51 b (by omega)) hW.1, HM_keep hW.2.1 (hr 52 (by omega) (by omega)) (hr 53 (by omega) (by omega)), by rw [h51 4 (by omega)]; exact hW.2.2.1, hV⟩, ?_⟩
  unfold cM
  rw [mT_keep (fun a h1 h2 => hr a (by omega) h2) (fun b hb => h51 b (by omega))]
theorem HB_ok : ∀ a b, HB a b → ¬ (52 ≤ a ∧ a ≤ 63) ∧ ¬ (a = 51 ∧ b < 19) := fun a b h => by unfold HB at h; omega
theorem KX_trans {H : Nat → Nat → Prop} {σ s1 s2 : Sig} (h : KX H σ s1) (h2 : KX H s1 s2) : KX H σ s2 := ⟨fun a b c1 c2 c3 c4 c5 => (h2.1 a b c1 c2 c3 c4 c5).trans (h.1 a b c1 c2 c3 c4 c5), fun b c1 c2 => (h2.2 b c1 c2).trans (h.2 b c1 c2)⟩
theorem KX_MWS {X : Nat → RuT} {N : Nat} {σ u : Sig} {s : Nat} (h : KX (HS s) σ u) (hV : KV X N u) (hm : 0 ≤ u 62 s ∧ u 62 s ≤ 23) (hw : 0 ≤ u 61 s ∧ u 61 s ≤ 3) (hW : MW X N σ) : MW X N u := by
  have hr : ∀ a, 52 ≤ a → a ≤ 63 → a ≠ 61 → a ≠ 62 → u a = σ a := fun a h1 h2 h3 h4 => KX_row h (by omega) (by omega) (by omega) (by omega) (fun b hb => by unfold HS HT at hb; omega)
  have h51 : ∀ b, b < 19 → u 51 b = σ 51 b := fun b hb => h.2 b (by omega) (fun hh => by unfold HS HT at hh; omega)
  refine ⟨?_, HM_keep hW.2.1 (hr 52 (by omega) (by omega) (by omega) (by omega)) (hr 53 (by omega) (by omega) (by omega) (by omega)), by rw [h51 4 (by omega)]; exact hW.2.2.1, hV⟩
  refine MI_keep (fun a h1 h2 => ?_) (fun b hb => ?_) (MI_S hW.1 (s := s) hm hw)
  · funext b
    by_cases h61 : a = 61
    · subst h61
      by_cases hbs : b = s
      · subst hbs; rw [up_s]
      · rw [up_i hbs, up_r (by omega)]; exact h.1 61 b (by omega) (by omega) (by omega) (by omega) (fun hh => by unfold HS HT at hh; omega)
    · rw [up_r h61]
      by_cases h62 : a = 62
      · subst h62
        by_cases hbs : b = s
        · subst hbs; rw [up_s]
        · rw [up_i hbs]; exact h.1 62 b (by omega) (by omega) (by omega) (by omega) (fun hh => by unfold HS HT at hh; omega)
      · rw [up_r h62]; exact congrFun (hr a (by omega) h2 h61 h62) b
  · rw [up_r (by omega), up_r (by omega)]
    exact h51 b (by omega)
/-- what was best ahead of (m, w), if anything was -/
def SBk (X : Nat → RuT) (T : Sig) (s : Nat) (q : Int) (m w : Nat) (fl bm bw bl : Int) : Prop := (fl = 0 ∧ PBn T s q m w) ∨ (fl = 1 ∧ PBs X T s q m w bm bw bl)
section SB
variable {X : Nat → RuT} {T : Sig} {s : Nat} {q : Int} {m w : Nat} {fl bm bw bl : Int}
theorem SBk_in (h : SBk X T s q m w fl bm bw bl) : 0 ≤ fl ∧ fl ≤ 1 := by rcases h with ⟨h, _⟩ | ⟨h, _⟩ <;> omega
theorem SBk_0 : SBk X T s q 0 0 0 bm bw bl := Or.inl ⟨rfl, fun m' w' _ hl => by unfold lxl at hl; omega⟩
theorem SBk_skip (h : SBk X T s q m w fl bm bw bl) (hn : ¬ alw T s q m w) : SBk X T s q m (w + 1) fl bm bw bl := h.imp (fun h => ⟨h.1, PBn_skip h.2 hn⟩) (fun h => ⟨h.1, PBs_skip h.2 hn⟩)
theorem SBk_keep (h : SBk X T s q m w fl bm bw bl) (hf : fl ≠ 0) (hn : ¬ bl < lfT X T s m w) : SBk X T s q m (w + 1) fl bm bw bl := by
  rcases h with ⟨h, _⟩ | ⟨h, h2⟩
  · exact absurd h hf
  · exact Or.inr ⟨h, PBs_keep h2 hn⟩
theorem SBk_new0 (h : SBk X T s q m w 0 bm bw bl) (ha : alw T s q m w) : SBk X T s q m (w + 1) 1 m w (lfT X T s m w) := by
  rcases h with ⟨h, h2⟩ | ⟨h, h2⟩
  · exact Or.inr ⟨rfl, PBs_new ha (fun m' w' ha' hl => absurd hl (h2 m' w' ha'))⟩
  · omega
theorem SBk_new1 (h : SBk X T s q m w fl bm bw bl) (hf : fl ≠ 0) (hn : bl < lfT X T s m w) (ha : alw T s q m w) : SBk X T s q m (w + 1) 1 m w (lfT X T s m w) := by
  rcases h with ⟨h, h2⟩ | ⟨h, h2⟩
  · exact absurd h hf
  · exact Or.inr ⟨rfl, PBs_new ha (PBs_lt h2 hn)⟩
theorem SBk_move (h : SBk X T s q m 4 fl bm bw bl) : SBk X T s q (m + 1) 0 fl bm bw bl := by
  have hm : ∀ m' w', alw T s q m' w' → (lxl m' w' m 4 ↔ lxl m' w' (m + 1) 0) := fun m' w' ha => by
    have := ha.2.1
    unfold lxl
    omega
  exact h.imp (fun h => ⟨h.1, PBn_move hm h.2⟩) (fun h => ⟨h.1, PBs_move hm h.2⟩)
theorem SBk_end (hT : TI T) (h : SBk X T s q 24 0 fl bm bw bl) : Bst X T s q bm bw bl := by
  rcases h with ⟨_, h2⟩ | ⟨_, h2⟩
  · have ha := alw_some hT s q
    exact absurd (show lxl (T 9 s).toNat (T 8 s).toNat 24 0 by have := ha.1; unfold lxl; omega) (h2 _ _ ha)
  · exact PBs_end h2
end SB
set_option maxHeartbeats 4000000 in
set_option maxRecDepth 100000 in
theorem c_X12_seeks {l : Launch} {G : Gt} {ρ : Nat → Nat} {tc : Nat} {cl : Nat → Nat} {σ : Sig} {X : Nat → RuT} {N s : Nat} {q : Int} (hW : MW X N σ) (hs : (s : Int) < σ 51 18) (hq : 0 ≤ q ∧ q ≤ 2) : MX l yX12_seeks cX12_seeks 9 none 56 1353 G (NN tc) ρ (shp tc cl) [.ref (ρ 51), .int (iZ (s : Int)), .int (iZ q)] σ (PV (fun σ' => KX HB σ σ' ∧ KV X N σ' ∧ Bst X (cM σ) s q (σ' 51 41) (σ' 51 42) (σ' 51 43))) := by
  refine MX_of [some (.ref (ρ 51)), some (.int (iZ (s : Int))), some (.int (iZ q)), none, none, none, none, none, none] (by decide +kernel) rfl rfl (Nat.le_of_ble_eq_true rfl) ?_
  intro K hKl C T hRng
  subst hKl
  have hT := hW.1
  have hTc := TI_cM hT
  have h8 := hT.2.2.2.1
  have hqs := hT.2.2.2.2 s
  have hss : (s : Int).toNat = s := Int.toNat_natCast s
  have hal : ∀ m w : Nat, alw (cM σ) s q m w ↔ (m < 24 ∧ w < 4 ∧ (q = 1 → (m : Int) = σ 62 s) ∧ (q = 0 → (w : Int) = σ 61 s)) := fun m w => Iff.rfl
  refine x_aload_n 1 C dX12_seeks_0 rfl rfl rfl ?_
  refine x_getr (j := 16) 4 C rfl (lt79 (by decide)) rfl rfl (by decide) inT12 tb_4_150 rfl dX12_seeks_1 rfl ?_
  refine x_iload_n 5 C dX12_seeks_4 rfl rfl rfl ?_
  refine x_iald 6 C rfl (lt79 (by decide)) dX12_seeks_5 rfl (by omega) (by omega) (fun r5 => ?_)
  rw [hss] at r5 ⊢
  refine x_istore_n3 7 C dX12_seeks_6 rfl rfl ?_
  refine x_aload_n 8 C dX12_seeks_7 rfl rfl rfl ?_
  refine x_getr (j := 15) 11 C rfl (lt79 (by decide)) rfl rfl (by decide) inT12 tb_4_149 rfl dX12_seeks_8 rfl ?_
  refine x_iload_n 12 C dX12_seeks_11 rfl rfl rfl ?_
  refine x_iald 13 C rfl (lt79 (by decide)) dX12_seeks_12 rfl (by omega) (by omega) (fun r12 => ?_)
  rw [hss] at r12 ⊢
  refine x_istore_4 15 C dX12_seeks_13 rfl rfl ?_
  refine x_iconst 16 C dX12_seeks_15 rfl ?_
  refine x_istore_5 18 C dX12_seeks_16 rfl rfl ?_
  refine x_iconst 19 C dX12_seeks_18 rfl ?_
  refine x_istore_6 21 C dX12_seeks_19 rfl rfl ?_
  have L21 : ∀ (mz : Nat) (m : Nat) (y fl : Int) (s1 : Sig) (x7 x8 : Option Value), mz = 24 - m → (m ≤ 24 ∧ y = m ∧ KX (HS s) σ s1 ∧ KV X N s1 ∧ SBk X (cM σ) s q m 0 fl (s1 51 41) (s1 51 42) (s1 51 43)) → Ex K G (NN tc) ρ (shp tc cl) 21 [some (.ref (ρ 51)), some (.int (iZ (s : Int))), some (.int (iZ q)), some (.int (iZ (σ 62 s))), some (.int (iZ (σ 61 s))), some (.int (iZ fl)), some (.int (iZ y)), x7, x8] [] s1 := by
    intro mz
    induction mz using Nat.strongRecOn with
    | ind mz ih =>
      intro m y fl s1 x7 x8 hmz hinv
      have ihF := ih
      obtain ⟨hm, rfl, hX1, hV1, hS1⟩ := hinv
      have hfl1 := SBk_in hS1
      refine x_iload 23 C dX12_seeks_21 rfl rfl ?_
      refine x_bipush 25 C dX12_seeks_23 rfl rfl ?_
      refine x_icmp_ge 133 28 C dX12_seeks_25 rfl rfl (by omega) (by omega) (fun h25 => ?_) (fun h25 => ?_)
      · refine x_aload_n 134 C dX12_seeks_133 rfl rfl rfl ?_
        refine x_getr (j := 16) 137 C rfl (lt79 (by decide)) rfl rfl (by decide) inT12 tb_4_150 rfl dX12_seeks_134 rfl ?_
        refine x_iload_n 138 C dX12_seeks_137 rfl rfl rfl ?_
        refine x_iload_n 139 C dX12_seeks_138 rfl rfl rfl ?_
        refine x_iast 140 C rfl (lt79 (by decide)) dX12_seeks_139 rfl (by omega) (by omega) (by omega) ?_
        refine x_aload_n 141 C dX12_seeks_140 rfl rfl rfl ?_
        refine x_getr (j := 15) 144 C rfl (lt79 (by decide)) rfl rfl (by decide) inT12 tb_4_149 rfl dX12_seeks_141 rfl ?_
        refine x_iload_n 145 C dX12_seeks_144 rfl rfl rfl ?_
        refine x_iload 147 C dX12_seeks_145 rfl rfl ?_
        refine x_iast 148 C rfl (lt79 (by decide)) dX12_seeks_147 rfl (by omega) (by omega) (by omega) ?_
        refine x_vret C T dX12_seeks_148 ?_
        refine PV_i ⟨?_, ?_, ?_⟩
        · rw [hss]
          refine KX_mono (KX_up (KX_up hX1 (Or.inl ⟨Or.inr rfl, rfl⟩)) (Or.inl ⟨Or.inl rfl, rfl⟩)) (fun a b h1 h2 => ?_)
          rcases h1 with ⟨rfl | rfl, rfl⟩ | h1
          · rw [up_s]
          · rw [up_r (by omega), up_s]
          · exact absurd h1 h2
        · exact KV_keep hV1 (by rw [up_row (by omega), up_row (by omega)]) (by rw [up_row (by omega), up_row (by omega)])
        · rw [up_r (by omega), up_r (by omega), up_r (by omega), up_r (by omega), up_r (by omega), up_r (by omega)]
          exact SBk_end hTc (by rw [show m = 24 by omega] at hS1; exact hS1)
      refine x_iconst 29 C dX12_seeks_28 rfl ?_
      refine x_istore_7 31 C dX12_seeks_29 rfl rfl ?_
      have L31 : ∀ (mz : Nat) (w : Nat) (y7 fl2 : Int) (s2 : Sig) (x8b : Option Value), mz = 4 - w → (w ≤ 4 ∧ y7 = w ∧ KX (HS s) σ s2 ∧ KV X N s2 ∧ SBk X (cM σ) s q m w fl2 (s2 51 41) (s2 51 42) (s2 51 43)) → Ex K G (NN tc) ρ (shp tc cl) 31 [some (.ref (ρ 51)), some (.int (iZ (s : Int))), some (.int (iZ q)), some (.int (iZ (σ 62 s))), some (.int (iZ (σ 61 s))), some (.int (iZ fl2)), some (.int (iZ (m : Int))), some (.int (iZ y7)), x8b] [] s2 := by
        intro mz
        induction mz using Nat.strongRecOn with
        | ind mz ih =>
          intro w y7 fl2 s2 x8b hmz hinv
          obtain ⟨hw, rfl, hX2, hV2, hS2⟩ := hinv
          have hfl2 := SBk_in hS2
          refine x_iload 33 C dX12_seeks_31 rfl rfl ?_
          refine x_iconst 34 C dX12_seeks_33 rfl ?_
          refine x_icmp_ge 127 37 C dX12_seeks_34 rfl rfl (by omega) (by omega) (fun h34 => ?_) (fun h34 => ?_)
          · refine x_iinc_6 130 C dX12_seeks_127 rfl rfl ?_
            refine x_goto 21 C dX12_seeks_130 rfl ?_
            exact ihF _ (by omega) (m + 1) _ _ _ _ _ rfl ⟨by omega, by omega, hX2, hV2, SBk_move (by rw [show (4 : Nat) = w by omega]; exact hS2)⟩
          have J121 : ∀ (fl4 : Int) (s4 : Sig) (x8c : Option Value), (KX (HS s) σ s4 ∧ KV X N s4 ∧ SBk X (cM σ) s q m (w + 1) fl4 (s4 51 41) (s4 51 42) (s4 51 43)) → Ex K G (NN tc) ρ (shp tc cl) 121 [some (.ref (ρ 51)), some (.int (iZ (s : Int))), some (.int (iZ q)), some (.int (iZ (σ 62 s))), some (.int (iZ (σ 61 s))), some (.int (iZ fl4)), some (.int (iZ (m : Int))), some (.int (iZ (w : Int))), x8c] [] s4 := by
            intro fl4 s4 x8c hinv
            obtain ⟨hX4, hV4, hS4⟩ := hinv
            have hfl4 := SBk_in hS4
            refine x_iinc_7 124 C dX12_seeks_121 rfl rfl ?_
            refine x_goto 31 C dX12_seeks_124 rfl ?_
            exact ih _ (by omega) (w + 1) _ _ _ _ rfl ⟨by omega, by omega, hX4, hV4, hS4⟩
          have J59 : ∀ (u0 : Unit), alw (cM σ) s q m w → Ex K G (NN tc) ρ (shp tc cl) 59 [some (.ref (ρ 51)), some (.int (iZ (s : Int))), some (.int (iZ q)), some (.int (iZ (σ 62 s))), some (.int (iZ (σ 61 s))), some (.int (iZ fl2)), some (.int (iZ (m : Int))), some (.int (iZ (w : Int))), x8b] [] s2 := by
            intro u0 hinv
            have hav := hinv
            refine x_aload_n 60 C dX12_seeks_59 rfl rfl rfl ?_
            refine x_getr (j := 16) 63 C rfl (lt79 (by decide)) rfl rfl (by decide) inT12 tb_4_150 rfl dX12_seeks_60 rfl ?_
            refine x_iload_n 64 C dX12_seeks_63 rfl rfl rfl ?_
            refine x_iload 66 C dX12_seeks_64 rfl rfl ?_
            refine x_iast 67 C rfl (lt79 (by decide)) dX12_seeks_66 rfl (by omega) (by omega) (by omega) ?_
            refine x_aload_n 68 C dX12_seeks_67 rfl rfl rfl ?_
            refine x_getr (j := 15) 71 C rfl (lt79 (by decide)) rfl rfl (by decide) inT12 tb_4_149 rfl dX12_seeks_68 rfl ?_
            refine x_iload_n 72 C dX12_seeks_71 rfl rfl rfl ?_
            refine x_iload 74 C dX12_seeks_72 rfl rfl ?_
            refine x_iast 75 C rfl (lt79 (by decide)) dX12_seeks_74 rfl (by omega) (by omega) (by omega) ?_
            rw [hss]
            obtain ⟨u, hue⟩ : ∃ u, up (up s2 62 s (m : Int)) 61 s (w : Int) = u := ⟨_, rfl⟩
            rw [hue]
            have hXu : KX (HS s) σ u := by rw [← hue]; exact KX_up (KX_up hX2 (Or.inl ⟨Or.inr rfl, rfl⟩)) (Or.inl ⟨Or.inl rfl, rfl⟩)
            have hVu : KV X N u := by rw [← hue]; exact KV_keep hV2 (by rw [up_row (by omega), up_row (by omega)]) (by rw [up_row (by omega), up_row (by omega)])
            have um : u 62 s = (m : Int) := by rw [← hue, up_r (by omega), up_s]
            have uw : u 61 s = (w : Int) := by rw [← hue, up_s]
            have hW_u : MW X N u := KX_MWS hXu hVu (by omega) (by omega) hW
            have f18_u : u 51 18 = σ 51 18 := hXu.2 18 (by omega) (fun hh => by unfold HS HT at hh; omega)
            have hu_u : cM u = tS (cM σ) s (m : Int) (w : Int) := KX_cS hXu um uw
            have u51 : ∀ b, u 51 b = s2 51 b := fun b => by rw [← hue, up_r (by omega), up_r (by omega)]
            refine x_aload_n 76 C dX12_seeks_75 rfl rfl rfl ?_
            refine x_callVv 79 C dX12_seeks_76 rfl (c_X12_morning (X := X) (N := N) hW_u) rfl (lt79 (by decide)) rfl tb_5_234 tb_5_236 tb_0_60 tb_1_20 tb_5_237 (na := 0) (by decide +kernel) rfl ⟨by decide, by decide⟩ rfl (Nat.le_of_ble_eq_true rfl) rfl (fun s76 hq76 hR76 => ?_)
            obtain ⟨hM_76, hV_76, hL_76, hD_76⟩ := hq76
            have hW_76 := KM_MW hM_76 hV_76 hW_u
            have e18_76 : s76 51 18 = σ 51 18 := (hM_76.2 18 (by omega)).trans f18_u
            have e13_76 : s76 51 13 = u 51 13 := hM_76.2 13 (by omega)
            have e62_76 : s76 62 = u 62 := KM_row hM_76 (by omega) (by omega) (by omega) (by omega)
            refine x_aload_n 80 C dX12_seeks_79 rfl rfl rfl ?_
            refine x_iload_n 81 C dX12_seeks_80 rfl rfl rfl ?_
            refine x_callVi 84 C dX12_seeks_81 rfl (c_X12_leftOf (X := X) (N := N) (s := s) (d := hadT X (cM u) s) hW_76 (by omega) (hD_76 s (by omega)).1 (by rw [e13_76]; exact HDm_q hW_u.1 hD_76 (by omega))) rfl (lt79 (by decide)) rfl tb_6_15 tb_6_17 tb_0_63 tb_1_20 tb_6_18 (na := 1) (by decide +kernel) rfl ⟨by decide, by decide⟩ rfl (Nat.le_of_ble_eq_true rfl) rfl (fun z81 s81 hz81 hq81 hR81 => ?_)
            obtain ⟨hf_81, hV_81, jj_81⟩ := hq81
            rw [KM_cM hM_76, e62_76] at jj_81
            have j_81 : z81 = leftT X (cM u) s := jj_81
            rw [hu_u] at j_81
            have hM_81 := KM_trans hM_76 (FRk_KM hf_81)
            have hW_81 := KM_MW hM_81 hV_81 hW_u
            have hD_81 := HDm_row hD_76 (FRk_row hf_81 (a := 69) (by omega) (by omega) (by omega) (by omega)) (FRk_row hf_81 (a := 70) (by omega) (by omega) (by omega) (by omega))
            have e18_81 : s81 51 18 = σ 51 18 := (hM_81.2 18 (by omega)).trans f18_u
            have e13_81 : s81 51 13 = u 51 13 := hM_81.2 13 (by omega)
            have e62_81 : s81 62 = u 62 := KM_row hM_81 (by omega) (by omega) (by omega) (by omega)
            refine x_istore_8 86 C dX12_seeks_84 rfl rfl ?_
            have hX3 := KX_KM hXu hM_81
            have e43 : s81 51 43 = s2 51 43 := (hM_81.2 43 (by omega)).trans (u51 43)
            have e42 : s81 51 42 = s2 51 42 := (hM_81.2 42 (by omega)).trans (u51 42)
            have e41 : s81 51 41 = s2 51 41 := (hM_81.2 41 (by omega)).trans (u51 41)
            have g62 : s81 62 s = (m : Int) := by rw [e62_81]; exact um
            have g61 : s81 61 s = (w : Int) := by rw [show s81 61 = u 61 from KM_row hM_81 (by omega) (by omega) (by omega) (by omega)]; exact uw
            have hlf : z81 = lfT X (cM σ) s m w := j_81
            refine x_iload 88 C dX12_seeks_86 rfl rfl ?_
            refine x_if_eq 100 91 C dX12_seeks_88 rfl rfl (by omega) (fun h88 => ?_) (fun h88 => ?_)
            · subst h88
              have hnw := SBk_new0 hS2 hav
              refine x_iconst 101 C dX12_seeks_100 rfl ?_
              refine x_istore_5 103 C dX12_seeks_101 rfl rfl ?_
              refine x_aload_n 104 C dX12_seeks_103 rfl rfl rfl ?_
              refine x_iload 106 C dX12_seeks_104 rfl rfl ?_
              refine x_puti (j := 41) tyX12 109 C rfl (lt79 (by decide)) rfl rfl (by decide) inT12 tyX12_ok nmX12 tb_4_175 rfl rfl rfl dX12_seeks_106 rfl (by omega) ?_
              refine x_aload_n 110 C dX12_seeks_109 rfl rfl rfl ?_
              refine x_iload 112 C dX12_seeks_110 rfl rfl ?_
              refine x_puti (j := 42) tyX12 115 C rfl (lt79 (by decide)) rfl rfl (by decide) inT12 tyX12_ok nmX12 tb_4_176 rfl rfl rfl dX12_seeks_112 rfl (by omega) ?_
              refine x_aload_n 116 C dX12_seeks_115 rfl rfl rfl ?_
              refine x_iload 118 C dX12_seeks_116 rfl rfl ?_
              refine x_puti (j := 43) tyX12 121 C rfl (lt79 (by decide)) rfl rfl (by decide) inT12 tyX12_ok nmX12 tb_4_177 rfl rfl rfl dX12_seeks_118 rfl (by omega) ?_
              first
                | exact J121 _ _ _ ⟨hX2, hV2, hsk⟩
                | exact J121 _ _ _ ⟨hX3, hV_81, by rw [e41, e42, e43]; exact hkp⟩
                | exact J121 _ _ _ ⟨KX_up (KX_up (KX_up hX3 (Or.inr ⟨rfl, by omega, by omega⟩)) (Or.inr ⟨rfl, by omega, by omega⟩)) (Or.inr ⟨rfl, by omega, by omega⟩), KV_keep hV_81 (by rw [up_row (by omega), up_row (by omega), up_row (by omega)]) (by rw [up_row (by omega), up_row (by omega), up_row (by omega)]), by rw [up_s, up_i (show (41 : Nat) ≠ 43 by omega), up_i (show (41 : Nat) ≠ 42 by omega), up_s, up_i (show (42 : Nat) ≠ 43 by omega), up_s, hlf]; exact hnw⟩
            refine x_iload 93 C dX12_seeks_91 rfl rfl ?_
            refine x_aload_n 94 C dX12_seeks_93 rfl rfl rfl ?_
            refine x_geti (j := 43) 97 C rfl (lt79 (by decide)) rfl rfl (by decide) inT12 tb_4_177 rfl dX12_seeks_94 rfl (fun r94 => ?_)
            rw [e43] at r94 ⊢
            refine x_icmp_le 121 100 C dX12_seeks_97 rfl rfl (by omega) (by omega) (fun h97 => ?_) (fun h97 => ?_)
            · have hkp := SBk_keep hS2 h88 (by omega)
              first
                | exact J121 _ _ _ ⟨hX2, hV2, hsk⟩
                | exact J121 _ _ _ ⟨hX3, hV_81, by rw [e41, e42, e43]; exact hkp⟩
                | exact J121 _ _ _ ⟨KX_up (KX_up (KX_up hX3 (Or.inr ⟨rfl, by omega, by omega⟩)) (Or.inr ⟨rfl, by omega, by omega⟩)) (Or.inr ⟨rfl, by omega, by omega⟩), KV_keep hV_81 (by rw [up_row (by omega), up_row (by omega), up_row (by omega)]) (by rw [up_row (by omega), up_row (by omega), up_row (by omega)]), by rw [up_s, up_i (show (41 : Nat) ≠ 43 by omega), up_i (show (41 : Nat) ≠ 42 by omega), up_s, up_i (show (42 : Nat) ≠ 43 by omega), up_s, hlf]; exact hnw⟩
            have hnw := SBk_new1 hS2 h88 (by omega) hav
            refine x_iconst 101 C dX12_seeks_100 rfl ?_
            refine x_istore_5 103 C dX12_seeks_101 rfl rfl ?_
            refine x_aload_n 104 C dX12_seeks_103 rfl rfl rfl ?_
            refine x_iload 106 C dX12_seeks_104 rfl rfl ?_
            refine x_puti (j := 41) tyX12 109 C rfl (lt79 (by decide)) rfl rfl (by decide) inT12 tyX12_ok nmX12 tb_4_175 rfl rfl rfl dX12_seeks_106 rfl (by omega) ?_
            refine x_aload_n 110 C dX12_seeks_109 rfl rfl rfl ?_
            refine x_iload 112 C dX12_seeks_110 rfl rfl ?_
            refine x_puti (j := 42) tyX12 115 C rfl (lt79 (by decide)) rfl rfl (by decide) inT12 tyX12_ok nmX12 tb_4_176 rfl rfl rfl dX12_seeks_112 rfl (by omega) ?_
            refine x_aload_n 116 C dX12_seeks_115 rfl rfl rfl ?_
            refine x_iload 118 C dX12_seeks_116 rfl rfl ?_
            refine x_puti (j := 43) tyX12 121 C rfl (lt79 (by decide)) rfl rfl (by decide) inT12 tyX12_ok nmX12 tb_4_177 rfl rfl rfl dX12_seeks_118 rfl (by omega) ?_
            first
              | exact J121 _ _ _ ⟨hX2, hV2, hsk⟩
              | exact J121 _ _ _ ⟨hX3, hV_81, by rw [e41, e42, e43]; exact hkp⟩
              | exact J121 _ _ _ ⟨KX_up (KX_up (KX_up hX3 (Or.inr ⟨rfl, by omega, by omega⟩)) (Or.inr ⟨rfl, by omega, by omega⟩)) (Or.inr ⟨rfl, by omega, by omega⟩), KV_keep hV_81 (by rw [up_row (by omega), up_row (by omega), up_row (by omega)]) (by rw [up_row (by omega), up_row (by omega), up_row (by omega)]), by rw [up_s, up_i (show (41 : Nat) ≠ 43 by omega), up_i (show (41 : Nat) ≠ 42 by omega), up_s, up_i (show (42 : Nat) ≠ 43 by omega), up_s, hlf]; exact hnw⟩
          have J48 : ∀ (u0 : Unit), (q = 1 → (m : Int) = σ 62 s) → Ex K G (NN tc) ρ (shp tc cl) 48 [some (.ref (ρ 51)), some (.int (iZ (s : Int))), some (.int (iZ q)), some (.int (iZ (σ 62 s))), some (.int (iZ (σ 61 s))), some (.int (iZ fl2)), some (.int (iZ (m : Int))), some (.int (iZ (w : Int))), x8b] [] s2 := by
            intro u0 hinv
            have hq1 := hinv
            refine x_iload_n 49 C dX12_seeks_48 rfl rfl rfl ?_
            refine x_if_ne 59 52 C dX12_seeks_49 rfl rfl (by omega) (fun h49 => ?_) (fun h49 => ?_)
            · exact J59 () ((hal m w).mpr ⟨by omega, by omega, by omega, by omega⟩)
            refine x_iload 54 C dX12_seeks_52 rfl rfl ?_
            refine x_iload 56 C dX12_seeks_54 rfl rfl ?_
            refine x_icmp_ne 121 59 C dX12_seeks_56 rfl rfl (by omega) (by omega) (fun h56 => ?_) (fun h56 => ?_)
            · have hsk := SBk_skip hS2 (fun h => by have := (hal m w).mp h; omega)
              first
                | exact J121 _ _ _ ⟨hX2, hV2, hsk⟩
                | exact J121 _ _ _ ⟨hX3, hV_81, by rw [e41, e42, e43]; exact hkp⟩
                | exact J121 _ _ _ ⟨KX_up (KX_up (KX_up hX3 (Or.inr ⟨rfl, by omega, by omega⟩)) (Or.inr ⟨rfl, by omega, by omega⟩)) (Or.inr ⟨rfl, by omega, by omega⟩), KV_keep hV_81 (by rw [up_row (by omega), up_row (by omega), up_row (by omega)]) (by rw [up_row (by omega), up_row (by omega), up_row (by omega)]), by rw [up_s, up_i (show (41 : Nat) ≠ 43 by omega), up_i (show (41 : Nat) ≠ 42 by omega), up_s, up_i (show (42 : Nat) ≠ 43 by omega), up_s, hlf]; exact hnw⟩
            exact J59 () ((hal m w).mpr ⟨by omega, by omega, by omega, by omega⟩)
          refine x_iload_n 38 C dX12_seeks_37 rfl rfl rfl ?_
          refine x_iconst 39 C dX12_seeks_38 rfl ?_
          refine x_icmp_ne 48 42 C dX12_seeks_39 rfl rfl (by omega) (by omega) (fun h39 => ?_) (fun h39 => ?_)
          · exact J48 () (by omega)
          refine x_iload 44 C dX12_seeks_42 rfl rfl ?_
          refine x_iload_n 45 C dX12_seeks_44 rfl rfl rfl ?_
          refine x_icmp_ne 121 48 C dX12_seeks_45 rfl rfl (by omega) (by omega) (fun h45 => ?_) (fun h45 => ?_)
          · have hsk := SBk_skip hS2 (fun h => by have := (hal m w).mp h; omega)
            first
              | exact J121 _ _ _ ⟨hX2, hV2, hsk⟩
              | exact J121 _ _ _ ⟨hX3, hV_81, by rw [e41, e42, e43]; exact hkp⟩
              | exact J121 _ _ _ ⟨KX_up (KX_up (KX_up hX3 (Or.inr ⟨rfl, by omega, by omega⟩)) (Or.inr ⟨rfl, by omega, by omega⟩)) (Or.inr ⟨rfl, by omega, by omega⟩), KV_keep hV_81 (by rw [up_row (by omega), up_row (by omega), up_row (by omega)]) (by rw [up_row (by omega), up_row (by omega), up_row (by omega)]), by rw [up_s, up_i (show (41 : Nat) ≠ 43 by omega), up_i (show (41 : Nat) ≠ 42 by omega), up_s, up_i (show (42 : Nat) ≠ 43 by omega), up_s, hlf]; exact hnw⟩
          exact J48 () (by omega)
      exact L31 _ 0 _ _ _ _ rfl ⟨by omega, rfl, hX1, hV1, hS1⟩
  exact L21 _ 0 _ _ _ _ _ rfl ⟨by omega, rfl, KX_refl σ, hW.2.2.2, SBk_0⟩
