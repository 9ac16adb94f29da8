section ROWS
variable {K : Mk} {G : Gt} {N : Nat} {ρ : Nat → Nat} {sh : Nat → Shc} {own : String} {cc : ByteArray} {nL fr lo : Nat} {pc n : Nat} {lv : List (Option Value)} {st : List Value} {σ : Sig}
theorem x_dup2 {va vb : Value} (n : Nat) (C : Cx K G N ρ own cc nL fr lo) (d : decode cc pc = .ok (.dup2, 1)) (hn : pc + 1 = n) (h1 : va.category = 1) (h2 : vb.category = 1) (k : Ex K G N ρ sh n lv (va :: vb :: va :: vb :: st) (σ)) : Ex K G N ρ sh pc lv (va :: vb :: st) (σ) := by
  obtain ⟨p, l, e, R, s, m, args, below, meth, c, cells, slots, Q⟩ := K
  obtain ⟨hx, hb, hml, hown, hts, hlk, hK, hI, hO, hfr, hlo, hce, hsl, hN2⟩ := C
  subst hn; intro hR H locs ls hP hS hl
  exact lv_dup2_11 hx hb d h1 h2 (k hR H locs ls hP hS hl)
end ROWS
/-! the model's mornings -/
def cM (σ : Sig) : Sig := cT (mT σ)
/-- the model's world of a morning -/
def MW (X : Nat → RuT) (N : Nat) (σ : Sig) : Prop := MI σ ∧ HM σ X N ∧ σ 51 4 < N ∧ KV X N σ
/-- what a morning of the model leaves as it is -/
def KM (σ σ' : Sig) : Prop := (∀ a b, a ≠ 51 → a ≠ 1051 → a ≠ 1064 → ¬ (65 ≤ a ∧ a ≤ 70) → σ' a b = σ a b) ∧ (∀ b, b < 19 ∨ 33 < b → σ' 51 b = σ 51 b)
theorem KM_refl (σ : Sig) : KM σ σ := ⟨fun _ _ _ _ _ _ => rfl, fun _ _ => rfl⟩
theorem KM_trans {σ s1 s2 : Sig} (h : KM σ s1) (h2 : KM s1 s2) : KM σ s2 := ⟨fun a b h3 h4 h5 h6 => (h2.1 a b h3 h4 h5 h6).trans (h.1 a b h3 h4 h5 h6), fun b h3 => (h2.2 b h3).trans (h.2 b h3)⟩
theorem FRk_KM {σ s1 : Sig} (h : FRk σ s1) : KM σ s1 := ⟨fun a b h1 h2 h3 h4 => h.1 a b h1 h2 h3 (by omega), h.2⟩
theorem KM_up {σ s : Sig} {a i : Nat} {v : Int} (h : KM σ s) (ha : 66 ≤ a ∧ a ≤ 70) : KM σ (up s a i v) := ⟨fun b c h1 h2 h3 h4 => by rw [up_r (by omega)]; exact h.1 b c h1 h2 h3 h4, fun b hb => by rw [up_r (by omega)]; exact h.2 b hb⟩
theorem KM_row {σ s : Sig} {a : Nat} (h : KM σ s) (h1 : a ≠ 51) (h2 : a ≠ 1051) (h3 : a ≠ 1064) (h4 : ¬ (65 ≤ a ∧ a ≤ 70)) : s a = σ a := funext fun b => h.1 a b h1 h2 h3 h4
theorem mT_keep {σ s : Sig} (h : ∀ a, 55 ≤ a → a ≤ 63 → s a = σ a) (h2 : ∀ b, b = 4 ∨ b = 8 ∨ b = 13 ∨ b = 18 → s 51 b = σ 51 b) : mT s = mT σ := by
  funext a b
  unfold mT
  rw [h 55 (by omega) (by omega), h 56 (by omega) (by omega), h 57 (by omega) (by omega), h 58 (by omega) (by omega), h 59 (by omega) (by omega), h 60 (by omega) (by omega), h 61 (by omega) (by omega), h 62 (by omega) (by omega), h 63 (by omega) (by omega), h2 4 (by omega), h2 8 (by omega), h2 13 (by omega), h2 18 (by omega)]
theorem MI_keep {σ s : Sig} (h : ∀ a, 55 ≤ a → a ≤ 63 → s a = σ a) (h2 : ∀ b, b = 4 ∨ b = 8 ∨ b = 13 ∨ b = 18 → s 51 b = σ 51 b) (hM : MI σ) : MI s := by
  unfold MI at hM ⊢
  rw [h 55 (by omega) (by omega), h 56 (by omega) (by omega), h 57 (by omega) (by omega), h 58 (by omega) (by omega), h 59 (by omega) (by omega), h 60 (by omega) (by omega), h 61 (by omega) (by omega), h 62 (by omega) (by omega), h 63 (by omega) (by omega), h2 4 (by omega), h2 8 (by omega), h2 13 (by omega), h2 18 (by omega)]
  exact hM
theorem KM_mT {σ s : Sig} (h : KM σ s) : mT s = mT σ := mT_keep (fun a h1 h2 => KM_row h (by omega) (by omega) (by omega) (by omega)) (fun b hb => h.2 b (by omega))
theorem KM_cM {σ s : Sig} (h : KM σ s) : cM s = cM σ := by unfold cM; rw [KM_mT h]
theorem KM_MI {σ s : Sig} (h : KM σ s) (hM : MI σ) : MI s := MI_keep (fun a h1 h2 => KM_row h (by omega) (by omega) (by omega) (by omega)) (fun b hb => h.2 b (by omega)) hM
theorem KM_MW {X : Nat → RuT} {N : Nat} {σ s : Sig} (h : KM σ s) (hV : KV X N s) (hM : MW X N σ) : MW X N s := ⟨KM_MI h hM.1, HM_keep hM.2.1 (KM_row h (by omega) (by omega) (by omega) (by omega)) (KM_row h (by omega) (by omega) (by omega) (by omega)), by rw [h.2 4 (by omega)]; exact hM.2.2.1, hV⟩
theorem TI_cM {σ : Sig} (h : MI σ) : TI (cM σ) := TI_cT (MI_T h)
theorem cM_13 {σ : Sig} : cM σ 1 3 = σ 51 13 := rfl
theorem cM_18 {σ : Sig} : cM σ 1 8 = σ 51 18 := rfl
theorem cM_6 {σ : Sig} {b : Nat} (h : (b : Int) < σ 51 13) : cM σ 6 b = σ 56 b := if_pos h
theorem cM_10 {σ : Sig} {b : Nat} (h : (b : Int) < σ 51 18) : cM σ 10 b = σ 63 b := if_pos h
/-- the cell beside -/
def besF (c w : Int) : Int := if (0 ≤ c / 6 + (if w = 2 then 1 else if w = 0 then -1 else 0) ∧ c / 6 + (if w = 2 then 1 else if w = 0 then -1 else 0) ≤ 5) ∧ (0 ≤ c % 6 + (if w = 1 then 1 else if w = 3 then -1 else 0) ∧ c % 6 + (if w = 1 then 1 else if w = 3 then -1 else 0) ≤ 5) then 6 * (c / 6 + (if w = 2 then 1 else if w = 0 then -1 else 0)) + (c % 6 + (if w = 1 then 1 else if w = 3 then -1 else 0)) else -1
theorem besF_in {c w : Int} : besF c w = -1 ∨ (0 ≤ besF c w ∧ besF c w ≤ 35) := by unfold besF; split <;> omega
theorem w4 {w : Int} (hw : 0 ≤ w ∧ w ≤ 3) : w = 0 ∨ w = 1 ∨ w = 2 ∨ w = 3 := by omega
theorem besF_1 {c w : Int} (hw : 0 ≤ w ∧ w ≤ 3) : besF c w = cellF c w 1 := by
  unfold besF cellF yF xF
  rcases w4 hw with rfl | rfl | rfl | rfl <;> simp <;> split <;> split <;> omega
theorem besF_s {c w : Int} {f : Nat} (hc : 0 ≤ c ∧ c ≤ 35) (hw : 0 ≤ w ∧ w ≤ 3) (h : cellF c w f ≠ -1) : besF (cellF c w f) w = cellF c w (f + 1) := by
  obtain ⟨a1, a2, a3, a4, a5⟩ := cellF_ne h
  have e1 : cellF c w f / 6 = yF c w f := by omega
  have e2 : cellF c w f % 6 = xF c w f := by omega
  unfold besF
  rw [e1, e2]
  unfold cellF
  have hy : yF c w f + (if w = 2 then 1 else if w = 0 then -1 else 0) = yF c w (f + 1) := by
    unfold yF
    rcases w4 hw with rfl | rfl | rfl | rfl <;> simp <;> omega
  have hx : xF c w f + (if w = 1 then 1 else if w = 3 then -1 else 0) = xF c w (f + 1) := by
    unfold xF
    rcases w4 hw with rfl | rfl | rfl | rfl <;> simp <;> omega
  rw [hy, hx]
  by_cases hh : 0 ≤ yF c w (f + 1) ∧ yF c w (f + 1) < 6 ∧ 0 ≤ xF c w (f + 1) ∧ xF c w (f + 1) < 6
  · rw [if_pos (by omega), if_pos hh]
  · rw [if_neg (by omega), if_neg hh]
theorem cell_gone {c w : Int} {f : Nat} (hc : 0 ≤ c ∧ c ≤ 35) (hw : 0 ≤ w ∧ w ≤ 3) (h : cellF c w f = -1) : cellF c w (f + 1) = -1 := by
  have hn : ¬ (0 ≤ yF c w f ∧ yF c w f < 6 ∧ 0 ≤ xF c w f ∧ xF c w f < 6) := by
    intro h2
    have : cellF c w f = 6 * yF c w f + xF c w f := if_pos h2
    omega
  unfold cellF
  rw [if_neg]
  unfold yF xF at *
  rcases w4 hw with rfl | rfl | rfl | rfl <;> simp at * <;> omega
theorem cell_gone2 {c w : Int} {f : Nat} (hc : 0 ≤ c ∧ c ≤ 35) (hw : 0 ≤ w ∧ w ≤ 3) (h : cellF c w f = -1) : ∀ j, cellF c w (f + j) = -1
  | 0 => h
  | j + 1 => cell_gone hc hw (cell_gone2 hc hw h j)
theorem cell_6 {c w : Int} (hc : 0 ≤ c ∧ c ≤ 35) (hw : 0 ≤ w ∧ w ≤ 3) : cellF c w 6 = -1 := by
  unfold cellF
  rw [if_neg]
  unfold yF xF
  rcases w4 hw with rfl | rfl | rfl | rfl <;> simp <;> omega
theorem row_nil {X : Nat → RuT} {T : Sig} {c w m s : Int} (hT : TI T) (hm : 0 ≤ m ∧ m ≤ 23) {f : Nat} (h : viewF (T 2) c w f = -1) (k : Nat) : rowS1 X T c w m s f k = [] := by
  unfold rowS1
  rw [List.filter_eq_nil_iff.mpr]
  · rfl
  · intro t _
    unfold isSn
    have := plc_in (t := t) hT hm
    rw [show decide (plc T t m = viewF (T 2) c w f) = false by rw [decide_eq_false_iff_not, h]; omega]
    simp
theorem view_gone {H : Nat → Int} {c w : Int} {f : Nat} (h : cellF c w f = -1) : viewF H c w f = -1 := by unfold viewF; rw [if_neg (fun h2 => h2.1 h)]
theorem seenP_gone {X : Nat → RuT} {T : Sig} {c w m s : Int} (hT : TI T) (hc : 0 ≤ c ∧ c ≤ 35) (hw : 0 ≤ w ∧ w ≤ 3) (hm : 0 ≤ m ∧ m ≤ 23) {F : Nat} (h : cellF c w (F + 1) = -1) (k : Nat) : ∀ j, seenP X T c w m s k (F + j) = seenP X T c w m s k F
  | 0 => rfl
  | j + 1 => by
    rw [← Nat.add_assoc, seenP_s, seenP_gone hT hc hw hm h k j, row_nil hT hm (view_gone (by have := cell_gone2 hc hw h j; rwa [show F + 1 + j = F + j + 1 by omega] at this))]
    simp
set_option maxHeartbeats 4000000 in
set_option maxRecDepth 100000 in
theorem c_X12_beside {l : Launch} {G : Gt} {ρ : Nat → Nat} {tc : Nat} {cl : Nat → Nat} {σ : Sig} {c w : Int} (hc : 0 ≤ c ∧ c ≤ 35) (hw : 0 ≤ w ∧ w ≤ 3) : MX l yX12_beside cX12_beside 4 (some .int) 1 25 G (NN tc) ρ (shp tc cl) [.int (iZ c), .int (iZ w)] σ (PE σ (besF c w)) := by
  refine MX_of [some (.int (iZ c)), some (.int (iZ w)), none, none] (by decide +kernel) rfl rfl (Nat.le_of_ble_eq_true rfl) ?_
  intro K hKl C T hRng
  subst hKl
  refine x_iload_n 1 C dX12_beside_0 rfl rfl rfl ?_
  refine x_bipush 3 C dX12_beside_1 rfl rfl ?_
  refine x_idiv 4 C dX12_beside_3 rfl (by omega) (by omega) ?_
  have J22 : ∀ (v : Int), (v = (if w = 2 then 1 else if w = 0 then -1 else 0)) → Ex K G (NN tc) ρ (shp tc cl) 22 [some (.int (iZ c)), some (.int (iZ w)), none, none] [.int (iZ v), .int (iZ (c / 6))] σ := by
    intro v hinv
    have hv := hinv
    have hvr : -1 ≤ v ∧ v ≤ 1 := by rw [hinv]; (repeat' split) <;> omega
    refine x_iadd 23 C dX12_beside_22 rfl ?_
    refine x_istore_n2 24 C dX12_beside_23 rfl rfl ?_
    refine x_iload_n 25 C dX12_beside_24 rfl rfl rfl ?_
    refine x_bipush 27 C dX12_beside_25 rfl rfl ?_
    refine x_irem 28 C dX12_beside_27 rfl (by omega) (by omega) ?_
    have J47 : ∀ (u : Int), (u = (if w = 1 then 1 else if w = 3 then -1 else 0)) → Ex K G (NN tc) ρ (shp tc cl) 47 [some (.int (iZ c)), some (.int (iZ w)), some (.int (iZ (c / 6 + v))), none] [.int (iZ u), .int (iZ (c % 6))] σ := by
      intro u hinv
      have hu := hinv
      have hur : -1 ≤ u ∧ u ≤ 1 := by rw [hinv]; (repeat' split) <;> omega
      refine x_iadd 48 C dX12_beside_47 rfl ?_
      refine x_istore_n3 49 C dX12_beside_48 rfl rfl ?_
      refine x_iload_n 50 C dX12_beside_49 rfl rfl rfl ?_
      refine x_i2l 51 C dX12_beside_50 rfl (by omega) ?_
      refine x_lconst 52 C dX12_beside_51 rfl 0 rfl ?_
      refine x_ldc2 (z := 5) 55 C tb_5_85 dX12_beside_52 rfl ?_
      refine x_callSe 58 C dX12_beside_55 rfl (c_X12_in (by omega) (by omega) (by omega)) tb_5_69 tb_5_70 tb_1_20 tb_5_71 (na := 3) (by decide +kernel) rfl ⟨by decide, by decide⟩ rfl (Nat.le_of_ble_eq_true rfl) rfl (fun r55 => ?_)
      first
        | refine x_ifb_eq 82 61 C dX12_beside_58 rfl rfl (fun h58 => ?_) (fun h58 => ?_)
        | refine x_if_eq 82 61 C dX12_beside_58 rfl rfl (by omega) (fun h58 => ?_) (fun h58 => ?_)
      · refine x_iconst 83 C dX12_beside_82 rfl ?_
        refine x_iret C T dX12_beside_83 ?_
        refine PE_i ?_ (by omega)
        unfold besF
        rw [← hv, ← hu]
        first | rw [if_pos (by omega)] | rw [if_neg (by omega)]
      refine x_iload_n 62 C dX12_beside_61 rfl rfl rfl ?_
      refine x_i2l 63 C dX12_beside_62 rfl (by omega) ?_
      refine x_lconst 64 C dX12_beside_63 rfl 0 rfl ?_
      refine x_ldc2 (z := 5) 67 C tb_5_85 dX12_beside_64 rfl ?_
      refine x_callSe 70 C dX12_beside_67 rfl (c_X12_in (by omega) (by omega) (by omega)) tb_5_69 tb_5_70 tb_1_20 tb_5_71 (na := 3) (by decide +kernel) rfl ⟨by decide, by decide⟩ rfl (Nat.le_of_ble_eq_true rfl) rfl (fun r67 => ?_)
      first
        | refine x_ifb_eq 82 73 C dX12_beside_70 rfl rfl (fun h70 => ?_) (fun h70 => ?_)
        | refine x_if_eq 82 73 C dX12_beside_70 rfl rfl (by omega) (fun h70 => ?_) (fun h70 => ?_)
      · refine x_iconst 83 C dX12_beside_82 rfl ?_
        refine x_iret C T dX12_beside_83 ?_
        refine PE_i ?_ (by omega)
        unfold besF
        rw [← hv, ← hu]
        first | rw [if_pos (by omega)] | rw [if_neg (by omega)]
      refine x_bipush 75 C dX12_beside_73 rfl rfl ?_
      refine x_iload_n 76 C dX12_beside_75 rfl rfl rfl ?_
      refine x_imul 77 C dX12_beside_76 rfl ?_
      refine x_iload_n 78 C dX12_beside_77 rfl rfl rfl ?_
      refine x_iadd 79 C dX12_beside_78 rfl ?_
      refine x_goto 83 C dX12_beside_79 rfl ?_
      refine x_iret C T dX12_beside_83 ?_
      refine PE_i ?_ (by omega)
      unfold besF
      rw [← hv, ← hu]
      first | rw [if_pos (by omega)] | rw [if_neg (by omega)]
    refine x_iload_n 29 C dX12_beside_28 rfl rfl rfl ?_
    refine x_iconst 30 C dX12_beside_29 rfl ?_
    refine x_icmp_ne 37 33 C dX12_beside_30 rfl rfl (by omega) (by omega) (fun h30 => ?_) (fun h30 => ?_)
    rotate_left
    · refine x_iconst 34 C dX12_beside_33 rfl ?_
      refine x_goto 47 C dX12_beside_34 rfl ?_
      exact J47 _ (by first | rw [if_pos (by omega)] | rw [if_neg (by omega), if_pos (by omega)] | rw [if_neg (by omega), if_neg (by omega)])
    refine x_iload_n 38 C dX12_beside_37 rfl rfl rfl ?_
    refine x_iconst 39 C dX12_beside_38 rfl ?_
    refine x_icmp_ne 46 42 C dX12_beside_39 rfl rfl (by omega) (by omega) (fun h39 => ?_) (fun h39 => ?_)
    · refine x_iconst 47 C dX12_beside_46 rfl ?_
      exact J47 _ (by first | rw [if_pos (by omega)] | rw [if_neg (by omega), if_pos (by omega)] | rw [if_neg (by omega), if_neg (by omega)])
    refine x_iconst 43 C dX12_beside_42 rfl ?_
    refine x_goto 47 C dX12_beside_43 rfl ?_
    exact J47 _ (by first | rw [if_pos (by omega)] | rw [if_neg (by omega), if_pos (by omega)] | rw [if_neg (by omega), if_neg (by omega)])
  refine x_iload_n 5 C dX12_beside_4 rfl rfl rfl ?_
  refine x_iconst 6 C dX12_beside_5 rfl ?_
  refine x_icmp_ne 13 9 C dX12_beside_6 rfl rfl (by omega) (by omega) (fun h6 => ?_) (fun h6 => ?_)
  rotate_left
  · refine x_iconst 10 C dX12_beside_9 rfl ?_
    refine x_goto 22 C dX12_beside_10 rfl ?_
    exact J22 _ (by first | rw [if_pos (by omega)] | rw [if_neg (by omega), if_pos (by omega)] | rw [if_neg (by omega), if_neg (by omega)])
  refine x_iload_n 14 C dX12_beside_13 rfl rfl rfl ?_
  refine x_if_ne 21 17 C dX12_beside_14 rfl rfl (by omega) (fun h14 => ?_) (fun h14 => ?_)
  · refine x_iconst 22 C dX12_beside_21 rfl ?_
    exact J22 _ (by first | rw [if_pos (by omega)] | rw [if_neg (by omega), if_pos (by omega)] | rw [if_neg (by omega), if_neg (by omega)])
  refine x_iconst 18 C dX12_beside_17 rfl ?_
  refine x_goto 22 C dX12_beside_18 rfl ?_
  exact J22 _ (by first | rw [if_pos (by omega)] | rw [if_neg (by omega), if_pos (by omega)] | rw [if_neg (by omega), if_neg (by omega)])
