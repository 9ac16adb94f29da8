/-! the model's morning -/
theorem sr1 : ∀ g : Nat, g < 64 → ∀ t : Nat, t < 6 → (iZ (g : Int) >>> (iZ (t : Int) &&& 31)) = iZ ((g >>> t : Nat) : Int) := by decide +kernel
theorem an1 : ∀ g : Nat, g < 64 → ∀ t : Nat, t < 6 → (iZ ((g >>> t : Nat) : Int) &&& iZ 1) = iZ (if g.testBit t then 1 else 0) := by decide +kernel
theorem tb_or : ∀ g : Nat, g < 64 → ∀ t : Nat, t < 6 → ∀ s : Nat, s < 6 → (g ||| 2 ^ t).testBit s = (g.testBit s || decide (s = t)) := by decide +kernel
theorem bef_M {σ : Sig} {a b : Nat} (ha : (a : Int) < σ 51 18) (hb : (b : Int) < σ 51 18) : bef (cM σ) a b ↔ (σ 62 a < σ 62 b ∨ (σ 62 a = σ 62 b ∧ (σ 63 b < σ 63 a ∨ (σ 63 a = σ 63 b ∧ a < b)))) := by
  unfold bef
  rw [cM_10 ha, cM_10 hb]
  exact Iff.rfl
theorem bef_tr {T : Sig} {a b c : Nat} (h : bef T a b) (h2 : bef T b c) : bef T a c := by unfold bef at *; omega
theorem bef_tot {T : Sig} {a b : Nat} (hne : a ≠ b) (h : ¬ bef T a b) : bef T b a := by unfold bef at *; omega
/-- who woke ahead of the i-th -/
def dnb (T : Sig) : Nat → Nat
  | 0 => 0
  | i + 1 => dnb T i ||| 2 ^ ordN T i
theorem dnb_lt {T : Sig} (h6 : slN T < 6) : ∀ i, i ≤ slN T → dnb T i < 64
  | 0, _ => by show 0 < 64; decide
  | i + 1, h => or_lt _ (dnb_lt h6 i (by omega)) _ (by have := ordN_lt (T := T) (i := i) (by omega); omega)
theorem dnb_bit {T : Sig} (h6 : slN T < 6) {s : Nat} (hs : s < 6) : ∀ i, i ≤ slN T → ((dnb T i).testBit s = true ↔ ∃ j, j < i ∧ ordN T j = s)
  | 0, _ => by
    constructor
    · intro h; rw [show dnb T 0 = 0 from rfl, Nat.zero_testBit] at h; cases h
    · rintro ⟨j, hj, _⟩; omega
  | i + 1, h => by
    have ho := ordN_lt (T := T) (i := i) (by omega)
    have ih := dnb_bit h6 hs i (by omega)
    show (dnb T i ||| 2 ^ ordN T i).testBit s = true ↔ _
    rw [tb_or _ (dnb_lt h6 i (by omega)) _ (by omega) _ hs, Bool.or_eq_true, ih, decide_eq_true_eq]
    constructor
    · rintro (⟨j, hj, hjs⟩ | he)
      · exact ⟨j, by omega, hjs⟩
      · exact ⟨i, by omega, he.symm⟩
    · rintro ⟨j, hj, hjs⟩
      by_cases hji : j = i
      · subst hji; exact Or.inr hjs.symm
      · exact Or.inl ⟨j, by omega, hjs⟩
/-- the first to wake of those below k that did not yet -/
def selI (T : Sig) (D k : Nat) (w : Int) : Prop := (w = -1 ∧ ∀ j, j < k → D.testBit j = true) ∨ ∃ a : Nat, w = (a : Int) ∧ a < k ∧ D.testBit a = false ∧ ∀ j, j < k → D.testBit j = false → j = a ∨ bef T a j
theorem selI_0 {T : Sig} {D : Nat} : selI T D 0 (-1) := Or.inl ⟨rfl, fun j h => absurd h (by omega)⟩
theorem selI_in {T : Sig} {D k : Nat} {w : Int} (h : selI T D k w) : -1 ≤ w ∧ w < k := by
  rcases h with ⟨h, _⟩ | ⟨a, h, h2, _⟩ <;> omega
theorem selI_nat {T : Sig} {D k : Nat} {w : Int} (h : selI T D k w) (hne : w ≠ -1) : ∃ a : Nat, w = (a : Int) ∧ a < k := by
  rcases h with ⟨h, _⟩ | ⟨a, h, h2, _⟩
  · omega
  · exact ⟨a, h, h2⟩
theorem selI_skip {T : Sig} {D k : Nat} {w : Int} (h : selI T D k w) (hb : D.testBit k = true) : selI T D (k + 1) w := by
  rcases h with ⟨h, h2⟩ | ⟨a, h, h2, h3, h4⟩
  · refine Or.inl ⟨h, fun j hj => ?_⟩
    by_cases hjk : j = k
    · subst hjk; exact hb
    · exact h2 j (by omega)
  · refine Or.inr ⟨a, h, by omega, h3, fun j hj hf => ?_⟩
    by_cases hjk : j = k
    · subst hjk; rw [hb] at hf; cases hf
    · exact h4 j (by omega) hf
theorem selI_new {T : Sig} {D k : Nat} (h : selI T D k (-1)) (hb : D.testBit k = false) : selI T D (k + 1) (k : Int) := by
  rcases h with ⟨h, h2⟩ | ⟨a, h, h2, h3, h4⟩
  · refine Or.inr ⟨k, rfl, by omega, hb, fun j hj hf => ?_⟩
    by_cases hjk : j = k
    · exact Or.inl hjk
    · rw [h2 j (by omega)] at hf; cases hf
  · omega
theorem selI_better {T : Sig} {D k a : Nat} (h : selI T D k (a : Int)) (hb : D.testBit k = false) (hbe : bef T k a) : selI T D (k + 1) (k : Int) := by
  rcases h with ⟨h, h2⟩ | ⟨a', h, h2, h3, h4⟩
  · omega
  · obtain rfl : a = a' := by omega
    refine Or.inr ⟨k, rfl, by omega, hb, fun j hj hf => ?_⟩
    by_cases hjk : j = k
    · exact Or.inl hjk
    · rcases h4 j (by omega) hf with rfl | h5
      · exact Or.inr hbe
      · exact Or.inr (bef_tr hbe h5)
theorem selI_worse {T : Sig} {D k a : Nat} (h : selI T D k (a : Int)) (hb : D.testBit k = false) (hbe : ¬ bef T k a) : selI T D (k + 1) (a : Int) := by
  rcases h with ⟨h, h2⟩ | ⟨a', h, h2, h3, h4⟩
  · omega
  · obtain rfl : a = a' := by omega
    refine Or.inr ⟨a, rfl, by omega, h3, fun j hj hf => ?_⟩
    by_cases hjk : j = k
    · subst hjk; exact Or.inr (bef_tot (by omega) hbe)
    · exact h4 j (by omega) hf
theorem selI_end {T : Sig} (h6 : slN T < 6) {i : Nat} {w : Int} (hi : i < slN T) (h : selI T (dnb T i) (slN T) w) : w = (ordN T i : Int) := by
  have ho := ordN_lt hi
  have hf : (dnb T i).testBit (ordN T i) = false := by
    cases hb : (dnb T i).testBit (ordN T i) with
    | false => rfl
    | true =>
      obtain ⟨j, hj, hjs⟩ := (dnb_bit h6 (by omega) i (by omega)).mp hb
      have := ordN_inj (T := T) (by omega) hi hjs
      omega
  rcases h with ⟨_, h2⟩ | ⟨a, h, h2, h3, h4⟩
  · rw [h2 _ ho] at hf; cases hf
  · rcases h4 _ ho hf with h5 | h5
    · rw [h, h5]
    · obtain ⟨j, hj, rfl⟩ := ordN_sur h2
      by_cases hji : j < i
      · rw [(dnb_bit h6 (by omega) i (by omega)).mpr ⟨j, hji, rfl⟩] at h3; cases h3
      · by_cases he : j = i
        · rw [h, he]
        · exact absurd (ordN_bef (T := T) (i := i) (j := j) (by omega) hj) (fun hx => bef_asym hx h5)
/-- the first of the list that is not gone -/
def fndI (L : List (Nat × Nat)) (G j : Nat) (g2 v f : Int) : Prop := (v = -1 ∧ g2 = (G : Int) ∧ frst (L.drop j) G = frst L G) ∨ ∃ q : Nat × Nat, frst L G = some q ∧ v = (q.1 : Int) ∧ f = (q.2 : Int) ∧ g2 = ((G ||| 2 ^ q.1 : Nat) : Int)
theorem fndI_end {L : List (Nat × Nat)} {G j : Nat} {g2 v f : Int} (h : fndI L G j g2 v f) (he : L.length ≤ j ∨ v ≠ -1) : v = hasI (frst L G) ∧ (∀ q, frst L G = some q → f = (q.2 : Int)) ∧ g2 = (gaft G (frst L G) : Int) := by
  rcases h with ⟨h1, h2, h3⟩ | ⟨q, h1, h2, h3, h4⟩
  · have hl : L.length ≤ j := by rcases he with he | he <;> omega
    rw [List.drop_eq_nil_of_le hl] at h3
    rw [← h3]
    exact ⟨h1, fun q hq => absurd (show (none : Option (Nat × Nat)) = some q from hq) (by simp), h2⟩
  · rw [h1]
    exact ⟨h2, fun q' hq => by cases hq; exact h3, h4⟩
theorem MLa_row {σ s1 : Sig} {s : Nat} {L : List (Nat × Nat)} (h : MLa σ s L) (h1 : s1 66 = σ 66) (h2 : s1 67 = σ 67) (h3 : s1 68 = σ 68) : MLa s1 s L := by
  unfold MLa at h ⊢
  rw [h1, h2, h3]
  exact h
def MHL (X : Nat → RuT) (σ s1 : Sig) : Prop := ∀ s : Nat, (s : Int) < σ 51 18 → MLa s1 s (seenT X (cM σ) s)
theorem MHL_row {X : Nat → RuT} {σ s1 s2 : Sig} (h : MHL X σ s1) (h1 : s2 66 = s1 66) (h2 : s2 67 = s1 67) (h3 : s2 68 = s1 68) : MHL X σ s2 := fun s hs => MLa_row (h s hs) h1 h2 h3
/-- who has what, and how far it was -/
def HDm (X : Nat → RuT) (σ s1 : Sig) : Prop := ∀ s : Nat, (s : Int) < σ 51 18 → s1 69 s = hasI (hadT X (cM σ) s) ∧ ∀ q, hadT X (cM σ) s = some q → s1 70 s = (q.2 : Int)
theorem slN_M {σ : Sig} : slN (cM σ) = (σ 51 18).toNat := rfl
theorem seenM_le {X : Nat → RuT} {σ : Sig} (hT : MI σ) (s : Nat) : (seenT X (cM σ) s).length ≤ 6 := seenT_le (MI_T hT) s
theorem seenM_mem {X : Nat → RuT} {σ : Sig} (hT : MI σ) {s : Nat} {q : Nat × Nat} (h : q ∈ seenT X (cM σ) s) : q.1 < 6 ∧ (q.1 : Int) < σ 51 13 ∧ 1 ≤ q.2 ∧ q.2 ≤ 5 := seenT_mem (MI_T hT) h
theorem gonM_lt {X : Nat → RuT} {σ : Sig} (hT : MI σ) (i : Nat) : gon (cM σ) (seenT X (cM σ)) i < 64 := gon_lt (MI_T hT) i
set_option maxHeartbeats 4000000 in
set_option maxRecDepth 100000 in
theorem c_X12_ahead {l : Launch} {G : Gt} {ρ : Nat → Nat} {tc : Nat} {cl : Nat → Nat} {σ : Sig} {a b : Nat} (hT : MI σ) (ha : (a : Int) < σ 51 18) (hb : (b : Int) < σ 51 18) : MX l yX12_ahead cX12_ahead 3 (some .boolean) 0 0 G (NN tc) ρ (shp tc cl) [.ref (ρ 51), .int (iZ (a : Int)), .int (iZ (b : Int))] σ (PE σ (b2 (bef (cM σ) a b))) := by
  refine MX_of [some (.ref (ρ 51)), some (.int (iZ (a : Int))), some (.int (iZ (b : Int)))] (by decide +kernel) rfl rfl (Nat.le_of_ble_eq_true rfl) ?_
  intro K hKl C T hRng
  subst hKl
  have h8 := hT.2.2.2.1
  have haa : (a : Int).toNat = a := Int.toNat_natCast a
  have hbb : (b : Int).toNat = b := Int.toNat_natCast b
  refine x_aload_n 1 C dX12_ahead_0 rfl rfl rfl ?_
  refine x_getr (j := 16) 4 C rfl (lt79 (by decide)) rfl rfl (by decide) inT12 tb_4_150 rfl dX12_ahead_1 rfl ?_
  refine x_iload_n 5 C dX12_ahead_4 rfl rfl rfl ?_
  refine x_iald 6 C rfl (lt79 (by decide)) dX12_ahead_5 rfl (by omega) (by omega) (fun r5 => ?_)
  refine x_aload_n 7 C dX12_ahead_6 rfl rfl rfl ?_
  refine x_getr (j := 16) 10 C rfl (lt79 (by decide)) rfl rfl (by decide) inT12 tb_4_150 rfl dX12_ahead_7 rfl ?_
  refine x_iload_n 11 C dX12_ahead_10 rfl rfl rfl ?_
  refine x_iald 12 C rfl (lt79 (by decide)) dX12_ahead_11 rfl (by omega) (by omega) (fun r11 => ?_)
  refine x_icmp_eq 36 15 C dX12_ahead_12 rfl rfl (by omega) (by omega) (fun h12 => ?_) (fun h12 => ?_)
  · refine x_aload_n 37 C dX12_ahead_36 rfl rfl rfl ?_
    refine x_getr (j := 17) 40 C rfl (lt79 (by decide)) rfl rfl (by decide) inT12 tb_4_151 rfl dX12_ahead_37 rfl ?_
    refine x_iload_n 41 C dX12_ahead_40 rfl rfl rfl ?_
    refine x_iald 42 C rfl (lt79 (by decide)) dX12_ahead_41 rfl (by omega) (by omega) (fun r41 => ?_)
    refine x_aload_n 43 C dX12_ahead_42 rfl rfl rfl ?_
    refine x_getr (j := 17) 46 C rfl (lt79 (by decide)) rfl rfl (by decide) inT12 tb_4_151 rfl dX12_ahead_43 rfl ?_
    refine x_iload_n 47 C dX12_ahead_46 rfl rfl rfl ?_
    refine x_iald 48 C rfl (lt79 (by decide)) dX12_ahead_47 rfl (by omega) (by omega) (fun r47 => ?_)
    refine x_icmp_ne 64 51 C dX12_ahead_48 rfl rfl (by omega) (by omega) (fun h48 => ?_) (fun h48 => ?_)
    · refine x_aload_n 65 C dX12_ahead_64 rfl rfl rfl ?_
      refine x_getr (j := 17) 68 C rfl (lt79 (by decide)) rfl rfl (by decide) inT12 tb_4_151 rfl dX12_ahead_65 rfl ?_
      refine x_iload_n 69 C dX12_ahead_68 rfl rfl rfl ?_
      refine x_iald 70 C rfl (lt79 (by decide)) dX12_ahead_69 rfl (by omega) (by omega) (fun r69 => ?_)
      refine x_aload_n 71 C dX12_ahead_70 rfl rfl rfl ?_
      refine x_getr (j := 17) 74 C rfl (lt79 (by decide)) rfl rfl (by decide) inT12 tb_4_151 rfl dX12_ahead_71 rfl ?_
      refine x_iload_n 75 C dX12_ahead_74 rfl rfl rfl ?_
      refine x_iald 76 C rfl (lt79 (by decide)) dX12_ahead_75 rfl (by omega) (by omega) (fun r75 => ?_)
      refine x_icmp_le 83 79 C dX12_ahead_76 rfl rfl (by omega) (by omega) (fun h76 => ?_) (fun h76 => ?_)
      · refine x_iconst 84 C dX12_ahead_83 rfl ?_
        refine x_zret C T dX12_ahead_84 (by omega) ?_
        simp only [haa, hbb] at *
        exact PE_i (by rw [b2_congr (bef_M ha hb)]; unfold b2; split <;> omega) (by omega)
      refine x_iconst 80 C dX12_ahead_79 rfl ?_
      refine x_goto 84 C dX12_ahead_80 rfl ?_
      refine x_zret C T dX12_ahead_84 (by omega) ?_
      simp only [haa, hbb] at *
      exact PE_i (by rw [b2_congr (bef_M ha hb)]; unfold b2; split <;> omega) (by omega)
    refine x_iload_n 52 C dX12_ahead_51 rfl rfl rfl ?_
    refine x_iload_n 53 C dX12_ahead_52 rfl rfl rfl ?_
    refine x_icmp_ge 60 56 C dX12_ahead_53 rfl rfl (by omega) (by omega) (fun h53 => ?_) (fun h53 => ?_)
    · refine x_iconst 61 C dX12_ahead_60 rfl ?_
      refine x_goto 84 C dX12_ahead_61 rfl ?_
      refine x_zret C T dX12_ahead_84 (by omega) ?_
      simp only [haa, hbb] at *
      exact PE_i (by rw [b2_congr (bef_M ha hb)]; unfold b2; split <;> omega) (by omega)
    refine x_iconst 57 C dX12_ahead_56 rfl ?_
    refine x_goto 84 C dX12_ahead_57 rfl ?_
    refine x_zret C T dX12_ahead_84 (by omega) ?_
    simp only [haa, hbb] at *
    exact PE_i (by rw [b2_congr (bef_M ha hb)]; unfold b2; split <;> omega) (by omega)
  refine x_aload_n 16 C dX12_ahead_15 rfl rfl rfl ?_
  refine x_getr (j := 16) 19 C rfl (lt79 (by decide)) rfl rfl (by decide) inT12 tb_4_150 rfl dX12_ahead_16 rfl ?_
  refine x_iload_n 20 C dX12_ahead_19 rfl rfl rfl ?_
  refine x_iald 21 C rfl (lt79 (by decide)) dX12_ahead_20 rfl (by omega) (by omega) (fun r20 => ?_)
  refine x_aload_n 22 C dX12_ahead_21 rfl rfl rfl ?_
  refine x_getr (j := 16) 25 C rfl (lt79 (by decide)) rfl rfl (by decide) inT12 tb_4_150 rfl dX12_ahead_22 rfl ?_
  refine x_iload_n 26 C dX12_ahead_25 rfl rfl rfl ?_
  refine x_iald 27 C rfl (lt79 (by decide)) dX12_ahead_26 rfl (by omega) (by omega) (fun r26 => ?_)
  refine x_icmp_ge 34 30 C dX12_ahead_27 rfl rfl (by omega) (by omega) (fun h27 => ?_) (fun h27 => ?_)
  · refine x_iconst 35 C dX12_ahead_34 rfl ?_
    refine x_zret C T dX12_ahead_35 (by omega) ?_
    simp only [haa, hbb] at *
    exact PE_i (by rw [b2_congr (bef_M ha hb)]; unfold b2; split <;> omega) (by omega)
  refine x_iconst 31 C dX12_ahead_30 rfl ?_
  refine x_goto 35 C dX12_ahead_31 rfl ?_
  refine x_zret C T dX12_ahead_35 (by omega) ?_
  simp only [haa, hbb] at *
  exact PE_i (by rw [b2_congr (bef_M ha hb)]; unfold b2; split <;> omega) (by omega)

set_option maxHeartbeats 4000000 in
set_option maxRecDepth 100000 in
theorem c_X12_morning {l : Launch} {G : Gt} {ρ : Nat → Nat} {tc : Nat} {cl : Nat → Nat} {σ : Sig} {X : Nat → RuT} {N : Nat} (hW : MW X N σ) : MX l yX12_morning cX12_morning 7 none 55 1327 G (NN tc) ρ (shp tc cl) [.ref (ρ 51)] σ (PV (fun σ' => KM σ σ' ∧ KV X N σ' ∧ MHL X σ σ' ∧ HDm X σ σ')) := by
  refine MX_of [some (.ref (ρ 51)), none, none, none, none, none, none] (by decide +kernel) rfl rfl (Nat.le_of_ble_eq_true rfl) ?_
  intro K hKl C T hRng
  subst hKl
  have hT := hW.1
  have h8 := hT.2.2.2.1
  have h6 : slN (cM σ) < 6 := by rw [slN_M]; omega
  refine x_iconst 1 C dX12_morning_0 rfl ?_
  refine x_istore_n1 2 C dX12_morning_1 rfl rfl ?_
  refine x_iconst 3 C dX12_morning_2 rfl ?_
  refine x_istore_n2 4 C dX12_morning_3 rfl rfl ?_
  refine x_iconst 5 C dX12_morning_4 rfl ?_
  refine x_istore_n3 6 C dX12_morning_5 rfl rfl ?_
  have L6 : ∀ (mz : Nat) (s : Nat) (y : Int) (s1 : Sig), mz = 6 - s → ((s : Int) ≤ σ 51 18 ∧ y = s ∧ KM σ s1 ∧ KV X N s1 ∧ ∀ q : Nat, q < s → MLa s1 q (seenT X (cM σ) q) ∧ s1 69 q = -1) → Ex K G (NN tc) ρ (shp tc cl) 6 [some (.ref (ρ 51)), some (.int (iZ 0)), some (.int (iZ 0)), some (.int (iZ y)), none, none, none] [] s1 := by
    intro mz
    induction mz using Nat.strongRecOn with
    | ind mz ih =>
      intro s y s1 hmz hinv
      obtain ⟨hs, rfl, hK1, hV1, hd⟩ := hinv
      have hW1 := KM_MW hK1 hV1 hW
      have e18 : s1 51 18 = σ 51 18 := hK1.2 18 (by omega)
      have ecM : cM s1 = cM σ := KM_cM hK1
      have hss : (s : Int).toNat = s := Int.toNat_natCast s
      refine x_iload_n 7 C dX12_morning_6 rfl rfl rfl ?_
      refine x_aload_n 8 C dX12_morning_7 rfl rfl rfl ?_
      refine x_geti (j := 18) 11 C rfl (lt79 (by decide)) rfl rfl (by decide) inT12 tb_4_152 rfl dX12_morning_8 rfl (fun r8 => ?_)
      refine x_icmp_ge 32 14 C dX12_morning_11 rfl rfl (by omega) (by omega) (fun h11 => ?_) (fun h11 => ?_)
      · refine x_iconst 33 C dX12_morning_32 rfl ?_
        refine x_istore_n3 34 C dX12_morning_33 rfl rfl ?_
        have L34 : ∀ (mz : Nat) (i : Nat) (y d g : Int) (sw : Sig) (x4 x5 x6 : Option Value), mz = 6 - i → ((i : Int) ≤ σ 51 18 ∧ y = i ∧ d = (dnb (cM σ) i : Int) ∧ g = (gon (cM σ) (seenT X (cM σ)) i : Int) ∧ KM σ sw ∧ KV X N sw ∧ MHL X σ sw ∧ (∀ j : Nat, j < i → sw 69 (ordN (cM σ) j) = hasI (hadT X (cM σ) (ordN (cM σ) j)) ∧ ∀ q, hadT X (cM σ) (ordN (cM σ) j) = some q → sw 70 (ordN (cM σ) j) = (q.2 : Int)) ∧ (∀ j : Nat, i ≤ j → (j : Int) < σ 51 18 → sw 69 (ordN (cM σ) j) = -1)) → Ex K G (NN tc) ρ (shp tc cl) 34 [some (.ref (ρ 51)), some (.int (iZ d)), some (.int (iZ g)), some (.int (iZ y)), x4, x5, x6] [] sw := by
          intro mz
          induction mz using Nat.strongRecOn with
          | ind mz ih =>
            intro i y d g sw x4 x5 x6 hmz hinv
            have ihF := ih
            obtain ⟨hi, rfl, hd, hg, hK2, hV2, hML, hdn, hun⟩ := hinv
            obtain ⟨D1, hD1e⟩ : ∃ D, dnb (cM σ) i = D := ⟨_, rfl⟩
            have hD1 : D1 < 64 := by rw [← hD1e]; exact dnb_lt h6 i (by rw [slN_M]; omega)
            obtain ⟨G1, hG1e⟩ : ∃ G, gon (cM σ) (seenT X (cM σ)) i = G := ⟨_, rfl⟩
            have hG1 : G1 < 64 := by rw [← hG1e]; exact gonM_lt hT i
            rw [hD1e] at hd
            rw [hG1e] at hg
            subst hd
            subst hg
            have hT2 := KM_MI hK2 hT
            have f18 : sw 51 18 = σ 51 18 := hK2.2 18 (by omega)
            have fcM : cM sw = cM σ := KM_cM hK2
            refine x_iload_n 35 C dX12_morning_34 rfl rfl rfl ?_
            refine x_aload_n 36 C dX12_morning_35 rfl rfl rfl ?_
            refine x_geti (j := 18) 39 C rfl (lt79 (by decide)) rfl rfl (by decide) inT12 tb_4_152 rfl dX12_morning_36 rfl (fun r36 => ?_)
            refine x_icmp_ge 198 42 C dX12_morning_39 rfl rfl (by omega) (by omega) (fun h39 => ?_) (fun h39 => ?_)
            · refine x_vret C T dX12_morning_198 ?_
              refine PV_i ⟨hK2, hV2, hML, fun s hs => ?_⟩
              obtain ⟨j, hj, hjs⟩ := ordN_sur (T := cM σ) (s := s) (by rw [slN_M]; omega)
              rw [slN_M] at hj
              have := hdn j (by omega)
              rw [hjs] at this
              exact this
            refine x_iconst 43 C dX12_morning_42 rfl ?_
            refine x_istore_4 45 C dX12_morning_43 rfl rfl ?_
            refine x_iconst 46 C dX12_morning_45 rfl ?_
            refine x_istore_5 48 C dX12_morning_46 rfl rfl ?_
            have L48 : ∀ (mz : Nat) (k : Nat) (w y5 : Int), mz = 6 - k → ((k : Int) ≤ σ 51 18 ∧ y5 = k ∧ selI (cM σ) D1 k w) → Ex K G (NN tc) ρ (shp tc cl) 48 [some (.ref (ρ 51)), some (.int (iZ (D1 : Int))), some (.int (iZ (G1 : Int))), some (.int (iZ (i : Int))), some (.int (iZ w)), some (.int (iZ y5)), x6] [] sw := by
              intro mz
              induction mz using Nat.strongRecOn with
              | ind mz ih =>
                intro k w y5 hmz hinv
                obtain ⟨hk, rfl, hsl⟩ := hinv
                have hwr := selI_in hsl
                refine x_iload 50 C dX12_morning_48 rfl rfl ?_
                refine x_aload_n 51 C dX12_morning_50 rfl rfl rfl ?_
                refine x_geti (j := 18) 54 C rfl (lt79 (by decide)) rfl rfl (by decide) inT12 tb_4_152 rfl dX12_morning_51 rfl (fun r51 => ?_)
                refine x_icmp_ge 93 57 C dX12_morning_54 rfl rfl (by omega) (by omega) (fun h54 => ?_) (fun h54 => ?_)
                · have hse := selI_end (i := i) (w := w) h6 (by rw [slN_M]; omega) (by rw [hD1e, show slN (cM σ) = k by rw [slN_M]; omega]; exact hsl)
                  obtain ⟨s, hss⟩ : ∃ s, ordN (cM σ) i = s := ⟨_, rfl⟩
                  rw [hss] at hse
                  subst hse
                  have hsl2 : (s : Int) < σ 51 18 := by omega
                  have hsn : (s : Int).toNat = s := Int.toNat_natCast s
                  have hun0 : sw 69 s = -1 := by rw [← hss]; exact hun i (by omega) (by omega)
                  obtain ⟨L, hL⟩ : ∃ L, seenT X (cM σ) s = L := ⟨_, rfl⟩
                  have hL6 : L.length ≤ 6 := by rw [← hL]; exact seenM_le hT s
                  have hLm : ∀ q, q ∈ L → q.1 < 6 ∧ (q.1 : Int) < σ 51 13 ∧ 1 ≤ q.2 ∧ q.2 ≤ 5 := fun q hq => seenM_mem (X := X) hT (s := s) (by rw [hL]; exact hq)
                  have hho : hadT X (cM σ) s = frst L G1 := by
                    show hadO (cM σ) (seenT X (cM σ)) s = _
                    rw [← hL, ← hss, hadO_at (by rw [slN_M]; omega), hG1e]
                  have hgs : gon (cM σ) (seenT X (cM σ)) (i + 1) = gaft G1 (hadT X (cM σ) s) := by
                    rw [hho, ← hG1e, ← hL, ← hss]
                    rfl
                  refine x_iload_n 94 C dX12_morning_93 rfl rfl rfl ?_
                  refine x_iconst 95 C dX12_morning_94 rfl ?_
                  refine x_iload 97 C dX12_morning_95 rfl rfl ?_
                  refine x_ishl (((2 ^ s : Nat) : Int)) 98 C dX12_morning_97 rfl (sh1 s (by omega)) ?_
                  refine x_ior (((D1 ||| 2 ^ s : Nat) : Int)) 99 C dX12_morning_98 rfl (or1 D1 hD1 s (by omega)) ?_
                  refine x_istore_n1 100 C dX12_morning_99 rfl rfl ?_
                  have J192 : ∀ (g4 y5 : Int) (s4 : Sig) (x6b : Option Value), (KM σ s4 ∧ KV X N s4 ∧ MHL X σ s4 ∧ (∀ q, q ≠ s → s4 69 q = sw 69 q ∧ s4 70 q = sw 70 q) ∧ s4 69 s = hasI (hadT X (cM σ) s) ∧ (∀ q, hadT X (cM σ) s = some q → s4 70 s = (q.2 : Int)) ∧ g4 = (gon (cM σ) (seenT X (cM σ)) (i + 1) : Int)) → Ex K G (NN tc) ρ (shp tc cl) 192 [some (.ref (ρ 51)), some (.int (iZ ((D1 ||| 2 ^ s : Nat) : Int))), some (.int (iZ g4)), some (.int (iZ (i : Int))), some (.int (iZ (s : Int))), some (.int (iZ y5)), x6b] [] s4 := by
                    intro g4 y5 s4 x6b hinv
                    obtain ⟨hK4, hV4, hML4, hot4, hv4, hf4, hg4⟩ := hinv
                    have hne4 : ∀ j : Nat, j ≠ i → (j : Int) < σ 51 18 → ordN (cM σ) j ≠ s := by
                      intro j hji hjl he
                      rw [← hss] at he
                      exact hji (ordN_inj (T := cM σ) (by rw [slN_M]; omega) (by rw [slN_M]; omega) he)
                    have hdn4 : ∀ j : Nat, j < i + 1 → s4 69 (ordN (cM σ) j) = hasI (hadT X (cM σ) (ordN (cM σ) j)) ∧ ∀ q, hadT X (cM σ) (ordN (cM σ) j) = some q → s4 70 (ordN (cM σ) j) = (q.2 : Int) := by
                      intro j hj
                      by_cases hji : j = i
                      · subst hji
                        rw [hss]
                        exact ⟨hv4, hf4⟩
                      · obtain ⟨o1, o2⟩ := hot4 _ (hne4 j hji (by omega))
                        rw [o1, o2]
                        exact hdn j (by omega)
                    have hun4 : ∀ j : Nat, i + 1 ≤ j → (j : Int) < σ 51 18 → s4 69 (ordN (cM σ) j) = -1 := by
                      intro j hj hjl
                      rw [(hot4 _ (hne4 j (by omega) hjl)).1]
                      exact hun j (by omega) hjl
                    refine x_iinc_3 195 C dX12_morning_192 rfl rfl ?_
                    refine x_goto 34 C dX12_morning_195 rfl ?_
                    exact ihF _ (by omega) (i + 1) _ _ _ _ _ _ _ rfl ⟨by omega, by omega, by rw [← hss, ← hD1e]; rfl, hg4, hK4, hV4, hML4, hdn4, hun4⟩
                  refine x_iconst 101 C dX12_morning_100 rfl ?_
                  refine x_istore_5 103 C dX12_morning_101 rfl rfl ?_
                  have L103 : ∀ (mz : Nat) (j : Nat) (y5 g2 : Int) (sv : Sig) (x6b : Option Value), mz = 7 - j → (j ≤ L.length ∧ y5 = j ∧ KM σ sv ∧ KV X N sv ∧ MHL X σ sv ∧ (∀ q, q ≠ s → sv 69 q = sw 69 q ∧ sv 70 q = sw 70 q) ∧ fndI L G1 j g2 (sv 69 s) (sv 70 s)) → Ex K G (NN tc) ρ (shp tc cl) 103 [some (.ref (ρ 51)), some (.int (iZ ((D1 ||| 2 ^ s : Nat) : Int))), some (.int (iZ g2)), some (.int (iZ (i : Int))), some (.int (iZ (s : Int))), some (.int (iZ y5)), x6b] [] sv := by
                    intro mz
                    induction mz using Nat.strongRecOn with
                    | ind mz ih =>
                      intro j y5 g2 sv x6b hmz hinv
                      obtain ⟨hj, rfl, hK3, hV3, hML3, hot, hfn⟩ := hinv
                      obtain ⟨m1, m2⟩ := hML3 s hsl2
                      rw [hL] at m1 m2
                      refine x_iload 105 C dX12_morning_103 rfl rfl ?_
                      refine x_aload_n 106 C dX12_morning_105 rfl rfl rfl ?_
                      refine x_getr (j := 38) 109 C rfl (lt79 (by decide)) rfl rfl (by decide) inT12 tb_4_172 rfl dX12_morning_106 rfl ?_
                      refine x_iload 111 C dX12_morning_109 rfl rfl ?_
                      refine x_iald 112 C rfl (lt79 (by decide)) dX12_morning_111 rfl (by omega) (by omega) (fun r111 => ?_)
                      rw [hsn, m1] at r111 ⊢
                      refine x_icmp_ge 192 115 C dX12_morning_112 rfl rfl (by omega) (by omega) (fun h112 => ?_) (fun h112 => ?_)
                      · have hfe := fndI_end hfn (by omega)
                        rw [← hho] at hfe
                        exact J192 _ _ _ _ ⟨hK3, hV3, hML3, hot, hfe.1, hfe.2.1, by rw [hgs]; exact hfe.2.2⟩
                      refine x_aload_n 116 C dX12_morning_115 rfl rfl rfl ?_
                      refine x_getr (j := 39) 119 C rfl (lt79 (by decide)) rfl rfl (by decide) inT12 tb_4_173 rfl dX12_morning_116 rfl ?_
                      refine x_iload 121 C dX12_morning_119 rfl rfl ?_
                      refine x_iald 122 C rfl (lt79 (by decide)) dX12_morning_121 rfl (by omega) (by omega) (fun r121 => ?_)
                      rw [hsn] at r121 ⊢
                      refine x_iconst 123 C dX12_morning_122 rfl ?_
                      refine x_icmp_ne 192 126 C dX12_morning_123 rfl rfl (by omega) (by omega) (fun h123 => ?_) (fun h123 => ?_)
                      · have hfe := fndI_end hfn (by omega)
                        rw [← hho] at hfe
                        exact J192 _ _ _ _ ⟨hK3, hV3, hML3, hot, hfe.1, hfe.2.1, by rw [hgs]; exact hfe.2.2⟩
                      have J186 : ∀ (g5 : Int) (s5 : Sig) (x6c : Option Value), (KM σ s5 ∧ KV X N s5 ∧ MHL X σ s5 ∧ (∀ q, q ≠ s → s5 69 q = sw 69 q ∧ s5 70 q = sw 70 q) ∧ fndI L G1 (j + 1) g5 (s5 69 s) (s5 70 s)) → Ex K G (NN tc) ρ (shp tc cl) 186 [some (.ref (ρ 51)), some (.int (iZ ((D1 ||| 2 ^ s : Nat) : Int))), some (.int (iZ g5)), some (.int (iZ (i : Int))), some (.int (iZ (s : Int))), some (.int (iZ (j : Int))), x6c] [] s5 := by
                        intro g5 s5 x6c hinv
                        obtain ⟨hK5, hV5, hML5, hot5, hfn5⟩ := hinv
                        refine x_iinc_5 189 C dX12_morning_186 rfl rfl ?_
                        refine x_goto 103 C dX12_morning_189 rfl ?_
                        exact ih _ (by omega) (j + 1) _ _ _ _ rfl ⟨by omega, by omega, hK5, hV5, hML5, hot5, hfn5⟩
                      have hf1 : sv 69 s = -1 ∧ g2 = (G1 : Int) ∧ frst (L.drop j) G1 = frst L G1 := by
                        rcases hfn with h | ⟨q, h1, h2, h3, h4⟩
                        · exact h
                        · omega
                      obtain ⟨f1, rfl, f3⟩ := hf1
                      obtain ⟨q, hq1⟩ : ∃ q, L[j]? = some q := ⟨_, List.getElem?_eq_getElem (by omega)⟩
                      have hqm := hLm q (List.mem_of_getElem? hq1)
                      obtain ⟨p1, p2⟩ := m2 j q hq1
                      have hdr : L.drop j = q :: L.drop (j + 1) := by
                        have hjl : j < L.length := (List.getElem?_eq_some_iff.mp hq1).1
                        rw [List.drop_eq_getElem_cons hjl]
                        congr 1
                        rw [List.getElem?_eq_getElem hjl] at hq1
                        exact Option.some.inj hq1
                      have hix : (6 * (s : Int) + (j : Int)).toNat = 6 * s + j := by omega
                      refine x_aload_n 127 C dX12_morning_126 rfl rfl rfl ?_
                      refine x_getr (j := 36) 130 C rfl (lt79 (by decide)) rfl rfl (by decide) inT12 tb_4_170 rfl dX12_morning_127 rfl ?_
                      refine x_bipush 132 C dX12_morning_130 rfl rfl ?_
                      refine x_iload 134 C dX12_morning_132 rfl rfl ?_
                      refine x_imul 135 C dX12_morning_134 rfl ?_
                      refine x_iload 137 C dX12_morning_135 rfl rfl ?_
                      refine x_iadd 138 C dX12_morning_137 rfl ?_
                      refine x_iald 139 C rfl (lt79 (by decide)) dX12_morning_138 rfl (by omega) (by omega) (fun r138 => ?_)
                      rw [hix, p1] at r138 ⊢
                      refine x_istore_6 141 C dX12_morning_139 rfl rfl ?_
                      refine x_iload_n 142 C dX12_morning_141 rfl rfl rfl ?_
                      refine x_iload 144 C dX12_morning_142 rfl rfl ?_
                      refine x_ishr (((G1 >>> q.1 : Nat) : Int)) 145 C dX12_morning_144 rfl (sr1 G1 hG1 q.1 (by omega)) ?_
                      refine x_iconst 146 C dX12_morning_145 rfl ?_
                      refine x_iand ((if G1.testBit q.1 then 1 else 0)) 147 C dX12_morning_146 rfl (an1 G1 hG1 q.1 (by omega)) ?_
                      refine x_if_ne 186 150 C dX12_morning_147 rfl rfl (by split <;> omega) (fun h147 => ?_) (fun h147 => ?_)
                      · have hbt : G1.testBit q.1 = true := by
                          cases hb : G1.testBit q.1 with
                          | true => rfl
                          | false => rw [hb] at h147; exact absurd rfl h147
                        have hj5 : KM σ sv ∧ KV X N sv ∧ MHL X σ sv ∧ (∀ q, q ≠ s → sv 69 q = sw 69 q ∧ sv 70 q = sw 70 q) ∧ fndI L G1 (j + 1) (G1 : Int) (sv 69 s) (sv 70 s) := ⟨hK3, hV3, hML3, hot, Or.inl ⟨f1, rfl, by rw [hdr, frst_no hbt] at f3; exact f3⟩⟩
                        first | exact J186 _ _ _ hj5 | (rw [hsn]; exact J186 _ _ _ ⟨KM_up (KM_up hK3 (by omega)) (by omega), KV_keep hV3 (by rw [up_row (by omega), up_row (by omega)]) (by rw [up_row (by omega), up_row (by omega)]), MHL_row hML3 (by rw [up_row (by omega), up_row (by omega)]) (by rw [up_row (by omega), up_row (by omega)]) (by rw [up_row (by omega), up_row (by omega)]), (fun x hx => by rw [up_r (show (69 : Nat) ≠ 70 by omega), up_i hx, up_i hx, up_r (show (70 : Nat) ≠ 69 by omega)]; exact hot x hx), Or.inr ⟨q, by rw [← f3, hdr, frst_yes hbt], by rw [up_r (by omega), up_s], up_s, rfl⟩⟩)
                      have hbt : G1.testBit q.1 = false := by
                        cases hb : G1.testBit q.1 with
                        | false => rfl
                        | true => rw [hb] at h147; exact absurd h147 (by decide)
                      refine x_iload_n 151 C dX12_morning_150 rfl rfl rfl ?_
                      refine x_iconst 152 C dX12_morning_151 rfl ?_
                      refine x_iload 154 C dX12_morning_152 rfl rfl ?_
                      refine x_ishl (((2 ^ q.1 : Nat) : Int)) 155 C dX12_morning_154 rfl (sh1 q.1 (by omega)) ?_
                      refine x_ior (((G1 ||| 2 ^ q.1 : Nat) : Int)) 156 C dX12_morning_155 rfl (or1 G1 hG1 q.1 (by omega)) ?_
                      refine x_istore_n2 157 C dX12_morning_156 rfl rfl ?_
                      refine x_aload_n 158 C dX12_morning_157 rfl rfl rfl ?_
                      refine x_getr (j := 39) 161 C rfl (lt79 (by decide)) rfl rfl (by decide) inT12 tb_4_173 rfl dX12_morning_158 rfl ?_
                      refine x_iload 163 C dX12_morning_161 rfl rfl ?_
                      refine x_iload 165 C dX12_morning_163 rfl rfl ?_
                      refine x_iast 166 C rfl (lt79 (by decide)) dX12_morning_165 rfl (by omega) (by omega) (by omega) ?_
                      refine x_aload_n 167 C dX12_morning_166 rfl rfl rfl ?_
                      refine x_getr (j := 40) 170 C rfl (lt79 (by decide)) rfl rfl (by decide) inT12 tb_4_174 rfl dX12_morning_167 rfl ?_
                      refine x_iload 172 C dX12_morning_170 rfl rfl ?_
                      refine x_aload_n 173 C dX12_morning_172 rfl rfl rfl ?_
                      refine x_getr (j := 37) 176 C rfl (lt79 (by decide)) rfl rfl (by decide) inT12 tb_4_171 rfl dX12_morning_173 rfl ?_
                      refine x_bipush 178 C dX12_morning_176 rfl rfl ?_
                      refine x_iload 180 C dX12_morning_178 rfl rfl ?_
                      refine x_imul 181 C dX12_morning_180 rfl ?_
                      refine x_iload 183 C dX12_morning_181 rfl rfl ?_
                      refine x_iadd 184 C dX12_morning_183 rfl ?_
                      refine x_iald 185 C rfl (lt79 (by decide)) dX12_morning_184 rfl (by omega) (by omega) (fun r184 => ?_)
                      rw [hix, show (up sv 69 (s : Int).toNat (q.1 : Int)) 67 (6 * s + j) = (q.2 : Int) by rw [up_r (by omega), p2]] at r184 ⊢
                      refine x_iast 186 C rfl (lt79 (by decide)) dX12_morning_185 rfl (by omega) (by omega) (by omega) ?_
                      first | exact J186 _ _ _ hj5 | (rw [hsn]; exact J186 _ _ _ ⟨KM_up (KM_up hK3 (by omega)) (by omega), KV_keep hV3 (by rw [up_row (by omega), up_row (by omega)]) (by rw [up_row (by omega), up_row (by omega)]), MHL_row hML3 (by rw [up_row (by omega), up_row (by omega)]) (by rw [up_row (by omega), up_row (by omega)]) (by rw [up_row (by omega), up_row (by omega)]), (fun x hx => by rw [up_r (show (69 : Nat) ≠ 70 by omega), up_i hx, up_i hx, up_r (show (70 : Nat) ≠ 69 by omega)]; exact hot x hx), Or.inr ⟨q, by rw [← f3, hdr, frst_yes hbt], by rw [up_r (by omega), up_s], up_s, rfl⟩⟩)
                  exact L103 _ 0 _ _ _ _ rfl ⟨by omega, rfl, hK2, hV2, hML, fun q _ => ⟨rfl, rfl⟩, Or.inl ⟨hun0, rfl, rfl⟩⟩
                have J87 : ∀ (w2 : Int), (selI (cM σ) D1 (k + 1) w2) → Ex K G (NN tc) ρ (shp tc cl) 87 [some (.ref (ρ 51)), some (.int (iZ (D1 : Int))), some (.int (iZ (G1 : Int))), some (.int (iZ (i : Int))), some (.int (iZ w2)), some (.int (iZ (k : Int))), x6] [] sw := by
                  intro w2 hinv
                  have hsel2 := hinv
                  have hwr2 := selI_in hinv
                  refine x_iinc_5 90 C dX12_morning_87 rfl rfl ?_
                  refine x_goto 48 C dX12_morning_90 rfl ?_
                  exact ih _ (by omega) (k + 1) _ _ rfl ⟨by omega, by omega, hsel2⟩
                refine x_iload_n 58 C dX12_morning_57 rfl rfl rfl ?_
                refine x_iload 60 C dX12_morning_58 rfl rfl ?_
                refine x_ishr (((D1 >>> k : Nat) : Int)) 61 C dX12_morning_60 rfl (sr1 D1 hD1 k (by omega)) ?_
                refine x_iconst 62 C dX12_morning_61 rfl ?_
                refine x_iand ((if D1.testBit k then 1 else 0)) 63 C dX12_morning_62 rfl (an1 D1 hD1 k (by omega)) ?_
                refine x_if_ne 87 66 C dX12_morning_63 rfl rfl (by split <;> omega) (fun h63 => ?_) (fun h63 => ?_)
                · have hbt : D1.testBit k = true := by
                    cases hb : D1.testBit k with
                    | true => rfl
                    | false => rw [hb] at h63; exact absurd rfl h63
                  have hsel := selI_skip hsl hbt
                  exact J87 _ hsel
                have hbt : D1.testBit k = false := by
                  cases hb : D1.testBit k with
                  | false => rfl
                  | true => rw [hb] at h63; exact absurd h63 (by decide)
                refine x_iload 68 C dX12_morning_66 rfl rfl ?_
                refine x_iconst 69 C dX12_morning_68 rfl ?_
                refine x_icmp_eq 83 72 C dX12_morning_69 rfl rfl (by omega) (by omega) (fun h69 => ?_) (fun h69 => ?_)
                · have hsel := selI_new (by rw [← h69]; exact hsl) hbt
                  refine x_iload 85 C dX12_morning_83 rfl rfl ?_
                  refine x_istore_4 87 C dX12_morning_85 rfl rfl ?_
                  exact J87 _ hsel
                obtain ⟨a, rfl, hak⟩ := selI_nat hsl h69
                refine x_aload_n 73 C dX12_morning_72 rfl rfl rfl ?_
                refine x_iload 75 C dX12_morning_73 rfl rfl ?_
                refine x_iload 77 C dX12_morning_75 rfl rfl ?_
                refine x_callVe 80 C dX12_morning_77 rfl (c_X12_ahead (a := k) (b := a) hT2 (by omega) (by omega)) rfl (lt79 (by decide)) rfl tb_5_238 tb_6_0 tb_0_61 tb_1_20 tb_6_1 (na := 2) (by decide +kernel) rfl ⟨by decide, by decide⟩ rfl (Nat.le_of_ble_eq_true rfl) rfl (fun r77 => ?_)
                rw [fcM]
                first
                  | refine x_ifb_eq 87 83 C dX12_morning_80 rfl rfl (fun h80 => ?_) (fun h80 => ?_)
                  | refine x_if_eq 87 83 C dX12_morning_80 rfl rfl (by omega) (fun h80 => ?_) (fun h80 => ?_)
                · have hsel := selI_worse hsl hbt h80
                  exact J87 _ hsel
                have hsel := selI_better hsl hbt h80
                refine x_iload 85 C dX12_morning_83 rfl rfl ?_
                refine x_istore_4 87 C dX12_morning_85 rfl rfl ?_
                exact J87 _ hsel
            exact L48 _ 0 _ _ rfl ⟨by omega, rfl, selI_0⟩
        exact L34 _ 0 _ _ _ _ _ _ _ rfl ⟨by omega, rfl, rfl, rfl, hK1, hV1, fun q hq => (hd q (by omega)).1, fun j hj => absurd hj (by omega), fun j _ hj => (hd _ (by have := ordN_lt (T := cM σ) (i := j) (by rw [slN_M]; omega); rw [slN_M] at this; omega)).2⟩
      refine x_aload_n 15 C dX12_morning_14 rfl rfl rfl ?_
      refine x_iload_n 16 C dX12_morning_15 rfl rfl rfl ?_
      refine x_callVv 19 C dX12_morning_16 rfl (c_X12_looks (X := X) (N := N) (s := s) hW1 (by omega)) rfl (lt79 (by decide)) rfl tb_5_208 tb_5_210 tb_0_56 tb_1_20 tb_5_211 (na := 1) (by decide +kernel) rfl ⟨by decide, by decide⟩ rfl (Nat.le_of_ble_eq_true rfl) rfl (fun s16 hq16 hR16 => ?_)
      obtain ⟨k1, k2, k3, k4⟩ := hq16
      rw [ecM] at k4
      refine x_aload_n 20 C dX12_morning_19 rfl rfl rfl ?_
      refine x_getr (j := 39) 23 C rfl (lt79 (by decide)) rfl rfl (by decide) inT12 tb_4_173 rfl dX12_morning_20 rfl ?_
      refine x_iload_n 24 C dX12_morning_23 rfl rfl rfl ?_
      refine x_iconst 25 C dX12_morning_24 rfl ?_
      refine x_iast 26 C rfl (lt79 (by decide)) dX12_morning_25 rfl (by omega) (by omega) (by omega) ?_
      refine x_iinc_3 29 C dX12_morning_26 rfl rfl ?_
      refine x_goto 6 C dX12_morning_29 rfl ?_
      refine ih _ (by omega) (s + 1) _ _ rfl ⟨by omega, by omega, KM_up (KM_trans hK1 k1) (by omega), KV_keep k2 (up_row (by omega)) (up_row (by omega)), fun q hq => ?_⟩
      rw [hss]
      by_cases hqe : q = s
      · subst hqe
        exact ⟨MLa_row k4 (up_row (by omega)) (up_row (by omega)) (up_row (by omega)), up_s⟩
      · obtain ⟨d1, d2⟩ := hd q (by omega)
        refine ⟨MLa_row (MLa_other d1 k3 hqe (seenM_le hT q)) (up_row (by omega)) (up_row (by omega)) (up_row (by omega)), ?_⟩
        rw [up_i hqe, k3.2.2.1]
        exact d2
  exact L6 _ 0 _ _ rfl ⟨by omega, rfl, KM_refl σ, hW.2.2.2, fun q hq => absurd hq (by omega)⟩
