/-! each call of the law: the class, then the model -/
abbrev R32 (x : Int) : Prop := -2147483648 ≤ x ∧ x ≤ 2147483647
/-- the class's call, then the model's, with the same answer; and both halves tell the same again -/
def JJ (l : Launch) (yx : MethodName) (cx : ByteArray) (nx fx lx : Nat) (ym : MethodName) (cm : ByteArray) (nm fm lm : Nat) (ret : FieldType) (W : Int → Value) (G : Gt) (ρ : Nat → Nat) (X : Nat → RuT) (tc : Nat) (cl : Nat → Nat) (as : List Value) (σ : Sig) : Prop :=
  ∃ P, MX l yx cx nx (some ret) fx lx G (NN tc) ρ (shp tc cl) (.ref (ρ 0) :: as) σ P ∧ ∀ r σ1, P r σ1 → ∃ z, r = some (W z) ∧ ∃ P2, MX l ym cm nm (some ret) fm lm G (NN tc) ρ (shp tc cl) (.ref (ρ 51) :: as) σ1 P2 ∧ ∀ r2 σ2, P2 r2 σ2 → r2 = some (W z) ∧ RR X tc cl σ2
def WI (z : Int) : Value := .int (iZ z)
def WL2 (z : Int) : Value := .long (lZ z)
section JR
variable {l : Launch} {G : Gt} {ρ : Nat → Nat} {X : Nat → RuT} {tc : Nat} {cl : Nat → Nat} {σ σ1 σ2 : Sig}
theorem cM_Kp (hR : RR X tc cl σ) (h : Kp 33 41 σ σ1) : cM σ1 = cT σ := ((RR_Kp hR h).2.2.1).symm.trans (Kp_cT h (by omega))
theorem cM_FB (hR : RR X tc cl σ) (h : FB σ σ1) : cM σ1 = cM σ := by
  unfold cM
  rw [mT_keep (fun a h1 h2 => h.1 a (by omega) (by omega) (by omega)) (fun b hb => by rw [h.1 51 (by omega) (by omega) (by omega)])]
theorem Kp_Im {s1 s2 : Sig} (h : Kp 33 41 s1 s2) : ∀ a b, Im a b → s2 a b = s1 a b := fun a b hI => congrFun (h a (by unfold Im at hI; omega) (by unfold Im at hI; omega)) b
theorem cell_row {s q v : Int} : ∀ a, ¬ (47 ≤ a ∧ a ≤ 50) → (nX_cell σ s q v) a = σ a := fun a ha => funext fun b => by
  unfold nX_cell
  split
  · exact up_r (by omega)
  · rfl
theorem heights_row {s q f n : Int} : ∀ a, a ≠ 2 → (nX_heights σ s q f n) a = σ a := fun a ha => funext fun b => by
  unfold nX_heights
  split
  · exact rowS_r ha
  · rfl
theorem feed_row {v : Int} (h28 : 0 ≤ σ 28 1) : ∀ a, a ≠ 28 → a ≠ 29 → (nX_feed σ v) a = σ a := fun a h1 h2 => funext fun b => by
  unfold nX_feed
  split
  · rw [up_r (by omega), up_r (by omega)]
  · rfl
theorem force_row {v : Int} : ∀ a, a ≠ 1 → (if 0 ≤ v ∧ v < σ 0 6 then up σ 1 2 v else σ) a = σ a := fun a ha => by
  split
  · exact up_row ha
  · rfl
theorem J_town (hR : RR X tc cl σ) {a b c : Int} (ha : R32 a) (hb : R32 b) (hc : R32 c) : JJ l yX11_town cX11_town 5 1 21 yX12_town cX12_town 5 2 45 .int WI G ρ X tc cl [.int (iZ a), .int (iZ b), .int (iZ c)] σ := by
  refine ⟨_, c_X11_town ha hb hc , fun r σ1 hp => ?_⟩
  obtain ⟨z, rfl, hz, rfl, rfl⟩ := hp
  refine ⟨_, rfl, _, c_X12_town ha hb hc , fun r2 σ2 hp2 => ?_⟩
  obtain ⟨z2, rfl, hz2, rfl, rfl⟩ := hp2
  exact ⟨congrArg (fun z => some (WI z)) (R_town hR).1, (R_town hR).2⟩
theorem J_high (hR : RR X tc cl σ) {a : Int} (ha : R32 a) : JJ l yX11_high cX11_high 2 1 21 yX12_high cX12_high 2 2 45 .int WI G ρ X tc cl [.int (iZ a)] σ := by
  have e : (if 0 ≤ a ∧ a < 36 then σ 2 a.toNat else -2) = (if 0 ≤ a ∧ a < 36 then σ 55 a.toNat else -2) := by rw [(town_eq hR).2.2.2.2.1 a.toNat |>.1]
  refine ⟨_, c_X11_high ha , fun r σ1 hp => ?_⟩
  obtain ⟨rfl, hz, rfl⟩ := hp
  refine ⟨_, rfl, _, c_X12_high ha , fun r2 σ2 hp2 => ?_⟩
  obtain ⟨rfl, hz2, rfl⟩ := hp2
  exact ⟨congrArg (fun z => some (WI z)) e.symm, hR⟩
theorem J_thing (hR : RR X tc cl σ) {a b c : Int} (ha : R32 a) (hb : R32 b) (hc : R32 c) : JJ l yX11_thing cX11_thing 5 1 21 yX12_thing cX12_thing 4 2 45 .int WI G ρ X tc cl [.int (iZ a), .int (iZ b), .int (iZ c)] σ := by
  refine ⟨_, c_X11_thing ha hb hc hR.1.1, fun r σ1 hp => ?_⟩
  obtain ⟨z, rfl, hz, rfl, rfl⟩ := hp
  refine ⟨_, rfl, _, c_X12_thing ha hb hc (mod_c hR fr_thing).1.1, fun r2 σ2 hp2 => ?_⟩
  obtain ⟨z2, rfl, hz2, rfl, rfl⟩ := hp2
  exact ⟨congrArg (fun z => some (WI z)) (R_thing hR).1, (R_thing hR).2⟩
theorem J_sleeper (hR : RR X tc cl σ) {a b c : Int} (ha : R32 a) (hb : R32 b) (hc : R32 c) : JJ l yX11_sleeper cX11_sleeper 5 1 21 yX12_sleeper cX12_sleeper 4 2 45 .int WI G ρ X tc cl [.int (iZ a), .int (iZ b), .int (iZ c)] σ := by
  refine ⟨_, c_X11_sleeper ha hb hc hR.1.1, fun r σ1 hp => ?_⟩
  obtain ⟨z, rfl, hz, rfl, rfl⟩ := hp
  refine ⟨_, rfl, _, c_X12_sleeper ha hb hc (mod_c hR fr_sleeper).1.1, fun r2 σ2 hp2 => ?_⟩
  obtain ⟨z2, rfl, hz2, rfl, rfl⟩ := hp2
  exact ⟨congrArg (fun z => some (WI z)) (R_sleeper hR).1, (R_sleeper hR).2⟩
theorem J_set (hR : RR X tc cl σ) {a b c : Int} (ha : R32 a) (hb : R32 b) (hc : R32 c) : JJ l yX11_set cX11_set 7 2 43 yX12_set cX12_set 5 2 46 .int WI G ρ X tc cl [.int (iZ a), .int (iZ b), .int (iZ c)] σ := by
  refine ⟨_, c_X11_set ha hb hc hR.1.1, fun r σ1 hp => ?_⟩
  obtain ⟨z, rfl, hz, rfl, rfl⟩ := hp
  refine ⟨_, rfl, _, c_X12_set ha hb hc (mod_c hR (fun p q h => fr_set p q (by omega))).1.1, fun r2 σ2 hp2 => ?_⟩
  obtain ⟨z2, rfl, hz2, rfl, rfl⟩ := hp2
  exact ⟨congrArg (fun z => some (WI z)) (R_set hR).1, (R_set hR).2⟩
theorem J_told (hR : RR X tc cl σ) {a b : Int} (ha : R32 a) (hb : R32 b) : JJ l yX11_told cX11_told 3 2 43 yX12_told cX12_told 3 2 46 .int WI G ρ X tc cl [.int (iZ a), .int (iZ b)] σ := by
  have e : (if 0 ≤ b ∧ b ≤ 7 ∧ 0 ≤ a ∧ a < (if b ≤ 3 then σ 1 3 else σ 1 8) then σ (3 + b.toNat) a.toNat else -2) = (if 0 ≤ b ∧ b ≤ 7 ∧ 0 ≤ a ∧ a < (if b ≤ 3 then σ 51 13 else σ 51 18) then mT σ (3 + b.toNat) a.toNat else -2) := by
    obtain ⟨g1, g2, g3, g4, g5, g6, g7⟩ := town_eq hR
    rw [g3, g4]
    by_cases h : 0 ≤ b ∧ b ≤ 7 ∧ 0 ≤ a ∧ a < (if b ≤ 3 then σ 51 13 else σ 51 18)
    · rw [if_pos h, if_pos h]
      obtain ⟨g51, g52, g53, g54, g55, g56, g57⟩ := g5 a.toNat
      obtain ⟨h1, h2, h3, h4⟩ := h
      have hb : b = 0 ∨ b = 1 ∨ b = 2 ∨ b = 3 ∨ b = 4 ∨ b = 5 ∨ b = 6 ∨ b = 7 := by omega
      rcases hb with rfl | rfl | rfl | rfl | rfl | rfl | rfl | rfl
      · exact g52
      · exact g53
      · exact g54
      · exact g6 a.toNat (by rw [if_pos (by decide)] at h4; omega)
      · exact g55
      · exact g56
      · exact g57
      · exact g7 a.toNat (by rw [if_neg (by decide)] at h4; omega)
    · rw [if_neg h, if_neg h]
  refine ⟨_, c_X11_told ha hb hR.1.1, fun r σ1 hp => ?_⟩
  obtain ⟨rfl, hz, rfl⟩ := hp
  refine ⟨_, rfl, _, c_X12_told ha hb hR.2.1.1, fun r2 σ2 hp2 => ?_⟩
  obtain ⟨rfl, hz2, rfl⟩ := hp2
  exact ⟨congrArg (fun z => some (WI z)) e.symm, hR⟩
theorem J_where (hR : RR X tc cl σ) {a b : Int} (ha : R32 a) (hb : R32 b) : JJ l yX11_where cX11_where 3 3 80 yX12_where cX12_where 3 2 46 .int WI G ρ X tc cl [.int (iZ a), .int (iZ b)] σ := by
  have e : (if 0 ≤ a ∧ a < σ 1 3 ∧ 0 ≤ b ∧ b < 24 then whereF (σ 6 a.toNat) (σ 3 a.toNat) (σ 5 a.toNat) b else -2) = (if 0 ≤ a ∧ a < σ 51 13 ∧ 0 ≤ b ∧ b < 24 then whereF (σ 56 a.toNat) (σ 57 a.toNat) (σ 59 a.toNat) b else -2) := by
    obtain ⟨g1, g2, g3, g4, g5, g6, g7⟩ := town_eq hR
    obtain ⟨g51, g52, g53, g54, g55, g56, g57⟩ := g5 a.toNat
    by_cases h : 0 ≤ a ∧ a < σ 1 3 ∧ 0 ≤ b ∧ b < 24
    · rw [if_pos h, if_pos (by omega), g6 a.toNat (by omega), g52, g54]
    · rw [if_neg h, if_neg (by omega)]
  refine ⟨_, c_X11_where ha hb hR.1.1, fun r σ1 hp => ?_⟩
  obtain ⟨rfl, hz, rfl⟩ := hp
  refine ⟨_, rfl, _, c_X12_where ha hb hR.2.1.1, fun r2 σ2 hp2 => ?_⟩
  obtain ⟨rfl, hz2, rfl⟩ := hp2
  exact ⟨congrArg (fun z => some (WI z)) e.symm, hR⟩
theorem J_feed (hR : RR X tc cl σ) {a : Int} (ha : R32 a) : JJ l yX11_feed cX11_feed 2 1 21 yX12_feed cX12_feed 2 1 25 .int WI G ρ X tc cl [.int (iZ a)] σ := by
  have hs : 0 ≤ σ 28 1 ∧ σ 28 1 ≤ 160 := by
    obtain ⟨n, p1, p2, p3, p4⟩ := hR.2.2.2.2.1
    omega
  have hm : 0 ≤ nX_feed σ a 51 6 ∧ nX_feed σ a 51 6 ≤ 160 := by
    rw [feed_row hs.1 51 (by omega) (by omega)]
    obtain ⟨n, p1, p2, p3, p4⟩ := hR.2.2.2.2.1
    omega
  refine ⟨_, c_X11_feed ha hs, fun r σ1 hp => ?_⟩
  obtain ⟨z, rfl, hz, rfl, rfl⟩ := hp
  refine ⟨_, rfl, _, c_X12_feed ha hm, fun r2 σ2 hp2 => ?_⟩
  obtain ⟨z2, rfl, hz2, rfl, rfl⟩ := hp2
  exact ⟨congrArg (fun z => some (WI z)) (R_feed hR).1, (R_feed hR).2⟩
theorem J_force (hR : RR X tc cl σ) {a : Int} (ha : R32 a) : JJ l yX11_force cX11_force 3 1 21 yX12_force cX12_force 3 1 25 .int WI G ρ X tc cl [.int (iZ a)] σ := by
  refine ⟨_, c_X11_force ha, fun r σ1 hp => ?_⟩
  obtain ⟨z, rfl, hz, q⟩ := hp
  have hc : 0 ≤ σ1 51 3 ∧ σ1 51 3 ≤ 6 := by
    rw [q.2, force_row 51 (by omega), hR.2.2.2.1.2.1]
    have := hR.1.2.1.1
    omega
  refine ⟨_, rfl, _, c_X12_force ha hc, fun r2 σ2 hp2 => ?_⟩
  obtain ⟨z2, rfl, hz2, q2⟩ := hp2
  obtain ⟨e, hR2⟩ := R_force hR q.2 q2.2
  exact ⟨by rw [q2.1, e, ← q.1]; rfl, hR2⟩
theorem J_seen (hR : RR X tc cl σ) {a b : Int} (ha : R32 a) (hb : R32 b) : JJ l yX11_seen cX11_seen 3 5 129 yX12_seen cX12_seen 3 55 1327 .int WI G ρ X tc cl [.int (iZ a), .int (iZ b)] σ := by
  refine ⟨_, c_X11_seen hR.1 ha hb, fun r σ1 hp => ?_⟩
  obtain ⟨z, rfl, hz, q⟩ := hp
  refine ⟨_, rfl, _, c_X12_seen (RR_Kp hR q.1).2.1 ha hb, fun r2 σ2 hp2 => ?_⟩
  obtain ⟨z2, rfl, hz2, q2⟩ := hp2
  obtain ⟨k1, rfl⟩ := q
  obtain ⟨k2, v2, rfl⟩ := q2
  refine ⟨?_, RR_KM (RR_Kp hR k1) k2 v2⟩
  rw [cM_Kp hR k1]
  rfl
theorem J_has (hR : RR X tc cl σ) {a : Int} (ha : R32 a) : JJ l yX11_has cX11_has 2 6 150 yX12_has cX12_has 2 56 1353 .int WI G ρ X tc cl [.int (iZ a)] σ := by
  refine ⟨_, c_X11_has hR.1 ha, fun r σ1 hp => ?_⟩
  obtain ⟨z, rfl, hz, q⟩ := hp
  refine ⟨_, rfl, _, c_X12_has (RR_Kp hR q.1).2.1 ha, fun r2 σ2 hp2 => ?_⟩
  obtain ⟨z2, rfl, hz2, q2⟩ := hp2
  obtain ⟨k1, rfl⟩ := q
  obtain ⟨k2, v2, rfl⟩ := q2
  refine ⟨?_, RR_KM (RR_Kp hR k1) k2 v2⟩
  rw [cM_Kp hR k1]
  rfl
theorem J_whose (hR : RR X tc cl σ) {a : Int} (ha : R32 a) : JJ l yX11_whose cX11_whose 3 6 150 yX12_whose cX12_whose 3 56 1353 .int WI G ρ X tc cl [.int (iZ a)] σ := by
  refine ⟨_, c_X11_whose hR.1 ha, fun r σ1 hp => ?_⟩
  obtain ⟨z, rfl, hz, q⟩ := hp
  refine ⟨_, rfl, _, c_X12_whose (RR_Kp hR q.1).2.1 ha, fun r2 σ2 hp2 => ?_⟩
  obtain ⟨z2, rfl, hz2, q2⟩ := hp2
  obtain ⟨k1, rfl⟩ := q
  obtain ⟨k2, v2, rfl⟩ := q2
  refine ⟨?_, RR_KM (RR_Kp hR k1) k2 v2⟩
  rw [cM_Kp hR k1]
  rfl
theorem J_left (hR : RR X tc cl σ) {a : Int} (ha : R32 a) : JJ l yX11_left cX11_left 2 6 150 yX12_left cX12_left 2 56 1353 .int WI G ρ X tc cl [.int (iZ a)] σ := by
  refine ⟨_, c_X11_left hR.1 ha, fun r σ1 hp => ?_⟩
  obtain ⟨z, rfl, hz, q⟩ := hp
  refine ⟨_, rfl, _, c_X12_left (RR_Kp hR q.1).2.1 ha, fun r2 σ2 hp2 => ?_⟩
  obtain ⟨z2, rfl, hz2, q2⟩ := hp2
  obtain ⟨k1, rfl⟩ := q
  obtain ⟨k2, v2, rfl⟩ := q2
  refine ⟨?_, RR_KM (RR_Kp hR k1) k2 v2⟩
  rw [cM_Kp hR k1]
  rfl
theorem J_best (hR : RR X tc cl σ) {a b c : Int} (ha : R32 a) (hb : R32 b) (hc : R32 c) : JJ l yX11_best cX11_best 4 7 183 yX12_best cX12_best 4 57 1381 .int WI G ρ X tc cl [.int (iZ a), .int (iZ b), .int (iZ c)] σ := by
  refine ⟨_, c_X11_best hR.1 ha hb hc, fun r σ1 hp => ?_⟩
  obtain ⟨z, rfl, hz, k1, q, q0⟩ := hp
  refine ⟨_, rfl, _, c_X12_best (RR_FB hR k1).2.1 ha hb hc, fun r2 σ2 hp2 => ?_⟩
  obtain ⟨z2, rfl, hz2, k2, v2, q2, q20⟩ := hp2
  have e : z = z2 := by
    have e8 : σ 1 8 = σ 51 18 := congrFun (congrFun hR.2.2.1 1) 8
    rw [FB_Im k1 51 18 (by unfold Im; omega), ← e8] at q2 q20
    rw [cM_FB hR k1, ← hR.2.2.1] at q2
    by_cases hc : (0 ≤ a ∧ a < σ 1 8) ∧ (0 ≤ b ∧ b < 3) ∧ (0 ≤ c ∧ c < 3)
    · obtain ⟨bm, bw, bl, B, e1⟩ := q hc
      obtain ⟨bm', bw', bl', B', e2⟩ := q2 hc
      obtain ⟨rfl, rfl, rfl⟩ := Bst_uni B B'
      rw [e1, e2]
    · rw [q0 hc, q20 hc]
  exact ⟨by rw [← e]; rfl, RR_KX HB_Im (RR_FB hR k1) k2 v2⟩
theorem J_turn (hR : RR X tc cl σ) {a : Int} (ha : R32 a) : JJ l yX11_turn cX11_turn 2 7 183 yX12_turn cX12_turn 2 57 1381 .int WI G ρ X tc cl [.int (iZ a)] σ := by
  refine ⟨_, c_X11_turn hR.1 ha, fun r σ1 hp => ?_⟩
  obtain ⟨z, rfl, hz, q⟩ := hp
  refine ⟨_, rfl, _, c_X12_turn (mod_row hR (fun a ha => turn_row q a (by omega) (by omega))).1 ha, fun r2 σ2 hp2 => ?_⟩
  obtain ⟨z2, rfl, hz2, q2⟩ := hp2
  obtain ⟨e, hR2⟩ := R_turn hR q q2
  exact ⟨by rw [← e]; rfl, hR2⟩
theorem J_rest (hR : RR X tc cl σ) : JJ l yX11_rest cX11_rest 3 7 183 yX12_rest cX12_rest 3 57 1381 .int WI G ρ X tc cl [] σ := by
  refine ⟨_, c_X11_rest hR.1, fun r σ1 hp => ?_⟩
  obtain ⟨z, rfl, hz, k1, q⟩ := hp
  refine ⟨_, rfl, _, c_X12_rest (RR_FB hR k1).2.1, fun r2 σ2 hp2 => ?_⟩
  obtain ⟨z2, rfl, hz2, k2, v2, q2⟩ := hp2
  have e : z = z2 := by
    rw [cM_FB hR k1, ← hR.2.2.1] at q2
    rcases q with ⟨q, hq⟩ | ⟨q, hq⟩ <;> rcases q2 with ⟨q2, hq2⟩ | ⟨q2, hq2⟩
    · rw [q, q2]
    · exact absurd hq hq2
    · exact absurd hq2 hq
    · rw [q, q2]
  exact ⟨by rw [← e]; rfl, RR_KX HB_Im (RR_FB hR k1) k2 v2⟩
theorem J_beds (hR : RR X tc cl σ) {a : Int} (ha : R32 a) : JJ l yX11_beds cX11_beds 2 7 175 yX12_beds cX12_beds 8 56 1353 .int WI G ρ X tc cl [.int (iZ a)] σ := by
  refine ⟨_, c_X11_beds hR.1 ha, fun r σ1 hp => ?_⟩
  obtain ⟨z, rfl, hz, k1, q, q0⟩ := hp
  refine ⟨_, rfl, _, c_X12_beds (RR_FB hR k1).2.1 ha, fun r2 σ2 hp2 => ?_⟩
  obtain ⟨z2, rfl, hz2, k2, v2, q2, q20⟩ := hp2
  have e : z = z2 := by
    rw [cM_FB hR k1, ← hR.2.2.1] at q2
    by_cases hc : a = 0 ∨ a = 1
    · obtain ⟨zz, d, B, e1⟩ := q hc
      obtain ⟨zz', d', B', e2⟩ := q2 hc
      obtain ⟨rfl, rfl⟩ := Beds_uni B B'
      rw [e1, e2]
    · rw [q0 hc, q20 hc]
  exact ⟨by rw [← e]; rfl, RR_KX H71_Im (RR_FB hR k1) k2 v2⟩
theorem J_wall (hR : RR X tc cl σ) {a b : Int} (ha : R32 a) (hb : R32 b) : JJ l yX11_wall cX11_wall 7 7 173 yX12_wall cX12_wall 8 56 1353 .int WI G ρ X tc cl [.int (iZ a), .int (iZ b)] σ := by
  refine ⟨_, c_X11_wall hR.1 ha hb, fun r σ1 hp => ?_⟩
  obtain ⟨z, rfl, hz, q⟩ := hp
  refine ⟨_, rfl, _, c_X12_wall (RR_Kp hR q.1).2.1 ha hb, fun r2 σ2 hp2 => ?_⟩
  obtain ⟨z2, rfl, hz2, q2⟩ := hp2
  obtain ⟨k1, rfl⟩ := q
  obtain ⟨k2, v2, rfl⟩ := q2
  refine ⟨?_, RR_KM (RR_Kp hR k1) k2 v2⟩
  rw [cM_Kp hR k1]
  rfl
theorem J_fell (hR : RR X tc cl σ) {a : Int} (ha : R32 a) : JJ l yX11_fell cX11_fell 5 7 173 yX12_fell cX12_fell 6 56 1353 .int WI G ρ X tc cl [.int (iZ a)] σ := by
  refine ⟨_, c_X11_fell hR.1 ha, fun r σ1 hp => ?_⟩
  obtain ⟨z, rfl, hz, q⟩ := hp
  refine ⟨_, rfl, _, c_X12_fell (RR_Kp hR q.1).2.1 ha, fun r2 σ2 hp2 => ?_⟩
  obtain ⟨z2, rfl, hz2, q2⟩ := hp2
  obtain ⟨k1, rfl⟩ := q
  obtain ⟨k2, v2, rfl⟩ := q2
  refine ⟨?_, RR_KM (RR_Kp hR k1) k2 v2⟩
  rw [cM_Kp hR k1]
  rfl
theorem J_turned (hR : RR X tc cl σ) {a b : Int} (ha : R32 a) (hb : R32 b) : JJ l yX11_turned cX11_turned 8 6 155 yX12_turned cX12_turned 9 57 1375 .int WI G ρ X tc cl [.int (iZ a), .int (iZ b)] σ := by
  refine ⟨_, c_X11_turned hR.1 ha hb, fun r σ1 hp => ?_⟩
  obtain ⟨z, rfl, hz, q⟩ := hp
  refine ⟨_, rfl, _, c_X12_turned (RR_Kp hR q.1).2.1 ha hb, fun r2 σ2 hp2 => ?_⟩
  obtain ⟨z2, rfl, hz2, q2⟩ := hp2
  obtain ⟨k1, rfl⟩ := q
  obtain ⟨k2, v2, rfl⟩ := q2
  refine ⟨?_, RR_KM (RR_Kp hR k1) k2 v2⟩
  obtain ⟨f1, f2⟩ := refM_keep (Kp_Im k1) a.toNat
  rw [cM_Kp hR k1, f1, f2, R_turned hR a b, hR.2.2.1]
  rfl
theorem J_woke (hR : RR X tc cl σ) {a b : Int} (ha : R32 a) (hb : R32 b) : JJ l yX11_woke cX11_woke 6 6 155 yX12_woke cX12_woke 7 57 1375 .int WI G ρ X tc cl [.int (iZ a), .int (iZ b)] σ := by
  refine ⟨_, c_X11_woke hR.1 ha hb, fun r σ1 hp => ?_⟩
  obtain ⟨z, rfl, hz, q⟩ := hp
  refine ⟨_, rfl, _, c_X12_woke (RR_Kp hR q.1).2.1 ha hb, fun r2 σ2 hp2 => ?_⟩
  obtain ⟨z2, rfl, hz2, q2⟩ := hp2
  obtain ⟨k1, rfl⟩ := q
  obtain ⟨k2, v2, rfl⟩ := q2
  refine ⟨?_, RR_KM (RR_Kp hR k1) k2 v2⟩
  obtain ⟨f1, f2⟩ := refM_keep (Kp_Im k1) a.toNat
  rw [cM_Kp hR k1, f1, f2, R_woke hR a b, hR.2.2.1]
  rfl
theorem J_judge (hR : RR X tc cl σ) {a : Int} (ha : R32 a) : JJ l yX11_judge cX11_judge 3 6 150 yX12_judge cX12_judge 3 57 1375 .int WI G ρ X tc cl [.int (iZ a)] σ := by
  refine ⟨_, c_X11_judge hR.1 ha, fun r σ1 hp => ?_⟩
  obtain ⟨z, rfl, hz, q⟩ := hp
  refine ⟨_, rfl, _, c_X12_judge (RR_Kp hR q.1).2.1 ha, fun r2 σ2 hp2 => ?_⟩
  obtain ⟨z2, rfl, hz2, q2⟩ := hp2
  obtain ⟨k1, rfl⟩ := q
  obtain ⟨k2, v2, rfl⟩ := q2
  refine ⟨?_, RR_KM (RR_Kp hR k1) k2 v2⟩
  obtain ⟨f1, f2⟩ := refM_keep (Kp_Im k1) a.toNat
  rw [cM_Kp hR k1, f1, f2, R_judge hR a, hR.2.2.1]
  rfl
theorem J_drawn (hR : RR X tc cl σ) {a : Int} (ha : R32 a) : JJ l yX11_drawn cX11_drawn 4 6 150 yX12_drawn cX12_drawn 4 56 1353 .int WI G ρ X tc cl [.int (iZ a)] σ := by
  refine ⟨_, c_X11_drawn hR.1 ha, fun r σ1 hp => ?_⟩
  obtain ⟨z, rfl, hz, q⟩ := hp
  refine ⟨_, rfl, _, c_X12_drawn (RR_Kp hR q.1).2.1 ha, fun r2 σ2 hp2 => ?_⟩
  obtain ⟨z2, rfl, hz2, q2⟩ := hp2
  obtain ⟨k1, rfl⟩ := q
  obtain ⟨k2, v2, rfl⟩ := q2
  refine ⟨?_, RR_KM (RR_Kp hR k1) k2 v2⟩
  rw [cM_Kp hR k1]
  rfl
theorem J_chance (hR : RR X tc cl σ) {a b c d : Int} (ha : R32 a) (hb : R32 b) (hc : R32 c) (hd : R32 d) : JJ l yX11_chance cX11_chance 8 6 150 yX12_chance cX12_chance 14 56 1353 .long WL2 G ρ X tc cl [.int (iZ a), .int (iZ b), .int (iZ c), .int (iZ d)] σ := by
  refine ⟨_, c_X11_chance hR.1 ha hb hc hd, fun r σ1 hp => ?_⟩
  obtain ⟨z, rfl, q⟩ := hp
  refine ⟨_, rfl, _, c_X12_chance (RR_Kp hR q.1).2.1 ha hb hc hd, fun r2 σ2 hp2 => ?_⟩
  obtain ⟨z2, rfl, q2⟩ := hp2
  obtain ⟨k1, rfl⟩ := q
  obtain ⟨k2, v2, rfl⟩ := q2
  refine ⟨?_, RR_KM (RR_Kp hR k1) k2 v2⟩
  rw [cM_Kp hR k1]
  rfl
theorem J_image (hR : RR X tc cl σ) : JJ l yX11_image cX11_image 1 2 63 yX12_image cX12_image 2 0 0 .int WI G ρ X tc cl [] σ := by
  refine ⟨_, c_X11_image hR.1.1, fun r σ1 hp => ?_⟩
  obtain ⟨z, rfl, hz, q⟩ := hp
  refine ⟨_, rfl, _, c_X12_image (mod_row hR (fun a ha => image_row q a (by omega))).1.1, fun r2 σ2 hp2 => ?_⟩
  obtain ⟨z2, rfl, hz2, q2⟩ := hp2
  obtain ⟨e, hR2⟩ := R_image hR q q2
  exact ⟨by rw [← e]; rfl, hR2⟩
theorem J_back (hR : RR X tc cl σ) : JJ l yX11_back cX11_back 1 2 63 yX12_back cX12_back 2 0 0 .int WI G ρ X tc cl [] σ := by
  refine ⟨_, c_X11_back hR.1.1, fun r σ1 hp => ?_⟩
  obtain ⟨z, rfl, hz, q⟩ := hp
  refine ⟨_, rfl, _, c_X12_back (mod_c hR (back_keep q)).1.1 (by rw [back_keep q 51 48 (by omega)]; exact back_k hR), fun r2 σ2 hp2 => ?_⟩
  obtain ⟨z2, rfl, hz2, q2⟩ := hp2
  obtain ⟨e, hR2⟩ := R_back hR q q2
  exact ⟨by rw [← e]; rfl, hR2⟩
theorem J_count (hR : RR X tc cl σ) {a : Int} (ha : R32 a) : JJ l yX11_count cX11_count 2 1 22 yX12_count cX12_count 4 1 25 .int WI G ρ X tc cl [.int (iZ a)] σ := by
  have e : (if a = 0 then σ 1 8 else if a = 1 then σ 1 3 else if a = 2 then cntH (σ 2) 36 else if a = 3 then σ 1 1 else if a = 4 then σ 0 6 else if a = 5 then σ 28 1 else if a = 6 then σ 1 2 else -2) = (if a = 0 then σ 51 18 else if a = 1 then σ 51 13 else if a = 2 then cntH (σ 55) 36 else if a = 3 then σ 51 8 else if a = 4 then σ 51 3 else if a = 5 then σ 51 6 else if a = 6 then σ 51 4 else -2) := by
    obtain ⟨g1, g2, g3, g4, g5, g6, g7⟩ := town_eq hR
    obtain ⟨n, p1, p2, p3, p4⟩ := hR.2.2.2.2.1
    rw [g1, g2, g3, g4, p1, p2, show σ 2 = σ 55 from funext fun b => (g5 b).1, hR.2.2.2.1.1, hR.2.2.2.1.2.1]
  refine ⟨_, c_X11_count ha , fun r σ1 hp => ?_⟩
  obtain ⟨rfl, hz, rfl⟩ := hp
  refine ⟨_, rfl, _, c_X12_count ha , fun r2 σ2 hp2 => ?_⟩
  obtain ⟨rfl, hz2, rfl⟩ := hp2
  exact ⟨congrArg (fun z => some (WI z)) e.symm, hR⟩
theorem J_sheet (hR : RR X tc cl σ) {a b c : Int} (ha : R32 a) (hb : R32 b) (hc : R32 c) : JJ l yX11_sheet cX11_sheet 4 2 45 yX12_sheet cX12_sheet 5 2 45 .int WI G ρ X tc cl [.int (iZ a), .int (iZ b), .int (iZ c)] σ := by
  refine ⟨_, c_X11_sheet ha hb hc , fun r σ1 hp => ?_⟩
  obtain ⟨z, rfl, hz, rfl, rfl⟩ := hp
  refine ⟨_, rfl, _, c_X12_sheet ha hb hc , fun r2 σ2 hp2 => ?_⟩
  obtain ⟨z2, rfl, hz2, rfl, rfl⟩ := hp2
  exact ⟨congrArg (fun z => some (WI z)) (R_sheet hR).1, (R_sheet hR).2⟩
theorem J_cell (hR : RR X tc cl σ) {a b c : Int} (ha : R32 a) (hb : R32 b) (hc : R32 c) : JJ l yX11_cell cX11_cell 5 2 41 yX12_cell cX12_cell 4 2 45 .int WI G ρ X tc cl [.int (iZ a), .int (iZ b), .int (iZ c)] σ := by
  refine ⟨_, c_X11_cell ha hb hc hR.2.2.2.2.2.1.1, fun r σ1 hp => ?_⟩
  obtain ⟨z, rfl, hz, rfl, rfl⟩ := hp
  refine ⟨_, rfl, _, c_X12_cell ha hb hc (mod_row hR (fun a ha => cell_row a (by omega))).2.1, fun r2 σ2 hp2 => ?_⟩
  obtain ⟨z2, rfl, hz2, rfl, rfl⟩ := hp2
  exact ⟨congrArg (fun z => some (WI z)) (R_cell hR).1, (R_cell hR).2⟩
theorem J_copy (hR : RR X tc cl σ) {a b c d e : Int} (ha : R32 a) (hb : R32 b) (hc : R32 c) (hd : R32 d) (he : R32 e) : JJ l yX11_copy cX11_copy 8 2 41 yX12_copy cX12_copy 9 2 45 .int WI G ρ X tc cl [.int (iZ a), .int (iZ b), .int (iZ c), .int (iZ d), .int (iZ e)] σ := by
  refine ⟨_, c_X11_copy ha hb hc hd he hR.2.2.2.2.2.1.1, fun r σ1 hp => ?_⟩
  obtain ⟨z, rfl, hz, q⟩ := hp
  refine ⟨_, rfl, _, c_X12_copy ha hb hc hd he (mod_row hR (fun a ha => copy_keep q a (by omega))).2.1, fun r2 σ2 hp2 => ?_⟩
  obtain ⟨z2, rfl, hz2, q2⟩ := hp2
  obtain ⟨e, hR2⟩ := R_copy hR q q2
  exact ⟨by rw [← e]; rfl, hR2⟩
theorem J_heights (hR : RR X tc cl σ) {a b c d : Int} (ha : R32 a) (hb : R32 b) (hc : R32 c) (hd : R32 d) : JJ l yX11_heights cX11_heights 9 2 41 yX12_heights cX12_heights 8 3 69 .int WI G ρ X tc cl [.int (iZ a), .int (iZ b), .int (iZ c), .int (iZ d)] σ := by
  refine ⟨_, c_X11_heights ha hb hc hd hR.2.2.2.2.2.1.1, fun r σ1 hp => ?_⟩
  obtain ⟨z, rfl, hz, rfl, rfl⟩ := hp
  refine ⟨_, rfl, _, c_X12_heights ha hb hc hd (mod_row hR (fun a ha => heights_row a (by omega))).2.1 (mod_row hR (fun a ha => heights_row a (by omega))).1.1, fun r2 σ2 hp2 => ?_⟩
  obtain ⟨z2, rfl, hz2, rfl, rfl⟩ := hp2
  exact ⟨congrArg (fun z => some (WI z)) (R_heights hR).1, (R_heights hR).2⟩
theorem J_taken (hR : RR X tc cl σ) {a b : Int} (ha : R32 a) (hb : R32 b) : JJ l yX11_taken cX11_taken 3 2 60 yX12_taken cX12_taken 4 2 46 .int WI G ρ X tc cl [.int (iZ a), .int (iZ b)] σ := by
  have e : (if 0 ≤ b ∧ b < 6 then (if 0 ≤ a ∧ a < σ 1 3 then (if b = 0 ∨ σ 6 a.toNat = b ∨ (σ 6 a.toNat = 3 ∧ b = 1) ∨ (σ 6 a.toNat = 4 ∧ b = 2) then σ 5 a.toNat else -13) else -11) else -2) = (if 0 ≤ b ∧ b < 6 then (if 0 ≤ a ∧ a < σ 51 13 then (if b = 0 ∨ σ 56 a.toNat = b ∨ (σ 56 a.toNat = 3 ∧ b = 1) ∨ (σ 56 a.toNat = 4 ∧ b = 2) then σ 59 a.toNat else -13) else -11) else -2) := by
    obtain ⟨g1, g2, g3, g4, g5, g6, g7⟩ := town_eq hR
    obtain ⟨g51, g52, g53, g54, g55, g56, g57⟩ := g5 a.toNat
    rw [g3]
    by_cases h : 0 ≤ a ∧ a < σ 51 13
    · rw [if_pos h, if_pos h, g6 a.toNat (by omega), g54]
    · rw [if_neg h, if_neg h]
  refine ⟨_, c_X11_taken ha hb hR.1.1, fun r σ1 hp => ?_⟩
  obtain ⟨rfl, hz, rfl⟩ := hp
  refine ⟨_, rfl, _, c_X12_taken ha hb hR.2.1.1, fun r2 σ2 hp2 => ?_⟩
  obtain ⟨rfl, hz2, rfl⟩ := hp2
  exact ⟨congrArg (fun z => some (WI z)) e.symm, hR⟩
end JR