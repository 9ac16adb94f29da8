set_option maxHeartbeats 4000000 in
set_option maxRecDepth 100000 in
theorem c_X11_isSheet {l : Launch} {G : Gt} {ρ : Nat → Nat} {tc : Nat} {cl : Nat → Nat} {σ : Sig} {v : Int} (hv : -2147483648 ≤ v ∧ v ≤ 2147483647) : MX l yX11_isSheet cX11_isSheet 1 (some .boolean) 1 21 G (NN tc) ρ (shp tc cl) [.int (iZ v)] σ (PE σ (b2 (0 ≤ v ∧ v < 4))) := by
  refine MX_of [some (.int (iZ v))] (by decide +kernel) rfl rfl (Nat.le_of_ble_eq_true rfl) ?_
  intro K hKl C T hRng
  subst hKl
  refine x_iload_n 1 C dX11_isSheet_0 rfl rfl rfl ?_
  refine x_iconst 2 C dX11_isSheet_1 rfl ?_
  refine x_callSe 5 C dX11_isSheet_2 rfl (c_X11_isWithin (by omega) (by omega)) tb_2_214 tb_2_215 tb_1_1 tb_2_216 (na := 2) (by decide +kernel) rfl ⟨by decide, by decide⟩ rfl (Nat.le_of_ble_eq_true rfl) rfl (fun r2 => ?_)
  refine x_zret C T dX11_isSheet_5 (b2_01 _) ?_
  exact PE_i rfl (b2_in _)

set_option maxHeartbeats 4000000 in
set_option maxRecDepth 100000 in
theorem c_X11_isThing {l : Launch} {G : Gt} {ρ : Nat → Nat} {tc : Nat} {cl : Nat → Nat} {σ : Sig} {v : Int} (hv : -2147483648 ≤ v ∧ v ≤ 2147483647) : MX l yX11_isThing cX11_isThing 2 (some .boolean) 1 21 G (NN tc) ρ (shp tc cl) [.ref (ρ 0), .int (iZ v)] σ (PE σ (b2 (0 ≤ v ∧ v < σ 1 3))) := by
  refine MX_of [some (.ref (ρ 0)), some (.int (iZ v))] (by decide +kernel) rfl rfl (Nat.le_of_ble_eq_true rfl) ?_
  intro K hKl C T hRng
  subst hKl
  refine x_iload_n 1 C dX11_isThing_0 rfl rfl rfl ?_
  refine x_aload_n 2 C dX11_isThing_1 rfl rfl rfl ?_
  refine x_getr (j := 0) 5 C rfl (lt79 (by decide)) rfl rfl (by decide) inT11 tb_2_173 rfl dX11_isThing_2 rfl ?_
  refine x_geti (j := 3) 8 C rfl (lt79 (by decide)) rfl rfl (by decide) inT9 tb_1_45 rfl dX11_isThing_5 rfl (fun r5 => ?_)
  refine x_callSe 11 C dX11_isThing_8 rfl (c_X11_isWithin (by omega) (by omega)) tb_2_214 tb_2_215 tb_1_1 tb_2_216 (na := 2) (by decide +kernel) rfl ⟨by decide, by decide⟩ rfl (Nat.le_of_ble_eq_true rfl) rfl (fun r8 => ?_)
  refine x_zret C T dX11_isThing_11 (b2_01 _) ?_
  exact PE_i rfl (b2_in _)

set_option maxHeartbeats 4000000 in
set_option maxRecDepth 100000 in
theorem c_X11_isSleeper {l : Launch} {G : Gt} {ρ : Nat → Nat} {tc : Nat} {cl : Nat → Nat} {σ : Sig} {v : Int} (hv : -2147483648 ≤ v ∧ v ≤ 2147483647) : MX l yX11_isSleeper cX11_isSleeper 2 (some .boolean) 1 21 G (NN tc) ρ (shp tc cl) [.ref (ρ 0), .int (iZ v)] σ (PE σ (b2 (0 ≤ v ∧ v < σ 1 8))) := by
  refine MX_of [some (.ref (ρ 0)), some (.int (iZ v))] (by decide +kernel) rfl rfl (Nat.le_of_ble_eq_true rfl) ?_
  intro K hKl C T hRng
  subst hKl
  refine x_iload_n 1 C dX11_isSleeper_0 rfl rfl rfl ?_
  refine x_aload_n 2 C dX11_isSleeper_1 rfl rfl rfl ?_
  refine x_getr (j := 0) 5 C rfl (lt79 (by decide)) rfl rfl (by decide) inT11 tb_2_173 rfl dX11_isSleeper_2 rfl ?_
  refine x_geti (j := 8) 8 C rfl (lt79 (by decide)) rfl rfl (by decide) inT9 tb_1_61 rfl dX11_isSleeper_5 rfl (fun r5 => ?_)
  refine x_callSe 11 C dX11_isSleeper_8 rfl (c_X11_isWithin (by omega) (by omega)) tb_2_214 tb_2_215 tb_1_1 tb_2_216 (na := 2) (by decide +kernel) rfl ⟨by decide, by decide⟩ rfl (Nat.le_of_ble_eq_true rfl) rfl (fun r8 => ?_)
  refine x_zret C T dX11_isSleeper_11 (b2_01 _) ?_
  exact PE_i rfl (b2_in _)

set_option maxHeartbeats 4000000 in
set_option maxRecDepth 100000 in
theorem c_X11_kindOf {l : Launch} {G : Gt} {ρ : Nat → Nat} {tc : Nat} {cl : Nat → Nat} {σ : Sig} {v : Int} (hv : 0 ≤ v ∧ v < 6) (hT : TI σ) : MX l yX11_kindOf cX11_kindOf 2 (some (.object "FirstSeen$Thing")) 0 0 G (NN tc) ρ (shp tc cl) [.ref (ρ 0), .int (iZ v)] σ (PR ρ (fun k σ' => σ = σ' ∧ k = 22 + (σ 6 v.toNat).toNat)) := by
  refine MX_of [some (.ref (ρ 0)), some (.int (iZ v))] (by decide +kernel) rfl rfl (Nat.le_of_ble_eq_true rfl) ?_
  intro K hKl C T hRng
  subst hKl
  refine x_aload_n 1 C dX11_kindOf_0 rfl rfl rfl ?_
  refine x_getr (j := 3) 4 C rfl (lt79 (by decide)) rfl rfl (by decide) inT11 tb_2_176 rfl dX11_kindOf_1 rfl ?_
  refine x_aload_n 5 C dX11_kindOf_4 rfl rfl rfl ?_
  refine x_getr (j := 0) 8 C rfl (lt79 (by decide)) rfl rfl (by decide) inT11 tb_2_173 rfl dX11_kindOf_5 rfl ?_
  refine x_getr (j := 7) 11 C rfl (lt79 (by decide)) rfl rfl (by decide) inT9 tb_1_57 rfl dX11_kindOf_8 rfl ?_
  refine x_iload_n 12 C dX11_kindOf_11 rfl rfl rfl ?_
  refine x_iald 13 C rfl (lt79 (by decide)) dX11_kindOf_12 rfl (by omega) (by omega) (fun r12 => ?_)
  have hk := (hT.2.2.2.2 v.toNat).2.2.2.2.1
  refine x_aald0 14 C rfl (lt79 (by decide)) dX11_kindOf_13 rfl (by omega) (by omega) rfl ?_
  refine x_aret C T dX11_kindOf_14 (by simp) ?_
  exact PR_i ⟨rfl, rfl⟩

set_option maxHeartbeats 4000000 in
set_option maxRecDepth 100000 in
theorem c_X11_told {l : Launch} {G : Gt} {ρ : Nat → Nat} {tc : Nat} {cl : Nat → Nat} {σ : Sig} {f w : Int} (hf : -2147483648 ≤ f ∧ f ≤ 2147483647) (hw : -2147483648 ≤ w ∧ w ≤ 2147483647) (hT : TI σ) : MX l yX11_told cX11_told 3 (some .int) 2 43 G (NN tc) ρ (shp tc cl) [.ref (ρ 0), .int (iZ f), .int (iZ w)] σ (PE σ (if 0 ≤ w ∧ w ≤ 7 ∧ 0 ≤ f ∧ f < (if w ≤ 3 then σ 1 3 else σ 1 8) then σ (3 + w.toNat) f.toNat else -2)) := by
  refine MX_of [some (.ref (ρ 0)), some (.int (iZ f)), some (.int (iZ w))] (by decide +kernel) rfl rfl (Nat.le_of_ble_eq_true rfl) ?_
  intro K hKl C T hRng
  subst hKl
  refine x_iload_n 1 C dX11_told_0 rfl rfl rfl ?_
  refine x_if_lt 22 4 C dX11_told_1 rfl rfl (by omega) (fun h1 => ?_) (fun h1 => ?_)
  · refine x_bipush 24 C dX11_told_22 rfl rfl ?_
    refine x_iret C T dX11_told_24 ?_
    exact PE_i (by first | rw [if_pos (by omega)] | rw [if_neg (by omega)]) (by omega)
  refine x_iload_n 5 C dX11_told_4 rfl rfl rfl ?_
  refine x_bipush 7 C dX11_told_5 rfl rfl ?_
  refine x_icmp_gt 22 10 C dX11_told_7 rfl rfl (by omega) (by omega) (fun h7 => ?_) (fun h7 => ?_)
  · refine x_bipush 24 C dX11_told_22 rfl rfl ?_
    refine x_iret C T dX11_told_24 ?_
    exact PE_i (by first | rw [if_pos (by omega)] | rw [if_neg (by omega)]) (by omega)
  refine x_aload_n 11 C dX11_told_10 rfl rfl rfl ?_
  refine x_getr (j := 0) 14 C rfl (lt79 (by decide)) rfl rfl (by decide) inT11 tb_2_173 rfl dX11_told_11 rfl ?_
  refine x_iload_n 15 C dX11_told_14 rfl rfl rfl ?_
  refine x_iload_n 16 C dX11_told_15 rfl rfl rfl ?_
  refine x_callVe 19 C dX11_told_16 rfl (c_X9_owns (by omega) (by omega)) rfl (lt79 (by decide)) rfl tb_2_238 tb_2_239 tb_3_0 tb_1_2 tb_3_1 (na := 2) (by decide +kernel) rfl ⟨by decide, by decide⟩ rfl (Nat.le_of_ble_eq_true rfl) rfl (fun r16 => ?_)
  have hif : (if w ≤ 3 then σ 1 3 else σ 1 8) ≤ 6 := by have := hT.2.2.1; have := hT.2.2.2.1; split <;> omega
  have hif2 : ¬ w ≤ 3 → (if w ≤ 3 then σ 1 3 else σ 1 8) ≤ 5 := fun h => by have := hT.2.2.2.1; rw [if_neg h]; omega
  first
    | refine x_ifb_ne 25 22 C dX11_told_19 rfl rfl (fun h19 => ?_) (fun h19 => ?_)
    | refine x_if_ne 25 22 C dX11_told_19 rfl rfl (by omega) (fun h19 => ?_) (fun h19 => ?_)
  · refine x_aload_n 26 C dX11_told_25 rfl rfl rfl ?_
    refine x_getr (j := 0) 29 C rfl (lt79 (by decide)) rfl rfl (by decide) inT11 tb_2_173 rfl dX11_told_26 rfl ?_
    refine x_iload_n 30 C dX11_told_29 rfl rfl rfl ?_
    refine x_callVr 33 C dX11_told_30 rfl (c_X9_row (by omega)) rfl (lt79 (by decide)) rfl tb_3_3 tb_3_4 tb_3_5 tb_1_2 tb_3_6 (na := 1) (by decide +kernel) rfl ⟨by decide, by decide⟩ rfl (Nat.le_of_ble_eq_true rfl) rfl (fun z30 s30 hq30 hR30 => ?_)
    obtain ⟨rfl, rfl⟩ := hq30
    refine x_iload_n 34 C dX11_told_33 rfl rfl rfl ?_
    obtain ⟨len, hlen, hl5⟩ : ∃ len : Nat, shp tc cl (3 + w.toNat) = cA len ∧ ((len = 6 ∧ w ≤ 3) ∨ len = 5 ∧ ¬ w ≤ 3) := by
      have : w = 0 ∨ w = 1 ∨ w = 2 ∨ w = 3 ∨ w = 4 ∨ w = 5 ∨ w = 6 ∨ w = 7 := by omega
      rcases this with rfl | rfl | rfl | rfl | rfl | rfl | rfl | rfl <;> first | exact ⟨6, rfl, by omega⟩ | exact ⟨5, rfl, by omega⟩
    refine x_iald 35 C hlen (by unfold NN; omega) dX11_told_34 rfl (by omega) (by omega) (fun r34 => ?_)
    refine x_iret C T dX11_told_35 ?_
    exact PE_i (by first | rw [if_pos (by omega)] | rw [if_neg (by omega)]) (by omega)
  refine x_bipush 24 C dX11_told_22 rfl rfl ?_
  refine x_iret C T dX11_told_24 ?_
  exact PE_i (by first | rw [if_pos (by omega)] | rw [if_neg (by omega)]) (by omega)

def rX_set (σ : Sig) (q f v : Int) : Int := if 0 ≤ q ∧ q ≤ 5 ∧ 0 ≤ f ∧ f < (if q ≤ 2 then σ 1 3 else σ 1 8) ∧ 0 ≤ v ∧ v ≤ mostF (if q ≤ 2 then q else q + 1) then σ (3 + (if q ≤ 2 then q else q + 1).toNat) f.toNat else -2
def nX_set (σ : Sig) (q f v : Int) : Sig := if 0 ≤ q ∧ q ≤ 5 ∧ 0 ≤ f ∧ f < (if q ≤ 2 then σ 1 3 else σ 1 8) ∧ 0 ≤ v ∧ v ≤ mostF (if q ≤ 2 then q else q + 1) then up σ (3 + (if q ≤ 2 then q else q + 1).toNat) f.toNat v else σ
set_option maxHeartbeats 4000000 in
set_option maxRecDepth 100000 in
theorem c_X11_set {l : Launch} {G : Gt} {ρ : Nat → Nat} {tc : Nat} {cl : Nat → Nat} {σ : Sig} {q f v : Int} (hq : -2147483648 ≤ q ∧ q ≤ 2147483647) (hf : -2147483648 ≤ f ∧ f ≤ 2147483647) (hv : -2147483648 ≤ v ∧ v ≤ 2147483647) (hT : TI σ) : MX l yX11_set cX11_set 7 (some .int) 2 43 G (NN tc) ρ (shp tc cl) [.ref (ρ 0), .int (iZ q), .int (iZ f), .int (iZ v)] σ (PI (fun z σ' => z = rX_set σ q f v ∧ σ' = nX_set σ q f v)) := by
  refine MX_of [some (.ref (ρ 0)), some (.int (iZ q)), some (.int (iZ f)), some (.int (iZ v)), none, none, none] (by decide +kernel) rfl rfl (Nat.le_of_ble_eq_true rfl) ?_
  intro K hKl C T hRng
  subst hKl
  refine x_iload_n 1 C dX11_set_0 rfl rfl rfl ?_
  refine x_if_lt 9 4 C dX11_set_1 rfl rfl (by omega) (fun h1 => ?_) (fun h1 => ?_)
  · refine x_bipush 11 C dX11_set_9 rfl rfl ?_
    refine x_iret C T dX11_set_11 ?_
    refine PI_i (by omega) ?_
    unfold rX_set nX_set
    first
      | (refine ⟨?_, ?_⟩ <;> rw [if_neg (by omega)]; done)
      | (rw [hwe, ← hif]; refine ⟨?_, ?_⟩ <;> (first | rw [if_pos (by omega)] | rw [if_neg (by omega)]))
  refine x_iload_n 5 C dX11_set_4 rfl rfl rfl ?_
  refine x_iconst 6 C dX11_set_5 rfl ?_
  refine x_icmp_le 12 9 C dX11_set_6 rfl rfl (by omega) (by omega) (fun h6 => ?_) (fun h6 => ?_)
  rotate_left
  · refine x_bipush 11 C dX11_set_9 rfl rfl ?_
    refine x_iret C T dX11_set_11 ?_
    refine PI_i (by omega) ?_
    unfold rX_set nX_set
    first
      | (refine ⟨?_, ?_⟩ <;> rw [if_neg (by omega)]; done)
      | (rw [hwe, ← hif]; refine ⟨?_, ?_⟩ <;> (first | rw [if_pos (by omega)] | rw [if_neg (by omega)]))
  have J24 : ∀ (w : Int), ((q ≤ 2 ∧ w = q) ∨ (¬ q ≤ 2 ∧ w = q + 1)) → Ex K G (NN tc) ρ (shp tc cl) 24 [some (.ref (ρ 0)), some (.int (iZ q)), some (.int (iZ f)), some (.int (iZ v)), none, none, none] [.int (iZ w)] σ := by
    intro w hinv
    have hwe : (if q ≤ 2 then q else q + 1) = w := by split <;> omega
    have hm := mostF_in (q := w) (by omega)
    have hif : (if w ≤ 3 then σ 1 3 else σ 1 8) = (if q ≤ 2 then σ 1 3 else σ 1 8) := by
      by_cases hq2 : q ≤ 2
      · rw [if_pos (by omega), if_pos hq2]
      · rw [if_neg (by omega), if_neg hq2]
    obtain ⟨len, hlen, hl5⟩ : ∃ len : Nat, shp tc cl (3 + w.toNat) = cA len ∧ ((len = 6 ∧ w ≤ 2) ∨ len = 5 ∧ ¬ w ≤ 2) := by
      have : w = 0 ∨ w = 1 ∨ w = 2 ∨ w = 4 ∨ w = 5 ∨ w = 6 := by omega
      rcases this with rfl | rfl | rfl | rfl | rfl | rfl <;> first | exact ⟨6, rfl, by omega⟩ | exact ⟨5, rfl, by omega⟩
    have hb1 : (if q ≤ 2 then σ 1 3 else σ 1 8) ≤ 6 := by have := hT.2.2.1; have := hT.2.2.2.1; split <;> omega
    have hb2 : ¬ q ≤ 2 → (if q ≤ 2 then σ 1 3 else σ 1 8) ≤ 5 := fun h => by have := hT.2.2.2.1; rw [if_neg h]; omega
    refine x_istore_4 26 C dX11_set_24 rfl rfl ?_
    refine x_aload_n 27 C dX11_set_26 rfl rfl rfl ?_
    refine x_getr (j := 0) 30 C rfl (lt79 (by decide)) rfl rfl (by decide) inT11 tb_2_173 rfl dX11_set_27 rfl ?_
    refine x_iload 32 C dX11_set_30 rfl rfl ?_
    refine x_iload_n 33 C dX11_set_32 rfl rfl rfl ?_
    refine x_callVe 36 C dX11_set_33 rfl (c_X9_owns (by omega) (by omega)) rfl (lt79 (by decide)) rfl tb_2_238 tb_2_239 tb_3_0 tb_1_2 tb_3_1 (na := 2) (by decide +kernel) rfl ⟨by decide, by decide⟩ rfl (Nat.le_of_ble_eq_true rfl) rfl (fun r33 => ?_)
    first
      | refine x_ifb_eq 48 39 C dX11_set_36 rfl rfl (fun h36 => ?_) (fun h36 => ?_)
      | refine x_if_eq 48 39 C dX11_set_36 rfl rfl (by omega) (fun h36 => ?_) (fun h36 => ?_)
    · refine x_bipush 50 C dX11_set_48 rfl rfl ?_
      refine x_iret C T dX11_set_50 ?_
      refine PI_i (by omega) ?_
      unfold rX_set nX_set
      first
        | (refine ⟨?_, ?_⟩ <;> rw [if_neg (by omega)]; done)
        | (rw [hwe, ← hif]; refine ⟨?_, ?_⟩ <;> (first | rw [if_pos (by omega)] | rw [if_neg (by omega)]))
    refine x_iload 41 C dX11_set_39 rfl rfl ?_
    refine x_iload_n 42 C dX11_set_41 rfl rfl rfl ?_
    refine x_callSe 45 C dX11_set_42 rfl (c_X11_fits (by omega) (by omega)) tb_2_225 tb_2_226 tb_1_1 tb_2_227 (na := 2) (by decide +kernel) rfl ⟨by decide, by decide⟩ rfl (Nat.le_of_ble_eq_true rfl) rfl (fun r42 => ?_)
    first
      | refine x_ifb_ne 51 48 C dX11_set_45 rfl rfl (fun h45 => ?_) (fun h45 => ?_)
      | refine x_if_ne 51 48 C dX11_set_45 rfl rfl (by omega) (fun h45 => ?_) (fun h45 => ?_)
    rotate_left
    · refine x_bipush 50 C dX11_set_48 rfl rfl ?_
      refine x_iret C T dX11_set_50 ?_
      refine PI_i (by omega) ?_
      unfold rX_set nX_set
      first
        | (refine ⟨?_, ?_⟩ <;> rw [if_neg (by omega)]; done)
        | (rw [hwe, ← hif]; refine ⟨?_, ?_⟩ <;> (first | rw [if_pos (by omega)] | rw [if_neg (by omega)]))
    refine x_aload_n 52 C dX11_set_51 rfl rfl rfl ?_
    refine x_getr (j := 0) 55 C rfl (lt79 (by decide)) rfl rfl (by decide) inT11 tb_2_173 rfl dX11_set_52 rfl ?_
    refine x_iload 57 C dX11_set_55 rfl rfl ?_
    refine x_callVr 60 C dX11_set_57 rfl (c_X9_row (by omega)) rfl (lt79 (by decide)) rfl tb_3_3 tb_3_4 tb_3_5 tb_1_2 tb_3_6 (na := 1) (by decide +kernel) rfl ⟨by decide, by decide⟩ rfl (Nat.le_of_ble_eq_true rfl) rfl (fun z57 s57 hq57 hR57 => ?_)
    obtain ⟨rfl, rfl⟩ := hq57
    refine x_astore_5 62 C dX11_set_60 rfl rfl ?_
    refine x_aload 64 C dX11_set_62 rfl rfl ?_
    refine x_iload_n 65 C dX11_set_64 rfl rfl rfl ?_
    refine x_iald 66 C hlen (by unfold NN; omega) dX11_set_65 rfl (by omega) (by omega) (fun r65 => ?_)
    refine x_istore_6 68 C dX11_set_66 rfl rfl ?_
    refine x_aload 70 C dX11_set_68 rfl rfl ?_
    refine x_iload_n 71 C dX11_set_70 rfl rfl rfl ?_
    refine x_iload_n 72 C dX11_set_71 rfl rfl rfl ?_
    refine x_iast 73 C hlen (by unfold NN; omega) dX11_set_72 rfl (by omega) (by omega) (by omega) ?_
    refine x_iload 75 C dX11_set_73 rfl rfl ?_
    refine x_iret C T dX11_set_75 ?_
    refine PI_i (by omega) ?_
    unfold rX_set nX_set
    first
      | (refine ⟨?_, ?_⟩ <;> rw [if_neg (by omega)]; done)
      | (rw [hwe, ← hif]; refine ⟨?_, ?_⟩ <;> (first | rw [if_pos (by omega)] | rw [if_neg (by omega)]))
  refine x_iload_n 13 C dX11_set_12 rfl rfl rfl ?_
  refine x_iconst 14 C dX11_set_13 rfl ?_
  refine x_icmp_ge 21 17 C dX11_set_14 rfl rfl (by omega) (by omega) (fun h14 => ?_) (fun h14 => ?_)
  · refine x_iload_n 22 C dX11_set_21 rfl rfl rfl ?_
    refine x_iconst 23 C dX11_set_22 rfl ?_
    refine x_iadd 24 C dX11_set_23 rfl ?_
    exact J24 _ (by omega)
  refine x_iload_n 18 C dX11_set_17 rfl rfl rfl ?_
  refine x_goto 24 C dX11_set_18 rfl ?_
  exact J24 _ (by omega)

set_option maxHeartbeats 4000000 in
set_option maxRecDepth 100000 in
theorem c_X5_put {l : Launch} {G : Gt} {ρ : Nat → Nat} {tc : Nat} {cl : Nat → Nat} {σ : Sig} {v : Int} (hv : -2147483648 ≤ v ∧ v ≤ 2147483647) (hs : 0 ≤ σ 28 1 ∧ σ 28 1 ≤ 160) : MX l yX5_put cX5_put 2 (some .boolean) 0 0 G (NN tc) ρ (shp tc cl) [.ref (ρ 28), .int (iZ v)] σ (PI (fun z σ' => (σ 28 1 < 160 → z = 1 ∧ σ' = up (up σ 29 (σ 28 1).toNat v) 28 1 (σ 28 1 + 1)) ∧ (¬ σ 28 1 < 160 → z = 0 ∧ σ' = σ))) := by
  refine MX_of [some (.ref (ρ 28)), some (.int (iZ v))] (by decide +kernel) rfl rfl (Nat.le_of_ble_eq_true rfl) ?_
  intro K hKl C T hRng
  subst hKl
  refine x_aload_n 1 C dX5_put_0 rfl rfl rfl ?_
  refine x_geti (j := 1) 4 C rfl (lt79 (by decide)) rfl rfl (by decide) inT5 tb_1_153 rfl dX5_put_1 rfl (fun r1 => ?_)
  refine x_sipush 7 C dX5_put_4 rfl rfl ?_
  refine x_icmp_lt 12 10 C dX5_put_7 rfl rfl (by omega) (by omega) (fun h7 => ?_) (fun h7 => ?_)
  · refine x_aload_n 13 C dX5_put_12 rfl rfl rfl ?_
    refine x_getr (j := 0) 16 C rfl (lt79 (by decide)) rfl rfl (by decide) inT5 tb_1_151 rfl dX5_put_13 rfl ?_
    refine x_aload_n 17 C dX5_put_16 rfl rfl rfl ?_
    refine x_geti (j := 1) 20 C rfl (lt79 (by decide)) rfl rfl (by decide) inT5 tb_1_153 rfl dX5_put_17 rfl (fun r17 => ?_)
    refine x_iload_n 21 C dX5_put_20 rfl rfl rfl ?_
    refine x_iast 22 C rfl (lt79 (by decide)) dX5_put_21 rfl (by omega) (by omega) (by omega) ?_
    refine x_aload_n 23 C dX5_put_22 rfl rfl rfl ?_
    refine x_dup 24 C dX5_put_23 rfl rfl ?_
    refine x_geti (j := 1) 27 C rfl (lt79 (by decide)) rfl rfl (by decide) inT5 tb_1_153 rfl dX5_put_24 rfl (fun r24 => ?_)
    refine x_iconst 28 C dX5_put_27 rfl ?_
    rw [show up σ 29 (σ 28 1).toNat v 28 1 = σ 28 1 from up_r (by omega)]
    refine x_iadd 29 C dX5_put_28 rfl ?_
    refine x_puti (j := 1) tyX5 32 C rfl (lt79 (by decide)) rfl rfl (by decide) inT5 tyX5_ok nmX5 tb_1_153 rfl rfl rfl dX5_put_29 rfl (by omega) ?_
    refine x_iconst 33 C dX5_put_32 rfl ?_
    refine x_zret C T dX5_put_33 (by omega) ?_
    exact PI_i (by omega) ⟨fun h => by first | exact ⟨rfl, rfl⟩ | omega, fun h => by first | exact ⟨rfl, rfl⟩ | omega⟩
  refine x_iconst 11 C dX5_put_10 rfl ?_
  refine x_zret C T dX5_put_11 (by omega) ?_
  exact PI_i (by omega) ⟨fun h => by first | exact ⟨rfl, rfl⟩ | omega, fun h => by first | exact ⟨rfl, rfl⟩ | omega⟩

def rX_feed (σ : Sig) (v : Int) : Int := if 0 ≤ v ∧ v ≤ 255 then (if σ 28 1 < 160 then σ 28 1 + 1 else -4) else -2
def nX_feed (σ : Sig) (v : Int) : Sig := if 0 ≤ v ∧ v ≤ 255 ∧ σ 28 1 < 160 then up (up σ 29 (σ 28 1).toNat v) 28 1 (σ 28 1 + 1) else σ
set_option maxHeartbeats 4000000 in
set_option maxRecDepth 100000 in
theorem c_X11_feed {l : Launch} {G : Gt} {ρ : Nat → Nat} {tc : Nat} {cl : Nat → Nat} {σ : Sig} {v : Int} (hv : -2147483648 ≤ v ∧ v ≤ 2147483647) (hs : 0 ≤ σ 28 1 ∧ σ 28 1 ≤ 160) : MX l yX11_feed cX11_feed 2 (some .int) 1 21 G (NN tc) ρ (shp tc cl) [.ref (ρ 0), .int (iZ v)] σ (PI (fun z σ' => z = rX_feed σ v ∧ σ' = nX_feed σ v)) := by
  refine MX_of [some (.ref (ρ 0)), some (.int (iZ v))] (by decide +kernel) rfl rfl (Nat.le_of_ble_eq_true rfl) ?_
  intro K hKl C T hRng
  subst hKl
  refine x_iload_n 1 C dX11_feed_0 rfl rfl rfl ?_
  refine x_if_lt 11 4 C dX11_feed_1 rfl rfl (by omega) (fun h1 => ?_) (fun h1 => ?_)
  · refine x_bipush 13 C dX11_feed_11 rfl rfl ?_
    refine x_iret C T dX11_feed_13 ?_
    refine PI_i (by omega) ?_
    unfold rX_feed nX_feed
    rw [if_neg (by omega), if_neg (by omega)]
    exact ⟨rfl, rfl⟩
  refine x_iload_n 5 C dX11_feed_4 rfl rfl rfl ?_
  refine x_sipush 8 C dX11_feed_5 rfl rfl ?_
  refine x_icmp_le 14 11 C dX11_feed_8 rfl rfl (by omega) (by omega) (fun h8 => ?_) (fun h8 => ?_)
  rotate_left
  · refine x_bipush 13 C dX11_feed_11 rfl rfl ?_
    refine x_iret C T dX11_feed_13 ?_
    refine PI_i (by omega) ?_
    unfold rX_feed nX_feed
    rw [if_neg (by omega), if_neg (by omega)]
    exact ⟨rfl, rfl⟩
  refine x_aload_n 15 C dX11_feed_14 rfl rfl rfl ?_
  refine x_getr (j := 4) 18 C rfl (lt79 (by decide)) rfl rfl (by decide) inT11 tb_2_177 rfl dX11_feed_15 rfl ?_
  refine x_iload_n 19 C dX11_feed_18 rfl rfl rfl ?_
  refine x_callVi 22 C dX11_feed_19 rfl (c_X5_put (by omega) (by omega)) rfl (lt79 (by decide)) rfl tb_1_227 tb_1_228 tb_1_229 tb_1_9 tb_1_230 (na := 1) (by decide +kernel) rfl ⟨by decide, by decide⟩ rfl (Nat.le_of_ble_eq_true rfl) rfl (fun z19 s19 hz19 hq19 hR19 => ?_)
  by_cases h160 : σ 28 1 < 160
  · obtain ⟨rfl, rfl⟩ := hq19.1 h160
    refine x_if_eq 35 25 C dX11_feed_22 rfl rfl (by omega) (fun h => absurd h (by omega)) (fun h22 => ?_)
    refine x_aload_n 26 C dX11_feed_25 rfl rfl rfl ?_
    refine x_getr (j := 4) 29 C rfl (lt79 (by decide)) rfl rfl (by decide) inT11 tb_2_177 rfl dX11_feed_26 rfl ?_
    refine x_geti (j := 1) 32 C rfl (lt79 (by decide)) rfl rfl (by decide) inT5 tb_1_152 rfl dX11_feed_29 rfl (fun r29 => ?_)
    refine x_goto 37 C dX11_feed_32 rfl ?_
    refine x_iret C T dX11_feed_37 ?_
    refine PI_i (by omega) ?_
    unfold rX_feed nX_feed
    rw [if_pos (by omega), if_pos (by omega), if_pos (by omega)]
    exact ⟨up_s, rfl⟩
  · obtain ⟨rfl, rfl⟩ := hq19.2 h160
    refine x_if_eq 35 25 C dX11_feed_22 rfl rfl (by omega) (fun h22 => ?_) (fun h => absurd rfl h)
    refine x_bipush 37 C dX11_feed_35 rfl rfl ?_
    refine x_iret C T dX11_feed_37 ?_
    refine PI_i (by omega) ?_
    unfold rX_feed nX_feed
    rw [if_pos (by omega), if_neg (by omega), if_neg (by omega)]
    exact ⟨rfl, rfl⟩ --END

set_option maxHeartbeats 4000000 in
set_option maxRecDepth 100000 in
theorem c_X11_force {l : Launch} {G : Gt} {ρ : Nat → Nat} {tc : Nat} {cl : Nat → Nat} {σ : Sig} {v : Int} (hv : -2147483648 ≤ v ∧ v ≤ 2147483647) : MX l yX11_force cX11_force 3 (some .int) 1 21 G (NN tc) ρ (shp tc cl) [.ref (ρ 0), .int (iZ v)] σ (PI (fun z σ' => z = (if 0 ≤ v ∧ v < σ 0 6 then σ 1 2 else -2) ∧ σ' = (if 0 ≤ v ∧ v < σ 0 6 then up σ 1 2 v else σ))) := by
  refine MX_of [some (.ref (ρ 0)), some (.int (iZ v)), none] (by decide +kernel) rfl rfl (Nat.le_of_ble_eq_true rfl) ?_
  intro K hKl C T hRng
  subst hKl
  refine x_iload_n 1 C dX11_force_0 rfl rfl rfl ?_
  refine x_aload_n 2 C dX11_force_1 rfl rfl rfl ?_
  refine x_geti (j := 6) 5 C rfl (lt79 (by decide)) rfl rfl (by decide) inT11 tb_2_179 rfl dX11_force_2 rfl (fun r2 => ?_)
  refine x_callSe 8 C dX11_force_5 rfl (c_X11_isWithin (by omega) (by omega)) tb_2_214 tb_2_215 tb_1_1 tb_2_216 (na := 2) (by decide +kernel) rfl ⟨by decide, by decide⟩ rfl (Nat.le_of_ble_eq_true rfl) rfl (fun r5 => ?_)
  first
    | refine x_ifb_ne 14 11 C dX11_force_8 rfl rfl (fun h8 => ?_) (fun h8 => ?_)
    | refine x_if_ne 14 11 C dX11_force_8 rfl rfl (by omega) (fun h8 => ?_) (fun h8 => ?_)
  · refine x_aload_n 15 C dX11_force_14 rfl rfl rfl ?_
    refine x_getr (j := 0) 18 C rfl (lt79 (by decide)) rfl rfl (by decide) inT11 tb_2_173 rfl dX11_force_15 rfl ?_
    refine x_geti (j := 2) 21 C rfl (lt79 (by decide)) rfl rfl (by decide) inT9 tb_1_43 rfl dX11_force_18 rfl (fun r18 => ?_)
    refine x_istore_n2 22 C dX11_force_21 rfl rfl ?_
    refine x_aload_n 23 C dX11_force_22 rfl rfl rfl ?_
    refine x_getr (j := 0) 26 C rfl (lt79 (by decide)) rfl rfl (by decide) inT11 tb_2_173 rfl dX11_force_23 rfl ?_
    refine x_iload_n 27 C dX11_force_26 rfl rfl rfl ?_
    refine x_puti (j := 2) tyX9 30 C rfl (lt79 (by decide)) rfl rfl (by decide) inT9 tyX9_ok nmX9 tb_1_43 rfl rfl rfl dX11_force_27 rfl (by omega) ?_
    refine x_iload_n 31 C dX11_force_30 rfl rfl rfl ?_
    refine x_iret C T dX11_force_31 ?_
    refine PI_i (by omega) ?_
    first | (rw [if_neg (by omega), if_neg (by omega)]; exact ⟨rfl, rfl⟩) | (rw [if_pos (by omega), if_pos (by omega)]; exact ⟨rfl, rfl⟩)
  refine x_bipush 13 C dX11_force_11 rfl rfl ?_
  refine x_iret C T dX11_force_13 ?_
  refine PI_i (by omega) ?_
  first | (rw [if_neg (by omega), if_neg (by omega)]; exact ⟨rfl, rfl⟩) | (rw [if_pos (by omega), if_pos (by omega)]; exact ⟨rfl, rfl⟩)

def cntH (f : Nat → Int) : Nat → Int
  | 0 => 0
  | n + 1 => cntH f n + (if 0 < f n then 1 else 0)
theorem cntH_in (f : Nat → Int) : ∀ n, 0 ≤ cntH f n ∧ cntH f n ≤ n
  | 0 => by simp [cntH]
  | n + 1 => by
    have := cntH_in f n
    simp only [cntH]
    split <;> omega
set_option maxHeartbeats 4000000 in
set_option maxRecDepth 100000 in
theorem c_X9_cellsAboveGround {l : Launch} {G : Gt} {ρ : Nat → Nat} {tc : Nat} {cl : Nat → Nat} {σ : Sig}  : MX l yX9_cellsAboveGround cX9_cellsAboveGround 3 (some .int) 0 0 G (NN tc) ρ (shp tc cl) [.ref (ρ 1)] σ (PE σ (cntH (σ 2) 36)) := by
  refine MX_of [some (.ref (ρ 1)), none, none] (by decide +kernel) rfl rfl (Nat.le_of_ble_eq_true rfl) ?_
  intro K hKl C T hRng
  subst hKl
  refine x_iconst 1 C dX9_cellsAboveGround_0 rfl ?_
  refine x_istore_n1 2 C dX9_cellsAboveGround_1 rfl rfl ?_
  refine x_iconst 3 C dX9_cellsAboveGround_2 rfl ?_
  refine x_istore_n2 4 C dX9_cellsAboveGround_3 rfl rfl ?_
  have L4 : ∀ (m : Nat) (i : Nat) (y z : Int), m = 36 - i → i ≤ 36 ∧ y = i ∧ z = cntH (σ 2) i → Ex K G (NN tc) ρ (shp tc cl) 4 [some (.ref (ρ 1)), some (.int (iZ z)), some (.int (iZ y))] [] σ := by
    intro m
    induction m using Nat.strongRecOn with
    | ind m ih =>
      intro i y z hm hinv
      obtain ⟨hi, rfl, hz⟩ := hinv
      have hc := cntH_in (σ 2) i
      refine x_iload_n 5 C dX9_cellsAboveGround_4 rfl rfl rfl ?_
      refine x_bipush 7 C dX9_cellsAboveGround_5 rfl rfl ?_
      refine x_icmp_ge 33 10 C dX9_cellsAboveGround_7 rfl rfl (by omega) (by omega) (fun h7 => ?_) (fun h7 => ?_)
      · refine x_iload_n 34 C dX9_cellsAboveGround_33 rfl rfl rfl ?_
        refine x_iret C T dX9_cellsAboveGround_34 ?_
        exact PE_i (by rw [hz, show i = 36 by omega]) (by omega)
      have J25 : ∀ (w : Int), w = (if 0 < σ 2 i then 1 else 0) → Ex K G (NN tc) ρ (shp tc cl) 25 [some (.ref (ρ 1)), some (.int (iZ z)), some (.int (iZ (i : Int)))] [.int (iZ w), .int (iZ z)] σ := by
        intro w hinv
        have hz25 : z + w = cntH (σ 2) (i + 1) := by rw [hz, hinv, cntH]
        refine x_iadd 26 C dX9_cellsAboveGround_25 rfl ?_
        refine x_istore_n1 27 C dX9_cellsAboveGround_26 rfl rfl ?_
        refine x_iinc_2 30 C dX9_cellsAboveGround_27 rfl rfl ?_
        refine x_goto 4 C dX9_cellsAboveGround_30 rfl ?_
        exact ih _ (by omega) (i + 1) _ _ rfl ⟨by omega, by omega, hz25⟩
      refine x_iload_n 11 C dX9_cellsAboveGround_10 rfl rfl rfl ?_
      refine x_aload_n 12 C dX9_cellsAboveGround_11 rfl rfl rfl ?_
      refine x_getr (j := 0) 15 C rfl (lt79 (by decide)) rfl rfl (by decide) inT9 tb_1_35 rfl dX9_cellsAboveGround_12 rfl ?_
      refine x_iload_n 16 C dX9_cellsAboveGround_15 rfl rfl rfl ?_
      refine x_iald 17 C rfl (lt79 (by decide)) dX9_cellsAboveGround_16 rfl (by omega) (by omega) (fun r16 => ?_)
      refine x_if_le 24 20 C dX9_cellsAboveGround_17 rfl rfl (by omega) (fun h17 => ?_) (fun h17 => ?_)
      · refine x_iconst 25 C dX9_cellsAboveGround_24 rfl ?_
        exact J25 _ (by simp only [Int.toNat_natCast] at *; split <;> omega)
      refine x_iconst 21 C dX9_cellsAboveGround_20 rfl ?_
      refine x_goto 25 C dX9_cellsAboveGround_21 rfl ?_
      exact J25 _ (by simp only [Int.toNat_natCast] at *; split <;> omega)
  exact L4 _ 0 _ _ rfl ⟨by omega, rfl, rfl⟩

set_option maxHeartbeats 4000000 in
set_option maxRecDepth 100000 in
theorem c_X11_count {l : Launch} {G : Gt} {ρ : Nat → Nat} {tc : Nat} {cl : Nat → Nat} {σ : Sig} {v : Int} (hv : -2147483648 ≤ v ∧ v ≤ 2147483647) : MX l yX11_count cX11_count 2 (some .int) 1 22 G (NN tc) ρ (shp tc cl) [.ref (ρ 0), .int (iZ v)] σ (PE σ (if v = 0 then σ 1 8 else if v = 1 then σ 1 3 else if v = 2 then cntH (σ 2) 36 else if v = 3 then σ 1 1 else if v = 4 then σ 0 6 else if v = 5 then σ 28 1 else if v = 6 then σ 1 2 else -2)) := by
  refine MX_of [some (.ref (ρ 0)), some (.int (iZ v))] (by decide +kernel) rfl rfl (Nat.le_of_ble_eq_true rfl) ?_
  intro K hKl C T hRng
  subst hKl
  refine x_iload_n 1 C dX11_count_0 rfl rfl rfl ?_
  refine x_tab 97 [44, 52, 60, 68, 76, 81, 89] C dX11_count_1 rfl (by decide) (by decide) (by omega) (fun h1 => ?_) (fun j hj h1 => ?_)
  · refine x_bipush 99 C dX11_count_97 rfl rfl ?_
    refine x_iret C T dX11_count_99 ?_
    refine PE_i ?_ (by omega)
    first
      | rw [if_pos (by omega)]
      | rw [if_neg (by omega), if_pos (by omega)]
      | rw [if_neg (by omega), if_neg (by omega), if_pos (by omega)]
      | rw [if_neg (by omega), if_neg (by omega), if_neg (by omega), if_pos (by omega)]
      | rw [if_neg (by omega), if_neg (by omega), if_neg (by omega), if_neg (by omega), if_pos (by omega)]
      | rw [if_neg (by omega), if_neg (by omega), if_neg (by omega), if_neg (by omega), if_neg (by omega), if_pos (by omega)]
      | rw [if_neg (by omega), if_neg (by omega), if_neg (by omega), if_neg (by omega), if_neg (by omega), if_neg (by omega), if_pos (by omega)]
      | rw [if_neg (by omega), if_neg (by omega), if_neg (by omega), if_neg (by omega), if_neg (by omega), if_neg (by omega), if_neg (by omega)]
  match j, hj with
  | 0, hj =>
    refine x_aload_n 45 C dX11_count_44 rfl rfl rfl ?_
    refine x_getr (j := 0) 48 C rfl (lt79 (by decide)) rfl rfl (by decide) inT11 tb_2_173 rfl dX11_count_45 rfl ?_
    refine x_geti (j := 8) 51 C rfl (lt79 (by decide)) rfl rfl (by decide) inT9 tb_1_61 rfl dX11_count_48 rfl (fun r48 => ?_)
    refine x_iret C T dX11_count_51 ?_
    refine PE_i ?_ (by omega)
    first
      | rw [if_pos (by omega)]
      | rw [if_neg (by omega), if_pos (by omega)]
      | rw [if_neg (by omega), if_neg (by omega), if_pos (by omega)]
      | rw [if_neg (by omega), if_neg (by omega), if_neg (by omega), if_pos (by omega)]
      | rw [if_neg (by omega), if_neg (by omega), if_neg (by omega), if_neg (by omega), if_pos (by omega)]
      | rw [if_neg (by omega), if_neg (by omega), if_neg (by omega), if_neg (by omega), if_neg (by omega), if_pos (by omega)]
      | rw [if_neg (by omega), if_neg (by omega), if_neg (by omega), if_neg (by omega), if_neg (by omega), if_neg (by omega), if_pos (by omega)]
      | rw [if_neg (by omega), if_neg (by omega), if_neg (by omega), if_neg (by omega), if_neg (by omega), if_neg (by omega), if_neg (by omega)]
  | 1, hj =>
    refine x_aload_n 53 C dX11_count_52 rfl rfl rfl ?_
    refine x_getr (j := 0) 56 C rfl (lt79 (by decide)) rfl rfl (by decide) inT11 tb_2_173 rfl dX11_count_53 rfl ?_
    refine x_geti (j := 3) 59 C rfl (lt79 (by decide)) rfl rfl (by decide) inT9 tb_1_45 rfl dX11_count_56 rfl (fun r56 => ?_)
    refine x_iret C T dX11_count_59 ?_
    refine PE_i ?_ (by omega)
    first
      | rw [if_pos (by omega)]
      | rw [if_neg (by omega), if_pos (by omega)]
      | rw [if_neg (by omega), if_neg (by omega), if_pos (by omega)]
      | rw [if_neg (by omega), if_neg (by omega), if_neg (by omega), if_pos (by omega)]
      | rw [if_neg (by omega), if_neg (by omega), if_neg (by omega), if_neg (by omega), if_pos (by omega)]
      | rw [if_neg (by omega), if_neg (by omega), if_neg (by omega), if_neg (by omega), if_neg (by omega), if_pos (by omega)]
      | rw [if_neg (by omega), if_neg (by omega), if_neg (by omega), if_neg (by omega), if_neg (by omega), if_neg (by omega), if_pos (by omega)]
      | rw [if_neg (by omega), if_neg (by omega), if_neg (by omega), if_neg (by omega), if_neg (by omega), if_neg (by omega), if_neg (by omega)]
  | 2, hj =>
    refine x_aload_n 61 C dX11_count_60 rfl rfl rfl ?_
    refine x_getr (j := 0) 64 C rfl (lt79 (by decide)) rfl rfl (by decide) inT11 tb_2_173 rfl dX11_count_61 rfl ?_
    refine x_callVe 67 C dX11_count_64 rfl (c_X9_cellsAboveGround) rfl (lt79 (by decide)) rfl tb_4_84 tb_4_85 tb_4_86 tb_1_2 tb_4_87 (na := 0) (by decide +kernel) rfl ⟨by decide, by decide⟩ rfl (Nat.le_of_ble_eq_true rfl) rfl (fun r64 => ?_)
    refine x_iret C T dX11_count_67 ?_
    refine PE_i ?_ (by omega)
    first
      | rw [if_pos (by omega)]
      | rw [if_neg (by omega), if_pos (by omega)]
      | rw [if_neg (by omega), if_neg (by omega), if_pos (by omega)]
      | rw [if_neg (by omega), if_neg (by omega), if_neg (by omega), if_pos (by omega)]
      | rw [if_neg (by omega), if_neg (by omega), if_neg (by omega), if_neg (by omega), if_pos (by omega)]
      | rw [if_neg (by omega), if_neg (by omega), if_neg (by omega), if_neg (by omega), if_neg (by omega), if_pos (by omega)]
      | rw [if_neg (by omega), if_neg (by omega), if_neg (by omega), if_neg (by omega), if_neg (by omega), if_neg (by omega), if_pos (by omega)]
      | rw [if_neg (by omega), if_neg (by omega), if_neg (by omega), if_neg (by omega), if_neg (by omega), if_neg (by omega), if_neg (by omega)]
  | 3, hj =>
    refine x_aload_n 69 C dX11_count_68 rfl rfl rfl ?_
    refine x_getr (j := 0) 72 C rfl (lt79 (by decide)) rfl rfl (by decide) inT11 tb_2_173 rfl dX11_count_69 rfl ?_
    refine x_geti (j := 1) 75 C rfl (lt79 (by decide)) rfl rfl (by decide) inT9 tb_1_38 rfl dX11_count_72 rfl (fun r72 => ?_)
    refine x_iret C T dX11_count_75 ?_
    refine PE_i ?_ (by omega)
    first
      | rw [if_pos (by omega)]
      | rw [if_neg (by omega), if_pos (by omega)]
      | rw [if_neg (by omega), if_neg (by omega), if_pos (by omega)]
      | rw [if_neg (by omega), if_neg (by omega), if_neg (by omega), if_pos (by omega)]
      | rw [if_neg (by omega), if_neg (by omega), if_neg (by omega), if_neg (by omega), if_pos (by omega)]
      | rw [if_neg (by omega), if_neg (by omega), if_neg (by omega), if_neg (by omega), if_neg (by omega), if_pos (by omega)]
      | rw [if_neg (by omega), if_neg (by omega), if_neg (by omega), if_neg (by omega), if_neg (by omega), if_neg (by omega), if_pos (by omega)]
      | rw [if_neg (by omega), if_neg (by omega), if_neg (by omega), if_neg (by omega), if_neg (by omega), if_neg (by omega), if_neg (by omega)]
  | 4, hj =>
    refine x_aload_n 77 C dX11_count_76 rfl rfl rfl ?_
    refine x_geti (j := 6) 80 C rfl (lt79 (by decide)) rfl rfl (by decide) inT11 tb_2_179 rfl dX11_count_77 rfl (fun r77 => ?_)
    refine x_iret C T dX11_count_80 ?_
    refine PE_i ?_ (by omega)
    first
      | rw [if_pos (by omega)]
      | rw [if_neg (by omega), if_pos (by omega)]
      | rw [if_neg (by omega), if_neg (by omega), if_pos (by omega)]
      | rw [if_neg (by omega), if_neg (by omega), if_neg (by omega), if_pos (by omega)]
      | rw [if_neg (by omega), if_neg (by omega), if_neg (by omega), if_neg (by omega), if_pos (by omega)]
      | rw [if_neg (by omega), if_neg (by omega), if_neg (by omega), if_neg (by omega), if_neg (by omega), if_pos (by omega)]
      | rw [if_neg (by omega), if_neg (by omega), if_neg (by omega), if_neg (by omega), if_neg (by omega), if_neg (by omega), if_pos (by omega)]
      | rw [if_neg (by omega), if_neg (by omega), if_neg (by omega), if_neg (by omega), if_neg (by omega), if_neg (by omega), if_neg (by omega)]
  | 5, hj =>
    refine x_aload_n 82 C dX11_count_81 rfl rfl rfl ?_
    refine x_getr (j := 4) 85 C rfl (lt79 (by decide)) rfl rfl (by decide) inT11 tb_2_177 rfl dX11_count_82 rfl ?_
    refine x_geti (j := 1) 88 C rfl (lt79 (by decide)) rfl rfl (by decide) inT5 tb_1_152 rfl dX11_count_85 rfl (fun r85 => ?_)
    refine x_iret C T dX11_count_88 ?_
    refine PE_i ?_ (by omega)
    first
      | rw [if_pos (by omega)]
      | rw [if_neg (by omega), if_pos (by omega)]
      | rw [if_neg (by omega), if_neg (by omega), if_pos (by omega)]
      | rw [if_neg (by omega), if_neg (by omega), if_neg (by omega), if_pos (by omega)]
      | rw [if_neg (by omega), if_neg (by omega), if_neg (by omega), if_neg (by omega), if_pos (by omega)]
      | rw [if_neg (by omega), if_neg (by omega), if_neg (by omega), if_neg (by omega), if_neg (by omega), if_pos (by omega)]
      | rw [if_neg (by omega), if_neg (by omega), if_neg (by omega), if_neg (by omega), if_neg (by omega), if_neg (by omega), if_pos (by omega)]
      | rw [if_neg (by omega), if_neg (by omega), if_neg (by omega), if_neg (by omega), if_neg (by omega), if_neg (by omega), if_neg (by omega)]
  | 6, hj =>
    refine x_aload_n 90 C dX11_count_89 rfl rfl rfl ?_
    refine x_getr (j := 0) 93 C rfl (lt79 (by decide)) rfl rfl (by decide) inT11 tb_2_173 rfl dX11_count_90 rfl ?_
    refine x_geti (j := 2) 96 C rfl (lt79 (by decide)) rfl rfl (by decide) inT9 tb_1_43 rfl dX11_count_93 rfl (fun r93 => ?_)
    refine x_iret C T dX11_count_96 ?_
    refine PE_i ?_ (by omega)
    first
      | rw [if_pos (by omega)]
      | rw [if_neg (by omega), if_pos (by omega)]
      | rw [if_neg (by omega), if_neg (by omega), if_pos (by omega)]
      | rw [if_neg (by omega), if_neg (by omega), if_neg (by omega), if_pos (by omega)]
      | rw [if_neg (by omega), if_neg (by omega), if_neg (by omega), if_neg (by omega), if_pos (by omega)]
      | rw [if_neg (by omega), if_neg (by omega), if_neg (by omega), if_neg (by omega), if_neg (by omega), if_pos (by omega)]
      | rw [if_neg (by omega), if_neg (by omega), if_neg (by omega), if_neg (by omega), if_neg (by omega), if_neg (by omega), if_pos (by omega)]
      | rw [if_neg (by omega), if_neg (by omega), if_neg (by omega), if_neg (by omega), if_neg (by omega), if_neg (by omega), if_neg (by omega)]
  | j + 7, hj => exact absurd hj (by simp)
