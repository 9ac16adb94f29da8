/-! fogs -/
def hsf (x : Int) : Int := (((iZ x).toUInt32 >>> ((iZ 10).toUInt32 &&& Int32.toUInt32 31)).toInt32).toInt
theorem hsf_in (x : Int) : 0 ≤ hsf x ∧ hsf x ≤ 4194303 := by
  have hn : ((iZ 10).toUInt32 &&& Int32.toUInt32 31).toNat = 10 := by decide +kernel
  have hb := (iZ x).toBitVec.isLt
  have eg : ∀ n : UInt32, n.toNat = 10 → (((iZ x).toUInt32 >>> n).toInt32).toBitVec.toNat = (iZ x).toBitVec.toNat / 2 ^ 10 := by
    intro n hn
    simp only [UInt32.toBitVec_toInt32, UInt32.toBitVec_shiftRight, Int32.toBitVec_toUInt32]
    simp [BitVec.toNat_ushiftRight, Nat.shiftRight_eq_div_pow, hn]
  have e2 := eg _ hn
  have hlt : (iZ x).toBitVec.toNat / 2 ^ 10 < 4194304 := by
    rw [Nat.div_lt_iff_lt_mul (by decide)]
    exact Nat.lt_of_lt_of_le hb (by decide)
  have e3 : hsf x = (((iZ x).toBitVec.toNat / 2 ^ 10 : Nat) : Int) := by
    have : hsf x = (((iZ x).toUInt32 >>> ((iZ 10).toUInt32 &&& Int32.toUInt32 31)).toInt32).toBitVec.toInt := rfl
    rw [this, BitVec.toInt_eq_toNat_cond, e2, if_pos (by omega)]
  rw [e3]
  omega
def fogF (x : Int) : Int := hsf (x * 1103515245 + 12345) % 10
theorem fogF_in (x : Int) : 0 ≤ fogF x ∧ fogF x ≤ 9 := by
  have := hsf_in (x * 1103515245 + 12345)
  unfold fogF
  omega
set_option maxHeartbeats 4000000 in
set_option maxRecDepth 100000 in
theorem c_X11_fogOf {l : Launch} {G : Gt} {ρ : Nat → Nat} {tc : Nat} {cl : Nat → Nat} {σ : Sig} {v : Int} : MX l yX11_fogOf cX11_fogOf 2 (some .int) 0 0 G (NN tc) ρ (shp tc cl) [.int (iZ v)] σ (PE σ (fogF v)) := by
  refine MX_of [some (.int (iZ v)), none] (by decide +kernel) rfl rfl (Nat.le_of_ble_eq_true rfl) ?_
  intro K hKl C T hRng
  subst hKl
  have hh := hsf_in (v * 1103515245 + 12345)
  refine x_iload_n 1 C dX11_fogOf_0 rfl rfl rfl ?_
  refine x_ldcw (z := 1103515245) 4 C tb_4_57 dX11_fogOf_1 rfl ?_
  refine x_imul 5 C dX11_fogOf_4 rfl ?_
  refine x_sipush 8 C dX11_fogOf_5 rfl rfl ?_
  refine x_iadd 9 C dX11_fogOf_8 rfl ?_
  refine x_istore_n1 10 C dX11_fogOf_9 rfl rfl ?_
  refine x_iload_n 11 C dX11_fogOf_10 rfl rfl rfl ?_
  refine x_bipush 13 C dX11_fogOf_11 rfl rfl ?_
  refine x_iushr (hsf (v * 1103515245 + 12345)) 14 C dX11_fogOf_13 rfl ((iZ_of _).symm) ?_
  refine x_bipush 16 C dX11_fogOf_14 rfl rfl ?_
  refine x_irem 17 C dX11_fogOf_16 rfl (by omega) (by omega) ?_
  refine x_iret C T dX11_fogOf_17 ?_
  exact PE_i rfl (by omega)

def rDrawn (X : Nat → RuT) (T : Sig) (v : Int) : Int := allT X (up T 1 1 (fogF v))
/-- the world but for its fog and what a morning changes -/
def Kf (σ s : Sig) : Prop := (∀ a, a ≠ 1 → ¬ (33 ≤ a ∧ a ≤ 41) → ¬ (81 ≤ a ∧ a < 97 ∧ a % 3 = 0) → s a = σ a) ∧ (∀ b, b ≠ 1 → s 1 b = σ 1 b)
theorem Kf_refl (σ : Sig) : Kf σ σ := ⟨fun _ _ _ _ => rfl, fun _ _ => rfl⟩
theorem Kf_Kp {σ s s' : Sig} (h : Kf σ s) (hk : Kp 33 41 s s') : Kf σ s' := ⟨fun a h1 h2 h3 => (hk a h2 h3).trans (h.1 a h1 h2 h3), fun b hb => (congrFun (hk 1 (by omega) (by omega)) b).trans (h.2 b hb)⟩
theorem Kf_up {σ s : Sig} {v : Int} (h : Kf σ s) : Kf σ (up s 1 1 v) := ⟨fun a h1 h2 h3 => by rw [up_row h1]; exact h.1 a h1 h2 h3, fun b hb => by rw [up_i hb]; exact h.2 b hb⟩
theorem Kf_back {σ s : Sig} (h : Kf σ s) : Kp 33 41 σ (up s 1 1 (σ 1 1)) := fun a h1 h2 => by
  by_cases ha : a = 1
  · subst ha
    funext b
    by_cases hb : b = 1
    · subst hb; rw [up_s]
    · rw [up_i hb]; exact h.2 b hb
  · rw [up_row ha]; exact h.1 a ha h1 h2
theorem Kf_eq {σ s : Sig} {v : Int} (h : Kf σ s) : ∀ a, a ≤ 10 → up s 1 1 v a = up σ 1 1 v a := fun a ha => by
  by_cases h1 : a = 1
  · subst h1
    funext b
    by_cases hb : b = 1
    · subst hb; rw [up_s, up_s]
    · rw [up_i hb, up_i hb]; exact h.2 b hb
  · rw [up_row h1, up_row h1]; exact h.1 a h1 (by omega) (by omega)
theorem CW_Kf {X : Nat → RuT} {tc : Nat} {cl : Nat → Nat} {σ s : Sig} (h : CW X tc cl σ) (hk : Kf σ s) {v : Int} (hv : 0 ≤ v ∧ v ≤ 9) : CW X tc cl (up s 1 1 v) :=
  CW_keep (CW_f h hv) (Kf_eq hk) (fun a h1 h2 h3 => by rw [up_row (show a ≠ 1 by omega), up_row (show a ≠ 1 by omega)]; exact hk.1 a (by omega) (by omega) (by omega))
theorem TI_up1 {T : Sig} {v : Int} (h : TI T) (hv : 0 ≤ v ∧ v ≤ 9) : TI (up T 1 1 v) := TI_f h hv
set_option maxHeartbeats 4000000 in
set_option maxRecDepth 100000 in
theorem c_X11_drawn {l : Launch} {G : Gt} {ρ : Nat → Nat} {tc : Nat} {cl : Nat → Nat} {σ : Sig} {X : Nat → RuT} {v : Int} (hW : CW X tc cl σ) (hv : -2147483648 ≤ v ∧ v ≤ 2147483647) : MX l yX11_drawn cX11_drawn 4 (some .int) 6 150 G (NN tc) ρ (shp tc cl) [.ref (ρ 0), .int (iZ v)] σ (PI (fun z σ' => Kp 33 41 σ σ' ∧ z = rDrawn X (cT σ) v)) := by
  refine MX_of [some (.ref (ρ 0)), some (.int (iZ v)), none, none] (by decide +kernel) rfl rfl (Nat.le_of_ble_eq_true rfl) ?_
  intro K hKl C T hRng
  subst hKl
  have hT := hW.1
  have h3 := hT.2.2.1
  have h8 := hT.2.2.2.1
  have hf := fogF_in v
  have hall := allT_in (X := X) (TI_up1 (v := fogF v) (TI_cT hT) hf)
  refine x_aload_n 1 C dX11_drawn_0 rfl rfl rfl ?_
  refine x_getr (j := 0) 4 C rfl (lt79 (by decide)) rfl rfl (by decide) inT11 tb_2_173 rfl dX11_drawn_1 rfl ?_
  refine x_geti (j := 1) 7 C rfl (lt79 (by decide)) rfl rfl (by decide) inT9 tb_1_38 rfl dX11_drawn_4 rfl (fun r4 => ?_)
  refine x_istore_n2 8 C dX11_drawn_7 rfl rfl ?_
  refine x_aload_n 9 C dX11_drawn_8 rfl rfl rfl ?_
  refine x_getr (j := 0) 12 C rfl (lt79 (by decide)) rfl rfl (by decide) inT11 tb_2_173 rfl dX11_drawn_9 rfl ?_
  refine x_iload_n 13 C dX11_drawn_12 rfl rfl rfl ?_
  refine x_callSe 16 C dX11_drawn_13 rfl (c_X11_fogOf) tb_4_54 tb_4_55 tb_1_1 tb_4_56 (na := 1) (by decide +kernel) rfl ⟨by decide, by decide⟩ rfl (Nat.le_of_ble_eq_true rfl) rfl (fun r13 => ?_)
  refine x_puti (j := 1) tyX9 19 C rfl (lt79 (by decide)) rfl rfl (by decide) inT9 tyX9_ok nmX9 tb_1_38 rfl rfl rfl dX11_drawn_16 rfl (by omega) ?_
  have hW1 := CW_f hW hf
  refine x_aload_n 20 C dX11_drawn_19 rfl rfl rfl ?_
  refine x_getr (j := 7) 23 C rfl (lt79 (by decide)) rfl rfl (by decide) inT11 tb_2_180 rfl dX11_drawn_20 rfl ?_
  refine x_callVv 26 C dX11_drawn_23 rfl (c_X3_dawn hW1) rfl (lt79 (by decide)) rfl tb_3_156 tb_3_157 tb_3_158 tb_1_18 tb_3_159 (na := 0) (by decide +kernel) rfl ⟨by decide, by decide⟩ rfl (Nat.le_of_ble_eq_true rfl) rfl (fun s23 hq23 hR23 => ?_)
  obtain ⟨k1, k2, k3⟩ := hq23
  have hW2 := CW_Kp hW1 k1 (by omega)
  have e18 : s23 1 8 = up σ 1 1 (fogF v) 1 8 := congrFun (k1 1 (by omega) (by omega)) 8
  have e12 : s23 1 2 = up σ 1 1 (fogF v) 1 2 := congrFun (k1 1 (by omega) (by omega)) 2
  have e9 : s23 9 = up σ 1 1 (fogF v) 9 := k1 9 (by omega) (by omega)
  refine x_aload_n 27 C dX11_drawn_26 rfl rfl rfl ?_
  refine x_getr (j := 7) 30 C rfl (lt79 (by decide)) rfl rfl (by decide) inT11 tb_2_180 rfl dX11_drawn_27 rfl ?_
  refine x_callVi 33 C dX11_drawn_30 rfl (c_X3_leftOfAll (X := X) hW2 (fun s hs => (HD_in hW1.1 k3 (by omega)).1)) rfl (lt79 (by decide)) rfl tb_3_186 tb_3_187 tb_3_188 tb_1_18 tb_3_189 (na := 0) (by decide +kernel) rfl ⟨by decide, by decide⟩ rfl (Nat.le_of_ble_eq_true rfl) rfl (fun z30 s30 hz30 hq30 hR30 => ?_)
  obtain ⟨k4, k5⟩ := hq30
  rw [HD_all k3 e18 e9 e12, cT_up1] at k5
  have hK := Kf_Kp (Kf_Kp (Kf_up (v := fogF v) (Kf_refl σ)) k1) (Kp_wide (lo' := 33) (hi' := 41) k4 (by omega) (by omega))
  refine x_istore_n3 34 C dX11_drawn_33 rfl rfl ?_
  refine x_aload_n 35 C dX11_drawn_34 rfl rfl rfl ?_
  refine x_getr (j := 0) 38 C rfl (lt79 (by decide)) rfl rfl (by decide) inT11 tb_2_173 rfl dX11_drawn_35 rfl ?_
  refine x_iload_n 39 C dX11_drawn_38 rfl rfl rfl ?_
  refine x_puti (j := 1) tyX9 42 C rfl (lt79 (by decide)) rfl rfl (by decide) inT9 tyX9_ok nmX9 tb_1_38 rfl rfl rfl dX11_drawn_39 rfl (by omega) ?_
  refine x_iload_n 43 C dX11_drawn_42 rfl rfl rfl ?_
  refine x_iret C T dX11_drawn_43 ?_
  exact PI_i (by omega) ⟨Kf_back hK, k5⟩

set_option maxHeartbeats 4000000 in
set_option maxRecDepth 100000 in
theorem c_X11_commonDivisor {l : Launch} {G : Gt} {ρ : Nat → Nat} {tc : Nat} {cl : Nat → Nat} {σ : Sig} {h n : Nat} (hh : h ≤ 20) (hn : 1 ≤ n ∧ n ≤ 20) : MX l yX11_commonDivisor cX11_commonDivisor 3 (some .int) 0 0 G (NN tc) ρ (shp tc cl) [.int (iZ (h : Int)), .int (iZ (n : Int))] σ (PE σ ((Nat.gcd h n : Nat) : Int)) := by
  refine MX_of [some (.int (iZ (h : Int))), some (.int (iZ (n : Int))), none] (by decide +kernel) rfl rfl (Nat.le_of_ble_eq_true rfl) ?_
  intro K hKl C T hRng
  subst hKl
  have hg := Nat.gcd_pos_of_pos_right h (show 0 < n by omega)
  have hg2 := Nat.gcd_le_right h (show 0 < n by omega)
  refine x_iload_n 1 C dX11_commonDivisor_0 rfl rfl rfl ?_
  refine x_istore_n2 2 C dX11_commonDivisor_1 rfl rfl ?_
  have L2 : ∀ (mz : Nat) (d : Nat) (y : Int), mz = d → (1 ≤ d ∧ d ≤ n ∧ y = d ∧ Nat.gcd h n ≤ d) → Ex K G (NN tc) ρ (shp tc cl) 2 [some (.int (iZ (h : Int))), some (.int (iZ (n : Int))), some (.int (iZ y))] [] σ := by
    intro mz
    induction mz using Nat.strongRecOn with
    | ind mz ih =>
      intro d y hmz hinv
      obtain ⟨hd1, hd2, rfl, hgd⟩ := hinv
      refine x_iload_n 3 C dX11_commonDivisor_2 rfl rfl rfl ?_
      refine x_iconst 4 C dX11_commonDivisor_3 rfl ?_
      refine x_icmp_le 27 7 C dX11_commonDivisor_4 rfl rfl (by omega) (by omega) (fun h4 => ?_) (fun h4 => ?_)
      · refine x_iconst 28 C dX11_commonDivisor_27 rfl ?_
        refine x_iret C T dX11_commonDivisor_28 ?_
        refine PE_i ?_ (by omega)
        first
          | (have b1 : h % d = 0 := by omega
             have b2 : n % d = 0 := by omega
             have := Nat.le_of_dvd hg (Nat.dvd_gcd (Nat.dvd_of_mod_eq_zero b1) (Nat.dvd_of_mod_eq_zero b2))
             omega)
          | omega
      refine x_iload_n 8 C dX11_commonDivisor_7 rfl rfl rfl ?_
      refine x_iload_n 9 C dX11_commonDivisor_8 rfl rfl rfl ?_
      refine x_irem 10 C dX11_commonDivisor_9 rfl (by omega) (by omega) ?_
      have hm1 : (h : Int) % (d : Int) = ((h % d : Nat) : Int) := (Int.natCast_emod h d).symm
      have hm2 := Nat.mod_le h d
      first
        | refine x_ifb_ne 21 13 C dX11_commonDivisor_10 rfl rfl (fun h10 => ?_) (fun h10 => ?_)
        | refine x_if_ne 21 13 C dX11_commonDivisor_10 rfl rfl (by omega) (fun h10 => ?_) (fun h10 => ?_)
      · refine x_iinc_2 24 C dX11_commonDivisor_21 rfl rfl ?_
        refine x_goto 2 C dX11_commonDivisor_24 rfl ?_
        refine ih (d - 1) (by omega) (d - 1) _ rfl ⟨by omega, by omega, by omega, ?_⟩
        apply Nat.le_of_not_lt
        intro hlt
        have he : Nat.gcd h n = d := by omega
        have a1 := Nat.gcd_dvd_left h n
        have a2 := Nat.gcd_dvd_right h n
        rw [he] at a1 a2
        have b1 := Nat.mod_eq_zero_of_dvd a1
        have b2 := Nat.mod_eq_zero_of_dvd a2
        omega
      refine x_iload_n 14 C dX11_commonDivisor_13 rfl rfl rfl ?_
      refine x_iload_n 15 C dX11_commonDivisor_14 rfl rfl rfl ?_
      refine x_irem 16 C dX11_commonDivisor_15 rfl (by omega) (by omega) ?_
      have hm3 : (n : Int) % (d : Int) = ((n % d : Nat) : Int) := (Int.natCast_emod n d).symm
      have hm4 := Nat.mod_le n d
      first
        | refine x_ifb_ne 21 19 C dX11_commonDivisor_16 rfl rfl (fun h16 => ?_) (fun h16 => ?_)
        | refine x_if_ne 21 19 C dX11_commonDivisor_16 rfl rfl (by omega) (fun h16 => ?_) (fun h16 => ?_)
      · refine x_iinc_2 24 C dX11_commonDivisor_21 rfl rfl ?_
        refine x_goto 2 C dX11_commonDivisor_24 rfl ?_
        refine ih (d - 1) (by omega) (d - 1) _ rfl ⟨by omega, by omega, by omega, ?_⟩
        apply Nat.le_of_not_lt
        intro hlt
        have he : Nat.gcd h n = d := by omega
        have a1 := Nat.gcd_dvd_left h n
        have a2 := Nat.gcd_dvd_right h n
        rw [he] at a1 a2
        have b1 := Nat.mod_eq_zero_of_dvd a1
        have b2 := Nat.mod_eq_zero_of_dvd a2
        omega
      refine x_iload_n 20 C dX11_commonDivisor_19 rfl rfl rfl ?_
      refine x_iret C T dX11_commonDivisor_20 ?_
      refine PE_i ?_ (by omega)
      first
        | (have b1 : h % d = 0 := by omega
           have b2 : n % d = 0 := by omega
           have := Nat.le_of_dvd hg (Nat.dvd_gcd (Nat.dvd_of_mod_eq_zero b1) (Nat.dvd_of_mod_eq_zero b2))
           omega)
        | omega
  exact L2 _ n _ rfl ⟨by omega, by omega, rfl, hg2⟩

def chN (X : Nat → RuT) (T : Sig) (v : Int) (s : Nat) : Nat → Nat
  | 0 => 0
  | k + 1 => chN X T v s k + (if hasI (hadT X (up T 1 1 (fogF (v + k))) s) = -1 then 0 else 1)
theorem chN_le (X : Nat → RuT) (T : Sig) (v : Int) (s : Nat) : ∀ k, chN X T v s k ≤ k
  | 0 => Nat.le_refl _
  | k + 1 => by
    have := chN_le X T v s k
    simp only [chN]
    split <;> omega
def rChance (X : Nat → RuT) (T : Sig) (v n s p : Int) : Int := if (1 ≤ n ∧ n ≤ 20) ∧ (0 ≤ s ∧ s < T 1 8) ∧ (p = 0 ∨ p = 1) then (if p = 0 then ((chN X T v s.toNat n.toNat / Nat.gcd (chN X T v s.toNat n.toNat) n.toNat : Nat) : Int) else ((n.toNat / Nat.gcd (chN X T v s.toNat n.toNat) n.toNat : Nat) : Int)) else -4611686018427387904
set_option maxHeartbeats 4000000 in
set_option maxRecDepth 100000 in
theorem c_X11_chance {l : Launch} {G : Gt} {ρ : Nat → Nat} {tc : Nat} {cl : Nat → Nat} {σ : Sig} {X : Nat → RuT} {v n w p : Int} (hW : CW X tc cl σ) (hv : -2147483648 ≤ v ∧ v ≤ 2147483647) (hn : -2147483648 ≤ n ∧ n ≤ 2147483647) (hs : -2147483648 ≤ w ∧ w ≤ 2147483647) (hp : -2147483648 ≤ p ∧ p ≤ 2147483647) : MX l yX11_chance cX11_chance 8 (some .long) 6 150 G (NN tc) ρ (shp tc cl) [.ref (ρ 0), .int (iZ v), .int (iZ n), .int (iZ w), .int (iZ p)] σ (PL (fun z σ' => Kp 33 41 σ σ' ∧ z = rChance X (cT σ) v n w p)) := by
  refine MX_of [some (.ref (ρ 0)), some (.int (iZ v)), some (.int (iZ n)), some (.int (iZ w)), some (.int (iZ p)), none, none, none] (by decide +kernel) rfl rfl (Nat.le_of_ble_eq_true rfl) ?_
  intro K hKl C T hRng
  subst hKl
  have hT := hW.1
  have h3 := hT.2.2.1
  have h8 := hT.2.2.2.1
  refine x_iload_n 1 C dX11_chance_0 rfl rfl rfl ?_
  refine x_iconst 2 C dX11_chance_1 rfl ?_
  refine x_icmp_lt 28 5 C dX11_chance_2 rfl rfl (by omega) (by omega) (fun h2 => ?_) (fun h2 => ?_)
  · refine x_ldc2N (z := -4611686018427387904) 31 C tb_4_62 (by decide) dX11_chance_28 rfl ?_
    refine x_lret C T dX11_chance_31 ?_
    refine ⟨_, rfl, ?_, ?_⟩
    · first | exact Kp_refl σ | exact Kf_back hK1
    · unfold rChance
      first
        | (rw [if_neg (by rw [cT_18]; omega)]; done)
        | (rw [if_pos (by rw [cT_18]; omega), if_pos hp0, hss, hnn]; exact (Int.natCast_ediv _ _).symm)
        | (rw [if_pos (by rw [cT_18]; omega), if_neg hp0, hss, hnn]; exact (Int.natCast_ediv _ _).symm)
  refine x_iload_n 6 C dX11_chance_5 rfl rfl rfl ?_
  refine x_bipush 8 C dX11_chance_6 rfl rfl ?_
  refine x_icmp_gt 28 11 C dX11_chance_8 rfl rfl (by omega) (by omega) (fun h8 => ?_) (fun h8 => ?_)
  · refine x_ldc2N (z := -4611686018427387904) 31 C tb_4_62 (by decide) dX11_chance_28 rfl ?_
    refine x_lret C T dX11_chance_31 ?_
    refine ⟨_, rfl, ?_, ?_⟩
    · first | exact Kp_refl σ | exact Kf_back hK1
    · unfold rChance
      first
        | (rw [if_neg (by rw [cT_18]; omega)]; done)
        | (rw [if_pos (by rw [cT_18]; omega), if_pos hp0, hss, hnn]; exact (Int.natCast_ediv _ _).symm)
        | (rw [if_pos (by rw [cT_18]; omega), if_neg hp0, hss, hnn]; exact (Int.natCast_ediv _ _).symm)
  refine x_aload_n 12 C dX11_chance_11 rfl rfl rfl ?_
  refine x_iload_n 13 C dX11_chance_12 rfl rfl rfl ?_
  refine x_callVe 16 C dX11_chance_13 rfl (c_X11_isSleeper (by omega)) rfl (lt79 (by decide)) rfl tb_3_54 tb_3_56 tb_0_16 tb_1_1 tb_3_57 (na := 1) (by decide +kernel) rfl ⟨by decide, by decide⟩ rfl (Nat.le_of_ble_eq_true rfl) rfl (fun r13 => ?_)
  first
    | refine x_ifb_eq 28 19 C dX11_chance_16 rfl rfl (fun h16 => ?_) (fun h16 => ?_)
    | refine x_if_eq 28 19 C dX11_chance_16 rfl rfl (by omega) (fun h16 => ?_) (fun h16 => ?_)
  · refine x_ldc2N (z := -4611686018427387904) 31 C tb_4_62 (by decide) dX11_chance_28 rfl ?_
    refine x_lret C T dX11_chance_31 ?_
    refine ⟨_, rfl, ?_, ?_⟩
    · first | exact Kp_refl σ | exact Kf_back hK1
    · unfold rChance
      first
        | (rw [if_neg (by rw [cT_18]; omega)]; done)
        | (rw [if_pos (by rw [cT_18]; omega), if_pos hp0, hss, hnn]; exact (Int.natCast_ediv _ _).symm)
        | (rw [if_pos (by rw [cT_18]; omega), if_neg hp0, hss, hnn]; exact (Int.natCast_ediv _ _).symm)
  refine x_iload 21 C dX11_chance_19 rfl rfl ?_
  refine x_iconst 22 C dX11_chance_21 rfl ?_
  refine x_callSe 25 C dX11_chance_22 rfl (c_X11_isWithin (by omega) (by omega)) tb_2_214 tb_2_215 tb_1_1 tb_2_216 (na := 2) (by decide +kernel) rfl ⟨by decide, by decide⟩ rfl (Nat.le_of_ble_eq_true rfl) rfl (fun r22 => ?_)
  first
    | refine x_ifb_ne 32 28 C dX11_chance_25 rfl rfl (fun h25 => ?_) (fun h25 => ?_)
    | refine x_if_ne 32 28 C dX11_chance_25 rfl rfl (by omega) (fun h25 => ?_) (fun h25 => ?_)
  · obtain ⟨n, rfl⟩ : ∃ s : Nat, n = (s : Int) := ⟨n.toNat, by omega⟩
    have hnn : (n : Int).toNat = n := Int.toNat_natCast n
    obtain ⟨s, rfl⟩ : ∃ s : Nat, w = (s : Int) := ⟨w.toNat, by omega⟩
    have hss : (s : Int).toNat = s := Int.toNat_natCast s
    refine x_aload_n 33 C dX11_chance_32 rfl rfl rfl ?_
    refine x_getr (j := 0) 36 C rfl (lt79 (by decide)) rfl rfl (by decide) inT11 tb_2_173 rfl dX11_chance_33 rfl ?_
    refine x_geti (j := 1) 39 C rfl (lt79 (by decide)) rfl rfl (by decide) inT9 tb_1_38 rfl dX11_chance_36 rfl (fun r36 => ?_)
    refine x_istore_5 41 C dX11_chance_39 rfl rfl ?_
    refine x_iconst 42 C dX11_chance_41 rfl ?_
    refine x_istore_6 44 C dX11_chance_42 rfl rfl ?_
    refine x_iconst 45 C dX11_chance_44 rfl ?_
    refine x_istore_7 47 C dX11_chance_45 rfl rfl ?_
    have L47 : ∀ (mz : Nat) (k : Nat) (y h : Int) (s1 : Sig), mz = n - k → (k ≤ n ∧ y = k ∧ Kf σ s1 ∧ h = ((chN X (cT σ) v s k : Nat) : Int)) → Ex K G (NN tc) ρ (shp tc cl) 47 [some (.ref (ρ 0)), some (.int (iZ v)), some (.int (iZ (n : Int))), some (.int (iZ (s : Int))), some (.int (iZ p)), some (.int (iZ (σ 1 1))), some (.int (iZ h)), some (.int (iZ y))] [] s1 := by
      intro mz
      induction mz using Nat.strongRecOn with
      | ind mz ih =>
        intro k y h s1 hmz hinv
        obtain ⟨hk, rfl, hK1, hh⟩ := hinv
        have hcl0 := chN_le X (cT σ) v s k
        refine x_iload 49 C dX11_chance_47 rfl rfl ?_
        refine x_iload_n 50 C dX11_chance_49 rfl rfl rfl ?_
        refine x_icmp_ge 96 53 C dX11_chance_50 rfl rfl (by omega) (by omega) (fun h50 => ?_) (fun h50 => ?_)
        · have hkn : k = n := by omega
          refine x_aload_n 97 C dX11_chance_96 rfl rfl rfl ?_
          refine x_getr (j := 0) 100 C rfl (lt79 (by decide)) rfl rfl (by decide) inT11 tb_2_173 rfl dX11_chance_97 rfl ?_
          refine x_iload 102 C dX11_chance_100 rfl rfl ?_
          refine x_puti (j := 1) tyX9 105 C rfl (lt79 (by decide)) rfl rfl (by decide) inT9 tyX9_ok nmX9 tb_1_38 rfl rfl rfl dX11_chance_102 rfl (by omega) ?_
          refine x_iload 107 C dX11_chance_105 rfl rfl ?_
          refine x_iload_n 108 C dX11_chance_107 rfl rfl rfl ?_
          rw [hh]
          have hgp := Nat.gcd_pos_of_pos_right (chN X (cT σ) v s n) (show 0 < n by omega)
          have hgl := Nat.gcd_le_right (chN X (cT σ) v s n) (show 0 < n by omega)
          have hcl := chN_le X (cT σ) v s n
          rw [hkn]
          refine x_callSe 111 C dX11_chance_108 rfl (c_X11_commonDivisor (h := chN X (cT σ) v s n) (n := n) (by omega) (by omega)) tb_4_63 tb_4_64 tb_1_1 tb_4_65 (na := 2) (by decide +kernel) rfl ⟨by decide, by decide⟩ rfl (Nat.le_of_ble_eq_true rfl) rfl (fun r108 => ?_)
          skip
          refine x_istore_7 113 C dX11_chance_111 rfl rfl ?_
          refine x_iload 115 C dX11_chance_113 rfl rfl ?_
          refine x_if_ne 127 118 C dX11_chance_115 rfl rfl (by omega) (fun h115 => ?_) (fun h115 => ?_)
          · have hp0 : p ≠ 0 := h115
            refine x_iload_n 128 C dX11_chance_127 rfl rfl rfl ?_
            refine x_iload 130 C dX11_chance_128 rfl rfl ?_
            refine x_idiv 131 C dX11_chance_130 rfl (by omega) (by omega) ?_
            refine x_i2l 132 C dX11_chance_131 rfl (by have := div_in (x := (n : Int)) (y := ((Nat.gcd (chN X (cT σ) v s n) n : Nat) : Int)) (by omega) (by omega); omega) ?_
            refine x_lret C T dX11_chance_132 ?_
            refine ⟨_, rfl, ?_, ?_⟩
            · first | exact Kp_refl σ | exact Kf_back hK1
            · unfold rChance
              first
                | (rw [if_neg (by rw [cT_18]; omega)]; done)
                | (rw [if_pos (by rw [cT_18]; omega), if_pos hp0, hss, hnn]; exact (Int.natCast_ediv _ _).symm)
                | (rw [if_pos (by rw [cT_18]; omega), if_neg hp0, hss, hnn]; exact (Int.natCast_ediv _ _).symm)
          have hp0 : p = 0 := h115
          refine x_iload 120 C dX11_chance_118 rfl rfl ?_
          refine x_iload 122 C dX11_chance_120 rfl rfl ?_
          refine x_idiv 123 C dX11_chance_122 rfl (by omega) (by omega) ?_
          refine x_i2l 124 C dX11_chance_123 rfl (by have := div_in (x := ((chN X (cT σ) v s n : Nat) : Int)) (y := ((Nat.gcd (chN X (cT σ) v s n) n : Nat) : Int)) (by omega) (by omega); omega) ?_
          refine x_goto 132 C dX11_chance_124 rfl ?_
          refine x_lret C T dX11_chance_132 ?_
          refine ⟨_, rfl, ?_, ?_⟩
          · first | exact Kp_refl σ | exact Kf_back hK1
          · unfold rChance
            first
              | (rw [if_neg (by rw [cT_18]; omega)]; done)
              | (rw [if_pos (by rw [cT_18]; omega), if_pos hp0, hss, hnn]; exact (Int.natCast_ediv _ _).symm)
              | (rw [if_pos (by rw [cT_18]; omega), if_neg hp0, hss, hnn]; exact (Int.natCast_ediv _ _).symm)
        refine x_aload_n 54 C dX11_chance_53 rfl rfl rfl ?_
        refine x_getr (j := 0) 57 C rfl (lt79 (by decide)) rfl rfl (by decide) inT11 tb_2_173 rfl dX11_chance_54 rfl ?_
        refine x_iload_n 58 C dX11_chance_57 rfl rfl rfl ?_
        refine x_iload 60 C dX11_chance_58 rfl rfl ?_
        refine x_iadd 61 C dX11_chance_60 rfl ?_
        refine x_callSe 64 C dX11_chance_61 rfl (c_X11_fogOf) tb_4_54 tb_4_55 tb_1_1 tb_4_56 (na := 1) (by decide +kernel) rfl ⟨by decide, by decide⟩ rfl (Nat.le_of_ble_eq_true rfl) rfl (fun r61 => ?_)
        refine x_puti (j := 1) tyX9 67 C rfl (lt79 (by decide)) rfl rfl (by decide) inT9 tyX9_ok nmX9 tb_1_38 rfl rfl rfl dX11_chance_64 rfl (by omega) ?_
        have hfo := fogF_in (v + (k : Int))
        have hW1 := CW_Kf hW hK1 hfo
        have eT1 : cT (up s1 1 1 (fogF (v + (k : Int)))) = up (cT σ) 1 1 (fogF (v + (k : Int))) := by rw [← cT_up1]; exact cT_keep (Kf_eq hK1)
        have q18 : (up s1 1 1 (fogF (v + (k : Int)))) 1 8 = σ 1 8 := by rw [up_i (by omega)]; exact hK1.2 8 (by omega)
        refine x_aload_n 68 C dX11_chance_67 rfl rfl rfl ?_
        refine x_getr (j := 7) 71 C rfl (lt79 (by decide)) rfl rfl (by decide) inT11 tb_2_180 rfl dX11_chance_68 rfl ?_
        refine x_callVv 74 C dX11_chance_71 rfl (c_X3_dawn hW1) rfl (lt79 (by decide)) rfl tb_3_156 tb_3_157 tb_3_158 tb_1_18 tb_3_159 (na := 0) (by decide +kernel) rfl ⟨by decide, by decide⟩ rfl (Nat.le_of_ble_eq_true rfl) rfl (fun s71 hq71 hR71 => ?_)
        obtain ⟨k1, k2, k3⟩ := hq71
        have hK2 := Kf_Kp (Kf_up (v := fogF (v + (k : Int))) hK1) k1
        refine x_aload_n 75 C dX11_chance_74 rfl rfl rfl ?_
        refine x_getr (j := 7) 78 C rfl (lt79 (by decide)) rfl rfl (by decide) inT11 tb_2_180 rfl dX11_chance_75 rfl ?_
        refine x_getr (j := 10) 81 C rfl (lt79 (by decide)) rfl rfl (by decide) inT3 tb_2_118 rfl dX11_chance_78 rfl ?_
        refine x_iload_n 82 C dX11_chance_81 rfl rfl rfl ?_
        refine x_iald 83 C rfl (lt79 (by decide)) dX11_chance_82 rfl (by omega) (by omega) (fun r82 => ?_)
        rw [hss] at r82 ⊢
        refine x_iconst 84 C dX11_chance_83 rfl ?_
        have J90 : ∀ (h4 : Int) (u : Unit), (h4 = ((chN X (cT σ) v s (k + 1) : Nat) : Int)) → Ex K G (NN tc) ρ (shp tc cl) 90 [some (.ref (ρ 0)), some (.int (iZ v)), some (.int (iZ (n : Int))), some (.int (iZ (s : Int))), some (.int (iZ p)), some (.int (iZ (σ 1 1))), some (.int (iZ h4)), some (.int (iZ (k : Int)))] [] s71 := by
          intro h4 u hinv
          have hst4 := hinv
          have hK4 := hK2
          refine x_iinc_7 93 C dX11_chance_90 rfl rfl ?_
          refine x_goto 47 C dX11_chance_93 rfl ?_
          exact ih _ (by omega) (k + 1) _ _ _ rfl ⟨by omega, by omega, hK4, hst4⟩
        refine x_icmp_eq 90 87 C dX11_chance_84 rfl rfl (by omega) (by omega) (fun h84 => ?_) (fun h84 => ?_)
        · have hst : ((chN X (cT σ) v s (k + 1) : Nat) : Int) = h := by
            simp only [chN]
            rw [← eT1, ← (k3 s (by omega)).1, if_pos h84, hh]
            omega
          exact J90 _ () hst.symm
        have hst : ((chN X (cT σ) v s (k + 1) : Nat) : Int) = h + 1 := by
          simp only [chN]
          rw [← eT1, ← (k3 s (by omega)).1, if_neg h84, hh]
          omega
        refine x_iinc_6 90 C dX11_chance_87 rfl rfl ?_
        exact J90 _ () hst.symm
    exact L47 _ 0 _ _ _ rfl ⟨by omega, rfl, Kf_refl σ, rfl⟩
  refine x_ldc2N (z := -4611686018427387904) 31 C tb_4_62 (by decide) dX11_chance_28 rfl ?_
  refine x_lret C T dX11_chance_31 ?_
  refine ⟨_, rfl, ?_, ?_⟩
  · first | exact Kp_refl σ | exact Kf_back hK1
  · unfold rChance
    first
      | (rw [if_neg (by rw [cT_18]; omega)]; done)
      | (rw [if_pos (by rw [cT_18]; omega), if_pos hp0, hss, hnn]; exact (Int.natCast_ediv _ _).symm)
      | (rw [if_pos (by rw [cT_18]; omega), if_neg hp0, hss, hnn]; exact (Int.natCast_ediv _ _).symm)
