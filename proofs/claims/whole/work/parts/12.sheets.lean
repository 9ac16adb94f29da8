set_option maxHeartbeats 4000000 in
set_option maxRecDepth 100000 in
theorem c_J7_fill_53178 {l : Launch} {G : Gt} {ρ : Nat → Nat} {tc : Nat} {cl : Nat → Nat} {σ : Sig} {lb len : Nat} {v : Int} (hs : shp tc cl lb = cA len) (hN : lb < NN tc) (hl : len ≤ 2147483647) (hv : -2147483648 ≤ v ∧ v ≤ 2147483647) : MX l yJ7_fill_53178 cJ7_fill_53178 4 none 0 0 G (NN tc) ρ (shp tc cl) [.ref (ρ lb), .int (iZ v)] σ (PV (fun σ' => σ' = fun a b => if a = lb ∧ b < len then v else σ a b)) := by
  refine MX_of [some (.ref (ρ lb)), some (.int (iZ v)), none, none] (by decide +kernel) rfl rfl (Nat.le_of_ble_eq_true rfl) ?_
  intro K hKl C T hRng
  subst hKl
  refine x_iconst 1 C dJ7_fill_53178_0 rfl ?_
  refine x_istore_n2 2 C dJ7_fill_53178_1 rfl rfl ?_
  refine x_aload_n 3 C dJ7_fill_53178_2 rfl rfl rfl ?_
  refine x_alen 4 C hs hN dJ7_fill_53178_3 rfl ?_
  refine x_istore_n3 5 C dJ7_fill_53178_4 rfl rfl ?_
  have L5 : ∀ (m : Nat) (i : Nat) (y : Int) (s1 : Sig), m = len - i → (i ≤ len ∧ y = i ∧ s1 = (fun a b => if a = lb ∧ b < i then v else σ a b)) → Ex K G (NN tc) ρ (shp tc cl) 5 [some (.ref (ρ lb)), some (.int (iZ v)), some (.int (iZ y)), some (.int (iZ (len : Int)))] [] s1 := by
    intro m
    induction m using Nat.strongRecOn with
    | ind m ih =>
      intro i y s1 hm hinv
      obtain ⟨hi, rfl, hs1⟩ := hinv
      refine x_iload_n 6 C dJ7_fill_53178_5 rfl rfl rfl ?_
      refine x_iload_n 7 C dJ7_fill_53178_6 rfl rfl rfl ?_
      refine x_icmp_ge 20 10 C dJ7_fill_53178_7 rfl rfl (by omega) (by omega) (fun h7 => ?_) (fun h7 => ?_)
      · refine x_vret C T dJ7_fill_53178_20 ?_
        refine PV_i ?_
        rw [hs1, show i = len by omega]
      refine x_aload_n 11 C dJ7_fill_53178_10 rfl rfl rfl ?_
      refine x_iload_n 12 C dJ7_fill_53178_11 rfl rfl rfl ?_
      refine x_iload_n 13 C dJ7_fill_53178_12 rfl rfl rfl ?_
      refine x_iast 14 C hs hN dJ7_fill_53178_13 rfl (by omega) (by omega) (by omega) ?_
      refine x_iinc_2 17 C dJ7_fill_53178_14 rfl rfl ?_
      refine x_goto 5 C dJ7_fill_53178_17 rfl ?_
      refine ih _ ?_ (i + 1) _ _ rfl ⟨by omega, by omega, ?_⟩
      · omega
      · rw [hs1]
        funext a b
        simp only [up, Int.toNat_natCast]
        by_cases h1 : a = lb
        · by_cases h2 : b = i
          · simp [h1, h2]
          · by_cases h3 : b < i
            · simp [h1, h2, h3, show b < i + 1 by omega]
            · simp [h1, h2, h3, show ¬ b < i + 1 by omega]
        · simp [h1]
  exact L5 _ 0 _ _ rfl ⟨by omega, rfl, by funext a b; simp⟩

section ROWS
variable {K : Mk} {G : Gt} {N : Nat} {ρ : Nat → Nat} {sh : Nat → Shc} {own : String} {cc : ByteArray} {nL fr lo : Nat} {pc n : Nat} {lv : List (Option Value)} {st : List Value} {σ : Sig}
theorem x_mmax {ix : Nat} {x y : Int} (n : Nat) (C : Cx K G N ρ own cc nL fr lo) (w1 : Cond.methodLink own ix Lib.Math.max.name ∈ TB) (w2 : Cond.static Lib.Math.max.name ∈ TB) (w3 : Cond.initialized "java/lang/Math" ∈ TB) (w4 : Cond.code Lib.Math.max.name Lib.Math.max.code 2 (some .int) ∈ TB) (d : decode cc pc = .ok (.invokestatic ix, 3)) (hn : pc + 3 = n) (hxr : -2147483648 ≤ x ∧ x ≤ 2147483647) (hyr : -2147483648 ≤ y ∧ y ≤ 2147483647) (hro : 1 ≤ fr ∧ (st.map fun v => v.category).sum + 13 ≤ lo) (hlv : lv.length = nL) (k : Ex K G N ρ sh n lv (.int (iZ (if x < y then y else x)) :: st) (σ)) : Ex K G N ρ sh pc lv (.int (iZ y) :: .int (iZ x) :: st) (σ) := by
  obtain ⟨p, l, e, R, s, m, args, below, meth, c, cells, slots, Q⟩ := K
  obtain ⟨hx, hb, hml, hown, hts, hlk, hK, hI, hO, hfr, hlo, hce, hsl, hN2⟩ := C
  subst hn; intro hR H locs ls hP hS hl
  refine va_mmax hx hb (hml.trans (hlv.symm.trans hl.1.symm)) hown (hts _ w1) (hts _ w2) (hts _ w3) (hts _ w4) (by omega) (by omega) hce hsl d ?_
  have e : (if iZ x < iZ y then iZ y else iZ x) = iZ (if x < y then y else x) := by
    split
    · rename_i h
      rw [iZ_lt hxr hyr] at h
      rw [if_pos h]
    · rename_i h
      rw [iZ_lt hxr hyr] at h
      rw [if_neg h]
  rw [e]
  exact k hR H locs ls hP hS hl
theorem x_mmin {ix : Nat} {x y : Int} (n : Nat) (C : Cx K G N ρ own cc nL fr lo) (w1 : Cond.methodLink own ix Lib.Math.min.name ∈ TB) (w2 : Cond.static Lib.Math.min.name ∈ TB) (w3 : Cond.initialized "java/lang/Math" ∈ TB) (w4 : Cond.code Lib.Math.min.name Lib.Math.min.code 2 (some .int) ∈ TB) (d : decode cc pc = .ok (.invokestatic ix, 3)) (hn : pc + 3 = n) (hxr : -2147483648 ≤ x ∧ x ≤ 2147483647) (hyr : -2147483648 ≤ y ∧ y ≤ 2147483647) (hro : 1 ≤ fr ∧ (st.map fun v => v.category).sum + 13 ≤ lo) (hlv : lv.length = nL) (k : Ex K G N ρ sh n lv (.int (iZ (if y < x then y else x)) :: st) (σ)) : Ex K G N ρ sh pc lv (.int (iZ y) :: .int (iZ x) :: st) (σ) := by
  obtain ⟨p, l, e, R, s, m, args, below, meth, c, cells, slots, Q⟩ := K
  obtain ⟨hx, hb, hml, hown, hts, hlk, hK, hI, hO, hfr, hlo, hce, hsl, hN2⟩ := C
  subst hn; intro hR H locs ls hP hS hl
  refine va_mmin hx hb (hml.trans (hlv.symm.trans hl.1.symm)) hown (hts _ w1) (hts _ w2) (hts _ w3) (hts _ w4) (by omega) (by omega) hce hsl d ?_
  have e : (if iZ y < iZ x then iZ y else iZ x) = iZ (if y < x then y else x) := by
    split
    · rename_i h
      rw [iZ_lt hyr hxr] at h
      rw [if_pos h]
    · rename_i h
      rw [iZ_lt hyr hxr] at h
      rw [if_neg h]
  rw [e]
  exact k hR H locs ls hP hS hl
end ROWS
def byteZ (x : Int) : Int := (x + 128) % 256 - 128
def shortZ (x : Int) : Int := (x + 32768) % 65536 - 32768
theorem iZ_byte {x : Int} (h : -2147483648 ≤ x ∧ x ≤ 2147483647) : (iZ x).toInt8.toInt32 = iZ (byteZ x) := by
  apply Int32.toInt_inj.mp
  rw [Int8.toInt_toInt32, Int32.toInt_toInt8, iZ_toInt h, iZ_toInt (by unfold byteZ; omega), Int.bmod_def]
  unfold byteZ
  split <;> omega
theorem iZ_short {x : Int} (h : -2147483648 ≤ x ∧ x ≤ 2147483647) : (iZ x).toInt16.toInt32 = iZ (shortZ x) := by
  apply Int32.toInt_inj.mp
  rw [Int16.toInt_toInt32, Int32.toInt_toInt16, iZ_toInt h, iZ_toInt (by unfold shortZ; omega), Int.bmod_def]
  unfold shortZ
  split <;> omega
def sortZ (s v : Int) : Int := if s = 0 then byteZ v else if s = 1 then shortZ v else v
/-- the sheets' sorts and sizes -/
def SI (σ : Sig) : Prop := ∀ i : Nat, i < 4 → (-1 ≤ σ (43 + i) 1 ∧ σ (43 + i) 1 ≤ 2) ∧ (0 ≤ σ (43 + i) 2 ∧ σ (43 + i) 2 ≤ 40)
set_option maxHeartbeats 4000000 in
set_option maxRecDepth 100000 in
theorem c_X6_holds {l : Launch} {G : Gt} {ρ : Nat → Nat} {tc : Nat} {cl : Nat → Nat} {σ : Sig} {i : Nat} (hi : i < 4) {f n : Int} (hf : -2147483648 ≤ f ∧ f ≤ 2147483647) (hn : -2147483648 ≤ n ∧ n ≤ 2147483647) (hS : SI σ) : MX l yX6_holds cX6_holds 3 (some .boolean) 0 0 G (NN tc) ρ (shp tc cl) [.ref (ρ (43 + i)), .int (iZ f), .int (iZ n)] σ (PE σ (b2 (0 ≤ f ∧ 0 ≤ n ∧ f ≤ σ (43 + i) 2 - n))) := by
  refine MX_of [some (.ref (ρ (43 + i))), some (.int (iZ f)), some (.int (iZ n))] (by decide +kernel) rfl rfl (Nat.le_of_ble_eq_true rfl) ?_
  intro K hKl C T hRng
  subst hKl
  have hz := (hS i hi).2
  refine x_iload_n 1 C dX6_holds_0 rfl rfl rfl ?_
  refine x_if_lt 22 4 C dX6_holds_1 rfl rfl (by omega) (fun h1 => ?_) (fun h1 => ?_)
  · refine x_iconst 23 C dX6_holds_22 rfl ?_
    refine x_zret C T dX6_holds_23 (by omega) ?_
    exact PE_i (by unfold b2; split <;> omega) (by omega)
  refine x_iload_n 5 C dX6_holds_4 rfl rfl rfl ?_
  refine x_if_lt 22 8 C dX6_holds_5 rfl rfl (by omega) (fun h5 => ?_) (fun h5 => ?_)
  · refine x_iconst 23 C dX6_holds_22 rfl ?_
    refine x_zret C T dX6_holds_23 (by omega) ?_
    exact PE_i (by unfold b2; split <;> omega) (by omega)
  refine x_iload_n 9 C dX6_holds_8 rfl rfl rfl ?_
  refine x_aload_n 10 C dX6_holds_9 rfl rfl rfl ?_
  refine x_geti (j := 2) 13 C (sh_sheet hi) (by unfold NN; omega) rfl rfl (by decide) inT6 tb_2_164 rfl dX6_holds_10 rfl (fun r10 => ?_)
  refine x_iload_n 14 C dX6_holds_13 rfl rfl rfl ?_
  refine x_isub 15 C dX6_holds_14 rfl ?_
  refine x_icmp_gt 22 18 C dX6_holds_15 rfl rfl (by omega) (by omega) (fun h15 => ?_) (fun h15 => ?_)
  · refine x_iconst 23 C dX6_holds_22 rfl ?_
    refine x_zret C T dX6_holds_23 (by omega) ?_
    exact PE_i (by unfold b2; split <;> omega) (by omega)
  refine x_iconst 19 C dX6_holds_18 rfl ?_
  refine x_goto 23 C dX6_holds_19 rfl ?_
  refine x_zret C T dX6_holds_23 (by omega) ?_
  exact PE_i (by unfold b2; split <;> omega) (by omega)

set_option maxHeartbeats 4000000 in
set_option maxRecDepth 100000 in
theorem c_X6_put {l : Launch} {G : Gt} {ρ : Nat → Nat} {tc : Nat} {cl : Nat → Nat} {σ : Sig} {i : Nat} (hi : i < 4) {q v : Int} (hq : 0 ≤ q ∧ q < 40) (hv : -2147483648 ≤ v ∧ v ≤ 2147483647) : MX l yX6_put cX6_put 3 none 0 0 G (NN tc) ρ (shp tc cl) [.ref (ρ (43 + i)), .int (iZ q), .int (iZ v)] σ (PV (fun σ' => σ' = up σ (47 + i) q.toNat (sortZ (σ (43 + i) 1) v))) := by
  refine MX_of [some (.ref (ρ (43 + i))), some (.int (iZ q)), some (.int (iZ v))] (by decide +kernel) rfl rfl (Nat.le_of_ble_eq_true rfl) ?_
  intro K hKl C T hRng
  subst hKl
  refine x_aload_n 1 C dX6_put_0 rfl rfl rfl ?_
  refine x_getr (j := 0) 4 C (sh_sheet hi) (by unfold NN; omega) rfl rfl (by decide) inT6 tb_2_160 rfl dX6_put_1 rfl ?_
  refine x_iload_n 5 C dX6_put_4 rfl rfl rfl ?_
  refine x_aload_n 6 C dX6_put_5 rfl rfl rfl ?_
  refine x_geti (j := 1) 9 C (sh_sheet hi) (by unfold NN; omega) rfl rfl (by decide) inT6 tb_2_162 rfl dX6_put_6 rfl (fun r6 => ?_)
  first
    | refine x_ifb_ne 17 12 C dX6_put_9 rfl rfl (fun h9 => ?_) (fun h9 => ?_)
    | refine x_if_ne 17 12 C dX6_put_9 rfl rfl (by omega) (fun h9 => ?_) (fun h9 => ?_)
  rotate_left
  · refine x_iload_n 13 C dX6_put_12 rfl rfl rfl ?_
    refine x_i2b (byteZ v) 14 C dX6_put_13 rfl (iZ_byte hv) ?_
    refine x_goto 31 C dX6_put_14 rfl ?_
    refine x_iast 32 C (sh_items hi) (by unfold NN; omega) dX6_put_31 rfl (by omega) (by omega) (by first | omega | (unfold byteZ; omega) | (unfold shortZ; omega)) ?_
    refine x_vret C T dX6_put_32 ?_
    refine PV_i ?_
    unfold sortZ
    first | rw [if_pos (by omega)] | rw [if_neg (by omega), if_pos (by omega)] | rw [if_neg (by omega), if_neg (by omega)]
  refine x_aload_n 18 C dX6_put_17 rfl rfl rfl ?_
  refine x_geti (j := 1) 21 C (sh_sheet hi) (by unfold NN; omega) rfl rfl (by decide) inT6 tb_2_162 rfl dX6_put_18 rfl (fun r18 => ?_)
  refine x_iconst 22 C dX6_put_21 rfl ?_
  refine x_icmp_ne 30 25 C dX6_put_22 rfl rfl (by omega) (by omega) (fun h22 => ?_) (fun h22 => ?_)
  · refine x_iload_n 31 C dX6_put_30 rfl rfl rfl ?_
    refine x_iast 32 C (sh_items hi) (by unfold NN; omega) dX6_put_31 rfl (by omega) (by omega) (by first | omega | (unfold byteZ; omega) | (unfold shortZ; omega)) ?_
    refine x_vret C T dX6_put_32 ?_
    refine PV_i ?_
    unfold sortZ
    first | rw [if_pos (by omega)] | rw [if_neg (by omega), if_pos (by omega)] | rw [if_neg (by omega), if_neg (by omega)]
  refine x_iload_n 26 C dX6_put_25 rfl rfl rfl ?_
  refine x_i2s (shortZ v) 27 C dX6_put_26 rfl (iZ_short hv) ?_
  refine x_goto 31 C dX6_put_27 rfl ?_
  refine x_iast 32 C (sh_items hi) (by unfold NN; omega) dX6_put_31 rfl (by omega) (by omega) (by first | omega | (unfold byteZ; omega) | (unfold shortZ; omega)) ?_
  refine x_vret C T dX6_put_32 ?_
  refine PV_i ?_
  unfold sortZ
  first | rw [if_pos (by omega)] | rw [if_neg (by omega), if_pos (by omega)] | rw [if_neg (by omega), if_neg (by omega)]

set_option maxHeartbeats 4000000 in
set_option maxRecDepth 100000 in
theorem c_X6_become {l : Launch} {G : Gt} {ρ : Nat → Nat} {tc : Nat} {cl : Nat → Nat} {σ : Sig} {i : Nat} (hi : i < 4) {s n : Int} (hs : -2147483648 ≤ s ∧ s ≤ 2147483647) (hn : -2147483648 ≤ n ∧ n ≤ 2147483647) : MX l yX6_become cX6_become 3 none 1 23 G (NN tc) ρ (shp tc cl) [.ref (ρ (43 + i)), .int (iZ s), .int (iZ n)] σ (PV (fun σ' => σ' = fun a b => if a = 47 + i ∧ b < 40 then 0 else up (up σ (43 + i) 1 s) (43 + i) 2 n a b)) := by
  refine MX_of [some (.ref (ρ (43 + i))), some (.int (iZ s)), some (.int (iZ n))] (by decide +kernel) rfl rfl (Nat.le_of_ble_eq_true rfl) ?_
  intro K hKl C T hRng
  subst hKl
  refine x_aload_n 1 C dX6_become_0 rfl rfl rfl ?_
  refine x_iload_n 2 C dX6_become_1 rfl rfl rfl ?_
  refine x_puti (j := 1) tyX6 5 C (sh_sheet hi) (by unfold NN; omega) rfl rfl (by decide) inT6 tyX6_ok nmX6 tb_2_162 rfl rfl rfl dX6_become_2 rfl (by omega) ?_
  refine x_aload_n 6 C dX6_become_5 rfl rfl rfl ?_
  refine x_iload_n 7 C dX6_become_6 rfl rfl rfl ?_
  refine x_puti (j := 2) tyX6 10 C (sh_sheet hi) (by unfold NN; omega) rfl rfl (by decide) inT6 tyX6_ok nmX6 tb_2_164 rfl rfl rfl dX6_become_7 rfl (by omega) ?_
  refine x_aload_n 11 C dX6_become_10 rfl rfl rfl ?_
  refine x_getr (j := 0) 14 C (sh_sheet hi) (by unfold NN; omega) rfl rfl (by decide) inT6 tb_2_160 rfl dX6_become_11 rfl ?_
  refine x_iconst 15 C dX6_become_14 rfl ?_
  refine x_callTv 18 C dX6_become_15 rfl (c_J7_fill_53178 (sh_items hi) (by unfold NN; omega) (by omega) (by omega)) tb_4_96 tb_3_199 tb_1_15 tb_3_200 (na := 2) (by decide +kernel) rfl ⟨by decide, by decide⟩ rfl (Nat.le_of_ble_eq_true rfl) rfl (fun s15 hq15 hR15 => ?_)
  refine x_vret C T dX6_become_18 ?_
  exact PV_i hq15

def rX_sheet (σ : Sig) (s q n : Int) : Int := if 0 ≤ s ∧ s < 4 ∧ -1 ≤ q ∧ q ≤ 2 ∧ (q = -1 ∨ n ≤ 40) then (if q ≠ -1 ∧ n < 0 then -14 else 1) else -2
def nX_sheet (σ : Sig) (s q n : Int) : Sig := if 0 ≤ s ∧ s < 4 ∧ -1 ≤ q ∧ q ≤ 2 ∧ (q = -1 ∨ n ≤ 40) ∧ ¬ (q ≠ -1 ∧ n < 0) then (fun a b => if a = 47 + s.toNat ∧ b < 40 then 0 else up (up σ (43 + s.toNat) 1 q) (43 + s.toNat) 2 (if q = -1 then 0 else n) a b) else σ
set_option maxHeartbeats 4000000 in
set_option maxRecDepth 100000 in
theorem c_X11_sheet {l : Launch} {G : Gt} {ρ : Nat → Nat} {tc : Nat} {cl : Nat → Nat} {σ : Sig} {s q n : Int} (hs : -2147483648 ≤ s ∧ s ≤ 2147483647) (hq : -2147483648 ≤ q ∧ q ≤ 2147483647) (hn : -2147483648 ≤ n ∧ n ≤ 2147483647) : MX l yX11_sheet cX11_sheet 4 (some .int) 2 45 G (NN tc) ρ (shp tc cl) [.ref (ρ 0), .int (iZ s), .int (iZ q), .int (iZ n)] σ (PI (fun z σ' => z = rX_sheet σ s q n ∧ σ' = nX_sheet σ s q n)) := by
  refine MX_of [some (.ref (ρ 0)), some (.int (iZ s)), some (.int (iZ q)), some (.int (iZ n))] (by decide +kernel) rfl rfl (Nat.le_of_ble_eq_true rfl) ?_
  intro K hKl C T hRng
  subst hKl
  refine x_iload_n 1 C dX11_sheet_0 rfl rfl rfl ?_
  refine x_callSe 4 C dX11_sheet_1 rfl (c_X11_isSheet (by omega)) tb_4_27 tb_4_28 tb_1_1 tb_4_29 (na := 1) (by decide +kernel) rfl ⟨by decide, by decide⟩ rfl (Nat.le_of_ble_eq_true rfl) rfl (fun r1 => ?_)
  first
    | refine x_ifb_eq 17 7 C dX11_sheet_4 rfl rfl (fun h4 => ?_) (fun h4 => ?_)
    | refine x_if_eq 17 7 C dX11_sheet_4 rfl rfl (by omega) (fun h4 => ?_) (fun h4 => ?_)
  · refine x_bipush 19 C dX11_sheet_17 rfl rfl ?_
    refine x_iret C T dX11_sheet_19 ?_
    refine PI_i (by omega) ?_
    unfold rX_sheet nX_sheet
    first
      | (rw [if_neg (by omega), if_neg (by omega)]; exact ⟨rfl, rfl⟩)
      | (rw [if_pos (by omega), if_pos (by omega), if_neg (by omega)]; exact ⟨rfl, rfl⟩)
      | (rw [if_pos (by omega), if_neg (by omega), if_pos (by omega), ← hinv]; exact ⟨rfl, rfl⟩)
  refine x_iload_n 8 C dX11_sheet_7 rfl rfl rfl ?_
  refine x_iconst 9 C dX11_sheet_8 rfl ?_
  refine x_icmp_lt 17 12 C dX11_sheet_9 rfl rfl (by omega) (by omega) (fun h9 => ?_) (fun h9 => ?_)
  · refine x_bipush 19 C dX11_sheet_17 rfl rfl ?_
    refine x_iret C T dX11_sheet_19 ?_
    refine PI_i (by omega) ?_
    unfold rX_sheet nX_sheet
    first
      | (rw [if_neg (by omega), if_neg (by omega)]; exact ⟨rfl, rfl⟩)
      | (rw [if_pos (by omega), if_pos (by omega), if_neg (by omega)]; exact ⟨rfl, rfl⟩)
      | (rw [if_pos (by omega), if_neg (by omega), if_pos (by omega), ← hinv]; exact ⟨rfl, rfl⟩)
  refine x_iload_n 13 C dX11_sheet_12 rfl rfl rfl ?_
  refine x_iconst 14 C dX11_sheet_13 rfl ?_
  refine x_icmp_le 20 17 C dX11_sheet_14 rfl rfl (by omega) (by omega) (fun h14 => ?_) (fun h14 => ?_)
  rotate_left
  · refine x_bipush 19 C dX11_sheet_17 rfl rfl ?_
    refine x_iret C T dX11_sheet_19 ?_
    refine PI_i (by omega) ?_
    unfold rX_sheet nX_sheet
    first
      | (rw [if_neg (by omega), if_neg (by omega)]; exact ⟨rfl, rfl⟩)
      | (rw [if_pos (by omega), if_pos (by omega), if_neg (by omega)]; exact ⟨rfl, rfl⟩)
      | (rw [if_pos (by omega), if_neg (by omega), if_pos (by omega), ← hinv]; exact ⟨rfl, rfl⟩)
  refine x_iload_n 21 C dX11_sheet_20 rfl rfl rfl ?_
  refine x_iconst 22 C dX11_sheet_21 rfl ?_
  refine x_icmp_eq 34 25 C dX11_sheet_22 rfl rfl (by omega) (by omega) (fun h22 => ?_) (fun h22 => ?_)
  · refine x_iload_n 35 C dX11_sheet_34 rfl rfl rfl ?_
    refine x_iconst 36 C dX11_sheet_35 rfl ?_
    refine x_icmp_eq 46 39 C dX11_sheet_36 rfl rfl (by omega) (by omega) (fun h36 => ?_) (fun h36 => ?_)
    · have J63 : ∀ (w : Int), w = (if q = -1 then 0 else n) → Ex K G (NN tc) ρ (shp tc cl) 63 [some (.ref (ρ 0)), some (.int (iZ s)), some (.int (iZ q)), some (.int (iZ n))] [.int (iZ w), .int (iZ q), .ref (ρ (43 + s.toNat))] σ := by
        intro w hinv
        have hw : -2147483648 ≤ w ∧ w ≤ 2147483647 := by rw [hinv]; split <;> omega
        refine x_callVv 66 C dX11_sheet_63 rfl (c_X6_become (by omega) (by omega) (by omega)) (sh_sheet (i := s.toNat) (by omega)) (by unfold NN; omega) rfl tb_4_92 tb_4_93 tb_4_94 tb_1_19 tb_4_95 (na := 2) (by decide +kernel) rfl ⟨by decide, by decide⟩ rfl (Nat.le_of_ble_eq_true rfl) rfl (fun s63 hq63 hR63 => ?_)
        subst hq63
        refine x_iconst 67 C dX11_sheet_66 rfl ?_
        refine x_iret C T dX11_sheet_67 ?_
        refine PI_i (by omega) ?_
        unfold rX_sheet nX_sheet
        first
          | (rw [if_neg (by omega), if_neg (by omega)]; exact ⟨rfl, rfl⟩)
          | (rw [if_pos (by omega), if_pos (by omega), if_neg (by omega)]; exact ⟨rfl, rfl⟩)
          | (rw [if_pos (by omega), if_neg (by omega), if_pos (by omega), ← hinv]; exact ⟨rfl, rfl⟩)
      refine x_aload_n 47 C dX11_sheet_46 rfl rfl rfl ?_
      refine x_getr (j := 8) 50 C rfl (lt79 (by decide)) rfl rfl (by decide) inT11 tb_2_181 rfl dX11_sheet_47 rfl ?_
      refine x_iload_n 51 C dX11_sheet_50 rfl rfl rfl ?_
      refine x_aald2 52 C rfl (lt79 (by decide)) dX11_sheet_51 rfl (by omega) (by omega) rfl ?_
      refine x_iload_n 53 C dX11_sheet_52 rfl rfl rfl ?_
      refine x_iload_n 54 C dX11_sheet_53 rfl rfl rfl ?_
      refine x_iconst 55 C dX11_sheet_54 rfl ?_
      refine x_icmp_ne 62 58 C dX11_sheet_55 rfl rfl (by omega) (by omega) (fun h55 => ?_) (fun h55 => ?_)
      · refine x_iload_n 63 C dX11_sheet_62 rfl rfl rfl ?_
        exact J63 _ (by first | (exfalso; omega) | rw [if_pos (by omega)] | rw [if_neg (by omega)])
      refine x_iconst 59 C dX11_sheet_58 rfl ?_
      refine x_goto 63 C dX11_sheet_59 rfl ?_
      exact J63 _ (by first | (exfalso; omega) | rw [if_pos (by omega)] | rw [if_neg (by omega)])
    refine x_iload_n 40 C dX11_sheet_39 rfl rfl rfl ?_
    refine x_if_ge 46 43 C dX11_sheet_40 rfl rfl (by omega) (fun h40 => ?_) (fun h40 => ?_)
    rotate_left
    · refine x_bipush 45 C dX11_sheet_43 rfl rfl ?_
      refine x_iret C T dX11_sheet_45 ?_
      refine PI_i (by omega) ?_
      unfold rX_sheet nX_sheet
      first
        | (rw [if_neg (by omega), if_neg (by omega)]; exact ⟨rfl, rfl⟩)
        | (rw [if_pos (by omega), if_pos (by omega), if_neg (by omega)]; exact ⟨rfl, rfl⟩)
        | (rw [if_pos (by omega), if_neg (by omega), if_pos (by omega), ← hinv]; exact ⟨rfl, rfl⟩)
    have J63 : ∀ (w : Int), w = (if q = -1 then 0 else n) → Ex K G (NN tc) ρ (shp tc cl) 63 [some (.ref (ρ 0)), some (.int (iZ s)), some (.int (iZ q)), some (.int (iZ n))] [.int (iZ w), .int (iZ q), .ref (ρ (43 + s.toNat))] σ := by
      intro w hinv
      have hw : -2147483648 ≤ w ∧ w ≤ 2147483647 := by rw [hinv]; split <;> omega
      refine x_callVv 66 C dX11_sheet_63 rfl (c_X6_become (by omega) (by omega) (by omega)) (sh_sheet (i := s.toNat) (by omega)) (by unfold NN; omega) rfl tb_4_92 tb_4_93 tb_4_94 tb_1_19 tb_4_95 (na := 2) (by decide +kernel) rfl ⟨by decide, by decide⟩ rfl (Nat.le_of_ble_eq_true rfl) rfl (fun s63 hq63 hR63 => ?_)
      subst hq63
      refine x_iconst 67 C dX11_sheet_66 rfl ?_
      refine x_iret C T dX11_sheet_67 ?_
      refine PI_i (by omega) ?_
      unfold rX_sheet nX_sheet
      first
        | (rw [if_neg (by omega), if_neg (by omega)]; exact ⟨rfl, rfl⟩)
        | (rw [if_pos (by omega), if_pos (by omega), if_neg (by omega)]; exact ⟨rfl, rfl⟩)
        | (rw [if_pos (by omega), if_neg (by omega), if_pos (by omega), ← hinv]; exact ⟨rfl, rfl⟩)
    refine x_aload_n 47 C dX11_sheet_46 rfl rfl rfl ?_
    refine x_getr (j := 8) 50 C rfl (lt79 (by decide)) rfl rfl (by decide) inT11 tb_2_181 rfl dX11_sheet_47 rfl ?_
    refine x_iload_n 51 C dX11_sheet_50 rfl rfl rfl ?_
    refine x_aald2 52 C rfl (lt79 (by decide)) dX11_sheet_51 rfl (by omega) (by omega) rfl ?_
    refine x_iload_n 53 C dX11_sheet_52 rfl rfl rfl ?_
    refine x_iload_n 54 C dX11_sheet_53 rfl rfl rfl ?_
    refine x_iconst 55 C dX11_sheet_54 rfl ?_
    refine x_icmp_ne 62 58 C dX11_sheet_55 rfl rfl (by omega) (by omega) (fun h55 => ?_) (fun h55 => ?_)
    · refine x_iload_n 63 C dX11_sheet_62 rfl rfl rfl ?_
      exact J63 _ (by first | (exfalso; omega) | rw [if_pos (by omega)] | rw [if_neg (by omega)])
    refine x_iconst 59 C dX11_sheet_58 rfl ?_
    refine x_goto 63 C dX11_sheet_59 rfl ?_
    exact J63 _ (by first | (exfalso; omega) | rw [if_pos (by omega)] | rw [if_neg (by omega)])
  refine x_iload_n 26 C dX11_sheet_25 rfl rfl rfl ?_
  refine x_bipush 28 C dX11_sheet_26 rfl rfl ?_
  refine x_icmp_le 34 31 C dX11_sheet_28 rfl rfl (by omega) (by omega) (fun h28 => ?_) (fun h28 => ?_)
  rotate_left
  · refine x_bipush 33 C dX11_sheet_31 rfl rfl ?_
    refine x_iret C T dX11_sheet_33 ?_
    refine PI_i (by omega) ?_
    unfold rX_sheet nX_sheet
    first
      | (rw [if_neg (by omega), if_neg (by omega)]; exact ⟨rfl, rfl⟩)
      | (rw [if_pos (by omega), if_pos (by omega), if_neg (by omega)]; exact ⟨rfl, rfl⟩)
      | (rw [if_pos (by omega), if_neg (by omega), if_pos (by omega), ← hinv]; exact ⟨rfl, rfl⟩)
  refine x_iload_n 35 C dX11_sheet_34 rfl rfl rfl ?_
  refine x_iconst 36 C dX11_sheet_35 rfl ?_
  refine x_icmp_eq 46 39 C dX11_sheet_36 rfl rfl (by omega) (by omega) (fun h36 => ?_) (fun h36 => ?_)
  · have J63 : ∀ (w : Int), w = (if q = -1 then 0 else n) → Ex K G (NN tc) ρ (shp tc cl) 63 [some (.ref (ρ 0)), some (.int (iZ s)), some (.int (iZ q)), some (.int (iZ n))] [.int (iZ w), .int (iZ q), .ref (ρ (43 + s.toNat))] σ := by
      intro w hinv
      have hw : -2147483648 ≤ w ∧ w ≤ 2147483647 := by rw [hinv]; split <;> omega
      refine x_callVv 66 C dX11_sheet_63 rfl (c_X6_become (by omega) (by omega) (by omega)) (sh_sheet (i := s.toNat) (by omega)) (by unfold NN; omega) rfl tb_4_92 tb_4_93 tb_4_94 tb_1_19 tb_4_95 (na := 2) (by decide +kernel) rfl ⟨by decide, by decide⟩ rfl (Nat.le_of_ble_eq_true rfl) rfl (fun s63 hq63 hR63 => ?_)
      subst hq63
      refine x_iconst 67 C dX11_sheet_66 rfl ?_
      refine x_iret C T dX11_sheet_67 ?_
      refine PI_i (by omega) ?_
      unfold rX_sheet nX_sheet
      first
        | (rw [if_neg (by omega), if_neg (by omega)]; exact ⟨rfl, rfl⟩)
        | (rw [if_pos (by omega), if_pos (by omega), if_neg (by omega)]; exact ⟨rfl, rfl⟩)
        | (rw [if_pos (by omega), if_neg (by omega), if_pos (by omega), ← hinv]; exact ⟨rfl, rfl⟩)
    refine x_aload_n 47 C dX11_sheet_46 rfl rfl rfl ?_
    refine x_getr (j := 8) 50 C rfl (lt79 (by decide)) rfl rfl (by decide) inT11 tb_2_181 rfl dX11_sheet_47 rfl ?_
    refine x_iload_n 51 C dX11_sheet_50 rfl rfl rfl ?_
    refine x_aald2 52 C rfl (lt79 (by decide)) dX11_sheet_51 rfl (by omega) (by omega) rfl ?_
    refine x_iload_n 53 C dX11_sheet_52 rfl rfl rfl ?_
    refine x_iload_n 54 C dX11_sheet_53 rfl rfl rfl ?_
    refine x_iconst 55 C dX11_sheet_54 rfl ?_
    refine x_icmp_ne 62 58 C dX11_sheet_55 rfl rfl (by omega) (by omega) (fun h55 => ?_) (fun h55 => ?_)
    · refine x_iload_n 63 C dX11_sheet_62 rfl rfl rfl ?_
      exact J63 _ (by first | (exfalso; omega) | rw [if_pos (by omega)] | rw [if_neg (by omega)])
    refine x_iconst 59 C dX11_sheet_58 rfl ?_
    refine x_goto 63 C dX11_sheet_59 rfl ?_
    exact J63 _ (by first | (exfalso; omega) | rw [if_pos (by omega)] | rw [if_neg (by omega)])
  refine x_iload_n 40 C dX11_sheet_39 rfl rfl rfl ?_
  refine x_if_ge 46 43 C dX11_sheet_40 rfl rfl (by omega) (fun h40 => ?_) (fun h40 => ?_)
  rotate_left
  · refine x_bipush 45 C dX11_sheet_43 rfl rfl ?_
    refine x_iret C T dX11_sheet_45 ?_
    refine PI_i (by omega) ?_
    unfold rX_sheet nX_sheet
    first
      | (rw [if_neg (by omega), if_neg (by omega)]; exact ⟨rfl, rfl⟩)
      | (rw [if_pos (by omega), if_pos (by omega), if_neg (by omega)]; exact ⟨rfl, rfl⟩)
      | (rw [if_pos (by omega), if_neg (by omega), if_pos (by omega), ← hinv]; exact ⟨rfl, rfl⟩)
  have J63 : ∀ (w : Int), w = (if q = -1 then 0 else n) → Ex K G (NN tc) ρ (shp tc cl) 63 [some (.ref (ρ 0)), some (.int (iZ s)), some (.int (iZ q)), some (.int (iZ n))] [.int (iZ w), .int (iZ q), .ref (ρ (43 + s.toNat))] σ := by
    intro w hinv
    have hw : -2147483648 ≤ w ∧ w ≤ 2147483647 := by rw [hinv]; split <;> omega
    refine x_callVv 66 C dX11_sheet_63 rfl (c_X6_become (by omega) (by omega) (by omega)) (sh_sheet (i := s.toNat) (by omega)) (by unfold NN; omega) rfl tb_4_92 tb_4_93 tb_4_94 tb_1_19 tb_4_95 (na := 2) (by decide +kernel) rfl ⟨by decide, by decide⟩ rfl (Nat.le_of_ble_eq_true rfl) rfl (fun s63 hq63 hR63 => ?_)
    subst hq63
    refine x_iconst 67 C dX11_sheet_66 rfl ?_
    refine x_iret C T dX11_sheet_67 ?_
    refine PI_i (by omega) ?_
    unfold rX_sheet nX_sheet
    first
      | (rw [if_neg (by omega), if_neg (by omega)]; exact ⟨rfl, rfl⟩)
      | (rw [if_pos (by omega), if_pos (by omega), if_neg (by omega)]; exact ⟨rfl, rfl⟩)
      | (rw [if_pos (by omega), if_neg (by omega), if_pos (by omega), ← hinv]; exact ⟨rfl, rfl⟩)
  refine x_aload_n 47 C dX11_sheet_46 rfl rfl rfl ?_
  refine x_getr (j := 8) 50 C rfl (lt79 (by decide)) rfl rfl (by decide) inT11 tb_2_181 rfl dX11_sheet_47 rfl ?_
  refine x_iload_n 51 C dX11_sheet_50 rfl rfl rfl ?_
  refine x_aald2 52 C rfl (lt79 (by decide)) dX11_sheet_51 rfl (by omega) (by omega) rfl ?_
  refine x_iload_n 53 C dX11_sheet_52 rfl rfl rfl ?_
  refine x_iload_n 54 C dX11_sheet_53 rfl rfl rfl ?_
  refine x_iconst 55 C dX11_sheet_54 rfl ?_
  refine x_icmp_ne 62 58 C dX11_sheet_55 rfl rfl (by omega) (by omega) (fun h55 => ?_) (fun h55 => ?_)
  · refine x_iload_n 63 C dX11_sheet_62 rfl rfl rfl ?_
    exact J63 _ (by first | (exfalso; omega) | rw [if_pos (by omega)] | rw [if_neg (by omega)])
  refine x_iconst 59 C dX11_sheet_58 rfl ?_
  refine x_goto 63 C dX11_sheet_59 rfl ?_
  exact J63 _ (by first | (exfalso; omega) | rw [if_pos (by omega)] | rw [if_neg (by omega)])

def rX_cell (σ : Sig) (s q v : Int) : Int := if 0 ≤ s ∧ s < 4 then (if σ (43 + s.toNat) 1 = -1 then -11 else if 0 ≤ q ∧ q < σ (43 + s.toNat) 2 then 1 else -12) else -2
def nX_cell (σ : Sig) (s q v : Int) : Sig := if 0 ≤ s ∧ s < 4 ∧ ¬ σ (43 + s.toNat) 1 = -1 ∧ 0 ≤ q ∧ q < σ (43 + s.toNat) 2 then up σ (47 + s.toNat) q.toNat (sortZ (σ (43 + s.toNat) 1) v) else σ
set_option maxHeartbeats 4000000 in
set_option maxRecDepth 100000 in
theorem c_X11_cell {l : Launch} {G : Gt} {ρ : Nat → Nat} {tc : Nat} {cl : Nat → Nat} {σ : Sig} {s q v : Int} (hs : -2147483648 ≤ s ∧ s ≤ 2147483647) (hq : -2147483648 ≤ q ∧ q ≤ 2147483647) (hv : -2147483648 ≤ v ∧ v ≤ 2147483647) (hS : SI σ) : MX l yX11_cell cX11_cell 5 (some .int) 2 41 G (NN tc) ρ (shp tc cl) [.ref (ρ 0), .int (iZ s), .int (iZ q), .int (iZ v)] σ (PI (fun z σ' => z = rX_cell σ s q v ∧ σ' = nX_cell σ s q v)) := by
  refine MX_of [some (.ref (ρ 0)), some (.int (iZ s)), some (.int (iZ q)), some (.int (iZ v)), none] (by decide +kernel) rfl rfl (Nat.le_of_ble_eq_true rfl) ?_
  intro K hKl C T hRng
  subst hKl
  refine x_iload_n 1 C dX11_cell_0 rfl rfl rfl ?_
  refine x_callSe 4 C dX11_cell_1 rfl (c_X11_isSheet (by omega)) tb_4_27 tb_4_28 tb_1_1 tb_4_29 (na := 1) (by decide +kernel) rfl ⟨by decide, by decide⟩ rfl (Nat.le_of_ble_eq_true rfl) rfl (fun r1 => ?_)
  first
    | refine x_ifb_ne 10 7 C dX11_cell_4 rfl rfl (fun h4 => ?_) (fun h4 => ?_)
    | refine x_if_ne 10 7 C dX11_cell_4 rfl rfl (by omega) (fun h4 => ?_) (fun h4 => ?_)
  rotate_left
  · refine x_bipush 9 C dX11_cell_7 rfl rfl ?_
    refine x_iret C T dX11_cell_9 ?_
    refine PI_i (by omega) ?_
    unfold rX_cell nX_cell
    first
      | (rw [if_neg (by omega), if_neg (by omega)]; exact ⟨rfl, rfl⟩)
      | (rw [if_pos (by omega), if_pos (by omega), if_neg (by omega)]; exact ⟨rfl, rfl⟩)
      | (rw [if_pos (by omega), if_neg (by omega), if_neg (by omega), if_neg (by omega)]; exact ⟨rfl, rfl⟩)
      | (rw [if_pos (by omega), if_neg (by omega), if_pos (by omega), if_pos (by omega)]; exact ⟨rfl, rfl⟩)
  refine x_aload_n 11 C dX11_cell_10 rfl rfl rfl ?_
  refine x_getr (j := 8) 14 C rfl (lt79 (by decide)) rfl rfl (by decide) inT11 tb_2_181 rfl dX11_cell_11 rfl ?_
  refine x_iload_n 15 C dX11_cell_14 rfl rfl rfl ?_
  refine x_aald2 16 C rfl (lt79 (by decide)) dX11_cell_15 rfl (by omega) (by omega) rfl ?_
  refine x_astore_4 18 C dX11_cell_16 rfl rfl ?_
  refine x_aload 20 C dX11_cell_18 rfl rfl ?_
  have hz := hS s.toNat (by omega)
  refine x_geti (j := 1) 23 C (sh_sheet (i := s.toNat) (by omega)) (by unfold NN; omega) rfl rfl (by decide) inT6 tb_2_163 rfl dX11_cell_20 rfl (fun r20 => ?_)
  refine x_iconst 24 C dX11_cell_23 rfl ?_
  refine x_icmp_ne 30 27 C dX11_cell_24 rfl rfl (by omega) (by omega) (fun h24 => ?_) (fun h24 => ?_)
  rotate_left
  · refine x_bipush 29 C dX11_cell_27 rfl rfl ?_
    refine x_iret C T dX11_cell_29 ?_
    refine PI_i (by omega) ?_
    unfold rX_cell nX_cell
    first
      | (rw [if_neg (by omega), if_neg (by omega)]; exact ⟨rfl, rfl⟩)
      | (rw [if_pos (by omega), if_pos (by omega), if_neg (by omega)]; exact ⟨rfl, rfl⟩)
      | (rw [if_pos (by omega), if_neg (by omega), if_neg (by omega), if_neg (by omega)]; exact ⟨rfl, rfl⟩)
      | (rw [if_pos (by omega), if_neg (by omega), if_pos (by omega), if_pos (by omega)]; exact ⟨rfl, rfl⟩)
  refine x_iload_n 31 C dX11_cell_30 rfl rfl rfl ?_
  refine x_aload 33 C dX11_cell_31 rfl rfl ?_
  refine x_geti (j := 2) 36 C (sh_sheet (i := s.toNat) (by omega)) (by unfold NN; omega) rfl rfl (by decide) inT6 tb_2_165 rfl dX11_cell_33 rfl (fun r33 => ?_)
  refine x_callSe 39 C dX11_cell_36 rfl (c_X11_isWithin (by omega) (by omega)) tb_2_214 tb_2_215 tb_1_1 tb_2_216 (na := 2) (by decide +kernel) rfl ⟨by decide, by decide⟩ rfl (Nat.le_of_ble_eq_true rfl) rfl (fun r36 => ?_)
  first
    | refine x_ifb_ne 45 42 C dX11_cell_39 rfl rfl (fun h39 => ?_) (fun h39 => ?_)
    | refine x_if_ne 45 42 C dX11_cell_39 rfl rfl (by omega) (fun h39 => ?_) (fun h39 => ?_)
  · refine x_aload 47 C dX11_cell_45 rfl rfl ?_
    refine x_iload_n 48 C dX11_cell_47 rfl rfl rfl ?_
    refine x_iload_n 49 C dX11_cell_48 rfl rfl rfl ?_
    refine x_callVv 52 C dX11_cell_49 rfl (c_X6_put (by omega) (by omega) (by omega)) (sh_sheet (i := s.toNat) (by omega)) (by unfold NN; omega) rfl tb_4_101 tb_4_102 tb_4_103 tb_1_19 tb_4_104 (na := 2) (by decide +kernel) rfl ⟨by decide, by decide⟩ rfl (Nat.le_of_ble_eq_true rfl) rfl (fun s49 hq49 hR49 => ?_)
    subst hq49
    refine x_iconst 53 C dX11_cell_52 rfl ?_
    refine x_iret C T dX11_cell_53 ?_
    refine PI_i (by omega) ?_
    unfold rX_cell nX_cell
    first
      | (rw [if_neg (by omega), if_neg (by omega)]; exact ⟨rfl, rfl⟩)
      | (rw [if_pos (by omega), if_pos (by omega), if_neg (by omega)]; exact ⟨rfl, rfl⟩)
      | (rw [if_pos (by omega), if_neg (by omega), if_neg (by omega), if_neg (by omega)]; exact ⟨rfl, rfl⟩)
      | (rw [if_pos (by omega), if_neg (by omega), if_pos (by omega), if_pos (by omega)]; exact ⟨rfl, rfl⟩)
  refine x_bipush 44 C dX11_cell_42 rfl rfl ?_
  refine x_iret C T dX11_cell_44 ?_
  refine PI_i (by omega) ?_
  unfold rX_cell nX_cell
  first
    | (rw [if_neg (by omega), if_neg (by omega)]; exact ⟨rfl, rfl⟩)
    | (rw [if_pos (by omega), if_pos (by omega), if_neg (by omega)]; exact ⟨rfl, rfl⟩)
    | (rw [if_pos (by omega), if_neg (by omega), if_neg (by omega), if_neg (by omega)]; exact ⟨rfl, rfl⟩)
    | (rw [if_pos (by omega), if_neg (by omega), if_pos (by omega), if_pos (by omega)]; exact ⟨rfl, rfl⟩)

def okC (σ : Sig) (s i t j n : Int) : Prop := 0 ≤ i ∧ 0 ≤ n ∧ i ≤ σ (43 + s.toNat) 2 - n ∧ 0 ≤ j ∧ j ≤ σ (43 + t.toNat) 2 - n
theorem okC_iff (σ : Sig) (s i t j n : Int) : okC σ s i t j n ↔ 0 ≤ i ∧ 0 ≤ n ∧ i ≤ σ (43 + s.toNat) 2 - n ∧ 0 ≤ j ∧ j ≤ σ (43 + t.toNat) 2 - n := Iff.rfl
def copyW (σ : Sig) (la lb : Nat) (i j n : Int) : Sig := fun a b => if a = lb ∧ j.toNat ≤ b ∧ b < j.toNat + n.toNat then σ la (i.toNat + (b - j.toNat)) else σ a b
def QX_copy (σ : Sig) (s i t j n : Int) (z : Int) (σ' : Sig) : Prop :=
  (¬ ((0 ≤ s ∧ s < 4) ∧ 0 ≤ t ∧ t < 4) → z = -2 ∧ σ' = σ) ∧
  ((0 ≤ s ∧ s < 4) ∧ (0 ≤ t ∧ t < 4) → (σ (43 + s.toNat) 1 = -1 ∨ σ (43 + t.toNat) 1 = -1) → z = -11 ∧ σ' = σ) ∧
  ((0 ≤ s ∧ s < 4) ∧ (0 ≤ t ∧ t < 4) → ¬ (σ (43 + s.toNat) 1 = -1 ∨ σ (43 + t.toNat) 1 = -1) → σ (43 + s.toNat) 1 ≠ σ (43 + t.toNat) 1 → z = -13 ∧ σ' = σ) ∧
  ((0 ≤ s ∧ s < 4) ∧ (0 ≤ t ∧ t < 4) → ¬ (σ (43 + s.toNat) 1 = -1 ∨ σ (43 + t.toNat) 1 = -1) → σ (43 + s.toNat) 1 = σ (43 + t.toNat) 1 → ¬ okC σ s i t j n → z = -12 ∧ σ' = σ) ∧
  ((0 ≤ s ∧ s < 4) ∧ (0 ≤ t ∧ t < 4) → ¬ (σ (43 + s.toNat) 1 = -1 ∨ σ (43 + t.toNat) 1 = -1) → σ (43 + s.toNat) 1 = σ (43 + t.toNat) 1 → okC σ s i t j n → z = n ∧ σ' = copyW σ (47 + s.toNat) (47 + t.toNat) i j n)
set_option maxHeartbeats 4000000 in
set_option maxRecDepth 100000 in
theorem c_X11_copy {l : Launch} {G : Gt} {ρ : Nat → Nat} {tc : Nat} {cl : Nat → Nat} {σ : Sig} {s i t j n : Int} (hs : -2147483648 ≤ s ∧ s ≤ 2147483647) (hi : -2147483648 ≤ i ∧ i ≤ 2147483647) (ht : -2147483648 ≤ t ∧ t ≤ 2147483647) (hj : -2147483648 ≤ j ∧ j ≤ 2147483647) (hn : -2147483648 ≤ n ∧ n ≤ 2147483647) (hS : SI σ) : MX l yX11_copy cX11_copy 8 (some .int) 2 41 G (NN tc) ρ (shp tc cl) [.ref (ρ 0), .int (iZ s), .int (iZ i), .int (iZ t), .int (iZ j), .int (iZ n)] σ (PI (fun z σ' => QX_copy σ s i t j n z σ')) := by
  refine MX_of [some (.ref (ρ 0)), some (.int (iZ s)), some (.int (iZ i)), some (.int (iZ t)), some (.int (iZ j)), some (.int (iZ n)), none, none] (by decide +kernel) rfl rfl (Nat.le_of_ble_eq_true rfl) ?_
  intro K hKl C T hRng
  subst hKl
  refine x_iload_n 1 C dX11_copy_0 rfl rfl rfl ?_
  refine x_callSe 4 C dX11_copy_1 rfl (c_X11_isSheet (by omega)) tb_4_27 tb_4_28 tb_1_1 tb_4_29 (na := 1) (by decide +kernel) rfl ⟨by decide, by decide⟩ rfl (Nat.le_of_ble_eq_true rfl) rfl (fun r1 => ?_)
  first
    | refine x_ifb_eq 14 7 C dX11_copy_4 rfl rfl (fun h4 => ?_) (fun h4 => ?_)
    | refine x_if_eq 14 7 C dX11_copy_4 rfl rfl (by omega) (fun h4 => ?_) (fun h4 => ?_)
  · refine x_bipush 16 C dX11_copy_14 rfl rfl ?_
    refine x_iret C T dX11_copy_16 ?_
    refine PI_i (by omega) ?_
    unfold QX_copy okC
    refine ⟨?_, ?_, ?_, ?_, ?_⟩ <;> intros <;> first | exact ⟨rfl, rfl⟩ | (exfalso; omega)
  refine x_iload_n 8 C dX11_copy_7 rfl rfl rfl ?_
  refine x_callSe 11 C dX11_copy_8 rfl (c_X11_isSheet (by omega)) tb_4_27 tb_4_28 tb_1_1 tb_4_29 (na := 1) (by decide +kernel) rfl ⟨by decide, by decide⟩ rfl (Nat.le_of_ble_eq_true rfl) rfl (fun r8 => ?_)
  first
    | refine x_ifb_ne 17 14 C dX11_copy_11 rfl rfl (fun h11 => ?_) (fun h11 => ?_)
    | refine x_if_ne 17 14 C dX11_copy_11 rfl rfl (by omega) (fun h11 => ?_) (fun h11 => ?_)
  rotate_left
  · refine x_bipush 16 C dX11_copy_14 rfl rfl ?_
    refine x_iret C T dX11_copy_16 ?_
    refine PI_i (by omega) ?_
    unfold QX_copy okC
    refine ⟨?_, ?_, ?_, ?_, ?_⟩ <;> intros <;> first | exact ⟨rfl, rfl⟩ | (exfalso; omega)
  refine x_aload_n 18 C dX11_copy_17 rfl rfl rfl ?_
  refine x_getr (j := 8) 21 C rfl (lt79 (by decide)) rfl rfl (by decide) inT11 tb_2_181 rfl dX11_copy_18 rfl ?_
  refine x_iload_n 22 C dX11_copy_21 rfl rfl rfl ?_
  refine x_aald2 23 C rfl (lt79 (by decide)) dX11_copy_22 rfl (by omega) (by omega) rfl ?_
  refine x_astore_6 25 C dX11_copy_23 rfl rfl ?_
  refine x_aload_n 26 C dX11_copy_25 rfl rfl rfl ?_
  refine x_getr (j := 8) 29 C rfl (lt79 (by decide)) rfl rfl (by decide) inT11 tb_2_181 rfl dX11_copy_26 rfl ?_
  refine x_iload_n 30 C dX11_copy_29 rfl rfl rfl ?_
  refine x_aald2 31 C rfl (lt79 (by decide)) dX11_copy_30 rfl (by omega) (by omega) rfl ?_
  refine x_astore_7 33 C dX11_copy_31 rfl rfl ?_
  have hz1 := hS s.toNat (by omega)
  have hz2 := hS t.toNat (by omega)
  refine x_aload 35 C dX11_copy_33 rfl rfl ?_
  refine x_geti (j := 1) 38 C (sh_sheet (i := s.toNat) (by omega)) (by unfold NN; omega) rfl rfl (by decide) inT6 tb_2_163 rfl dX11_copy_35 rfl (fun r35 => ?_)
  refine x_iconst 39 C dX11_copy_38 rfl ?_
  refine x_icmp_eq 51 42 C dX11_copy_39 rfl rfl (by omega) (by omega) (fun h39 => ?_) (fun h39 => ?_)
  · refine x_bipush 53 C dX11_copy_51 rfl rfl ?_
    refine x_iret C T dX11_copy_53 ?_
    refine PI_i (by omega) ?_
    unfold QX_copy okC
    refine ⟨?_, ?_, ?_, ?_, ?_⟩ <;> intros <;> first | exact ⟨rfl, rfl⟩ | (exfalso; omega)
  refine x_aload 44 C dX11_copy_42 rfl rfl ?_
  refine x_geti (j := 1) 47 C (sh_sheet (i := t.toNat) (by omega)) (by unfold NN; omega) rfl rfl (by decide) inT6 tb_2_163 rfl dX11_copy_44 rfl (fun r44 => ?_)
  refine x_iconst 48 C dX11_copy_47 rfl ?_
  refine x_icmp_ne 54 51 C dX11_copy_48 rfl rfl (by omega) (by omega) (fun h48 => ?_) (fun h48 => ?_)
  rotate_left
  · refine x_bipush 53 C dX11_copy_51 rfl rfl ?_
    refine x_iret C T dX11_copy_53 ?_
    refine PI_i (by omega) ?_
    unfold QX_copy okC
    refine ⟨?_, ?_, ?_, ?_, ?_⟩ <;> intros <;> first | exact ⟨rfl, rfl⟩ | (exfalso; omega)
  refine x_aload 56 C dX11_copy_54 rfl rfl ?_
  refine x_geti (j := 1) 59 C (sh_sheet (i := s.toNat) (by omega)) (by unfold NN; omega) rfl rfl (by decide) inT6 tb_2_163 rfl dX11_copy_56 rfl (fun r56 => ?_)
  refine x_aload 61 C dX11_copy_59 rfl rfl ?_
  refine x_geti (j := 1) 64 C (sh_sheet (i := t.toNat) (by omega)) (by unfold NN; omega) rfl rfl (by decide) inT6 tb_2_163 rfl dX11_copy_61 rfl (fun r61 => ?_)
  refine x_icmp_eq 70 67 C dX11_copy_64 rfl rfl (by omega) (by omega) (fun h64 => ?_) (fun h64 => ?_)
  rotate_left
  · refine x_bipush 69 C dX11_copy_67 rfl rfl ?_
    refine x_iret C T dX11_copy_69 ?_
    refine PI_i (by omega) ?_
    unfold QX_copy okC
    refine ⟨?_, ?_, ?_, ?_, ?_⟩ <;> intros <;> first | exact ⟨rfl, rfl⟩ | (exfalso; omega)
  refine x_aload 72 C dX11_copy_70 rfl rfl ?_
  refine x_iload_n 73 C dX11_copy_72 rfl rfl rfl ?_
  refine x_iload 75 C dX11_copy_73 rfl rfl ?_
  refine x_callVe 78 C dX11_copy_75 rfl (c_X6_holds (by omega) (by omega) (by omega) hS) (sh_sheet (i := s.toNat) (by omega)) (by unfold NN; omega) rfl tb_4_109 tb_4_110 tb_4_111 tb_1_19 tb_4_112 (na := 2) (by decide +kernel) rfl ⟨by decide, by decide⟩ rfl (Nat.le_of_ble_eq_true rfl) rfl (fun r75 => ?_)
  first
    | refine x_ifb_eq 93 81 C dX11_copy_78 rfl rfl (fun h78 => ?_) (fun h78 => ?_)
    | refine x_if_eq 93 81 C dX11_copy_78 rfl rfl (by omega) (fun h78 => ?_) (fun h78 => ?_)
  · refine x_bipush 95 C dX11_copy_93 rfl rfl ?_
    refine x_iret C T dX11_copy_95 ?_
    refine PI_i (by omega) ?_
    unfold QX_copy okC
    refine ⟨?_, ?_, ?_, ?_, ?_⟩ <;> intros <;> first | exact ⟨rfl, rfl⟩ | (exfalso; omega)
  refine x_aload 83 C dX11_copy_81 rfl rfl ?_
  refine x_iload 85 C dX11_copy_83 rfl rfl ?_
  refine x_iload 87 C dX11_copy_85 rfl rfl ?_
  refine x_callVe 90 C dX11_copy_87 rfl (c_X6_holds (by omega) (by omega) (by omega) hS) (sh_sheet (i := t.toNat) (by omega)) (by unfold NN; omega) rfl tb_4_109 tb_4_110 tb_4_111 tb_1_19 tb_4_112 (na := 2) (by decide +kernel) rfl ⟨by decide, by decide⟩ rfl (Nat.le_of_ble_eq_true rfl) rfl (fun r87 => ?_)
  first
    | refine x_ifb_ne 96 93 C dX11_copy_90 rfl rfl (fun h90 => ?_) (fun h90 => ?_)
    | refine x_if_ne 96 93 C dX11_copy_90 rfl rfl (by omega) (fun h90 => ?_) (fun h90 => ?_)
  · refine x_aload 98 C dX11_copy_96 rfl rfl ?_
    refine x_getr (j := 0) 101 C (sh_sheet (i := s.toNat) (by omega)) (by unfold NN; omega) rfl rfl (by decide) inT6 tb_2_161 rfl dX11_copy_98 rfl ?_
    refine x_iload_n 102 C dX11_copy_101 rfl rfl rfl ?_
    refine x_aload 104 C dX11_copy_102 rfl rfl ?_
    refine x_getr (j := 0) 107 C (sh_sheet (i := t.toNat) (by omega)) (by unfold NN; omega) rfl rfl (by decide) inT6 tb_2_161 rfl dX11_copy_104 rfl ?_
    refine x_iload 109 C dX11_copy_107 rfl rfl ?_
    refine x_iload 111 C dX11_copy_109 rfl rfl ?_
    refine x_acopy 114 C (sh_items (i := s.toNat) (by omega)) (by unfold NN; omega) (sh_items (i := t.toNat) (by omega)) (by unfold NN; omega) tb_4_113 tb_2_82 tb_2_81 tb_1_17 dX11_copy_111 rfl (by omega) (by omega) (by omega) (by omega) (by omega) (by omega) ⟨by decide, by decide +kernel⟩ rfl ?_
    refine x_iload 116 C dX11_copy_114 rfl rfl ?_
    refine x_iret C T dX11_copy_116 ?_
    refine PI_i (by omega) ?_
    unfold QX_copy okC
    refine ⟨?_, ?_, ?_, ?_, ?_⟩ <;> intros <;> first | exact ⟨rfl, rfl⟩ | (exfalso; omega)
  refine x_bipush 95 C dX11_copy_93 rfl rfl ?_
  refine x_iret C T dX11_copy_95 ?_
  refine PI_i (by omega) ?_
  unfold QX_copy okC
  refine ⟨?_, ?_, ?_, ?_, ?_⟩ <;> intros <;> first | exact ⟨rfl, rfl⟩ | (exfalso; omega)
