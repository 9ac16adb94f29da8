section ROWS
variable {K : Mk} {G : Gt} {N : Nat} {ρ : Nat → Nat} {sh : Nat → Shc} {own : String} {cc : ByteArray} {nL fr lo : Nat} {pc n : Nat} {lv : List (Option Value)} {st : List Value} {σ : Sig}
theorem x_ldcN {cv : Int32} {z : Int} {ix : Nat} (n : Nat) (C : Cx K G N ρ own cc nL fr lo) (hw : Cond.constant own ix cv ∈ TB) (hz : cv = iZ z) (d : decode cc pc = .ok (.ldc ix, 2)) (hn : pc + 2 = n) (k : Ex K G N ρ sh n lv (.int (iZ z) :: st) (σ)) : Ex K G N ρ sh pc lv (st) (σ) := by
  subst hz
  exact x_ldc n C hw d hn k
theorem x_ldcwN {cv : Int32} {z : Int} {ix : Nat} (n : Nat) (C : Cx K G N ρ own cc nL fr lo) (hw : Cond.constant own ix cv ∈ TB) (hz : cv = iZ z) (d : decode cc pc = .ok (.ldc_w ix, 3)) (hn : pc + 3 = n) (k : Ex K G N ρ sh n lv (.int (iZ z) :: st) (σ)) : Ex K G N ρ sh pc lv (st) (σ) := by
  subst hz
  exact x_ldcw n C hw d hn k
theorem x_ldc2N {cv : Int64} {z : Int} {ix : Nat} (n : Nat) (C : Cx K G N ρ own cc nL fr lo) (hw : Cond.constantLong own ix cv ∈ TB) (hz : cv = lZ z) (d : decode cc pc = .ok (.ldc2_w ix, 3)) (hn : pc + 3 = n) (k : Ex K G N ρ sh n lv (.long (lZ z) :: st) (σ)) : Ex K G N ρ sh pc lv (st) (σ) := by
  subst hz
  exact x_ldc2 n C hw d hn k
end ROWS
/-- the model's sheets -/
def MS (σ : Sig) : Prop := ∀ i : Nat, i < 4 → (σ 75 i = 0 ∨ σ 75 i = 1) ∧ (-1 ≤ σ 76 i ∧ σ 76 i ≤ 2) ∧ (σ 75 i = 1 → 0 ≤ σ 77 i ∧ σ 77 i ≤ 40)
def rM_sheet (σ : Sig) (s q n : Int) : Int := if 0 ≤ s ∧ s < 4 ∧ -1 ≤ q ∧ q ≤ 2 ∧ (q = -1 ∨ n ≤ 40) then (if q ≠ -1 ∧ n < 0 then -14 else 1) else -2
def nM_sheet (σ : Sig) (s q n : Int) : Sig := if 0 ≤ s ∧ s < 4 ∧ -1 ≤ q ∧ q ≤ 2 ∧ (q = -1 ∨ n ≤ 40) ∧ ¬ (q ≠ -1 ∧ n < 0) then (fun a b => if a = 78 ∧ q ≠ -1 ∧ 40 * s.toNat ≤ b ∧ b < 40 * s.toNat + n.toNat then 0 else up (up (up σ 75 s.toNat (if q = -1 then 0 else 1)) 76 s.toNat q) 77 s.toNat n a b) else σ
set_option maxHeartbeats 4000000 in
set_option maxRecDepth 100000 in
theorem c_X12_sheet {l : Launch} {G : Gt} {ρ : Nat → Nat} {tc : Nat} {cl : Nat → Nat} {σ : Sig} {s q n : Int} (hs : -2147483648 ≤ s ∧ s ≤ 2147483647) (hq : -2147483648 ≤ q ∧ q ≤ 2147483647) (hn : -2147483648 ≤ n ∧ n ≤ 2147483647) : MX l yX12_sheet cX12_sheet 5 (some .int) 2 45 G (NN tc) ρ (shp tc cl) [.ref (ρ 51), .int (iZ s), .int (iZ q), .int (iZ n)] σ (PI (fun z σ' => z = rM_sheet σ s q n ∧ σ' = nM_sheet σ s q n)) := by
  refine MX_of [some (.ref (ρ 51)), some (.int (iZ s)), some (.int (iZ q)), some (.int (iZ n)), none] (by decide +kernel) rfl rfl (Nat.le_of_ble_eq_true rfl) ?_
  intro K hKl C T hRng
  subst hKl
  refine x_iload_n 1 C dX12_sheet_0 rfl rfl rfl ?_
  refine x_callSe 4 C dX12_sheet_1 rfl (c_X12_isSheet (by omega)) tb_6_59 tb_6_60 tb_1_20 tb_6_61 (na := 1) (by decide +kernel) rfl ⟨by decide, by decide⟩ rfl (Nat.le_of_ble_eq_true rfl) rfl (fun r1 => ?_)
  first
    | refine x_ifb_eq 31 7 C dX12_sheet_4 rfl rfl (fun h4 => ?_) (fun h4 => ?_)
    | refine x_if_eq 31 7 C dX12_sheet_4 rfl rfl (by omega) (fun h4 => ?_) (fun h4 => ?_)
  · refine x_bipush 33 C dX12_sheet_31 rfl rfl ?_
    refine x_iret C T dX12_sheet_33 ?_
    refine PI_i (by omega) ?_
    unfold rM_sheet nM_sheet
    first
      | (exfalso; omega)
      | (rw [if_neg (by omega), if_neg (by omega)]; exact ⟨rfl, rfl⟩)
      | (rw [if_pos (by omega), if_pos (by omega), if_neg (by omega)]; exact ⟨rfl, rfl⟩)
      | (rw [if_pos (by omega), if_neg (by omega), if_pos (by omega), ← hinv, hs1]
         refine ⟨rfl, ?_⟩
         funext a b
         by_cases hc : a = 78 ∧ q ≠ -1 ∧ 40 * s.toNat ≤ b ∧ b < 40 * s.toNat + n.toNat
         · rw [if_pos hc, if_pos (by omega)]
         · rw [if_neg hc, if_neg (by omega)])
  refine x_iload_n 8 C dX12_sheet_7 rfl rfl rfl ?_
  refine x_i2l 9 C dX12_sheet_8 rfl (by omega) ?_
  refine x_ldc2N (z := -1) 12 C tb_6_106 (by decide) dX12_sheet_9 rfl ?_
  refine x_ldc2 (z := 2) 15 C tb_6_30 dX12_sheet_12 rfl ?_
  refine x_callSe 18 C dX12_sheet_15 rfl (c_X12_in (by omega) (by omega) (by omega)) tb_5_69 tb_5_70 tb_1_20 tb_5_71 (na := 3) (by decide +kernel) rfl ⟨by decide, by decide⟩ rfl (Nat.le_of_ble_eq_true rfl) rfl (fun r15 => ?_)
  first
    | refine x_ifb_eq 31 21 C dX12_sheet_18 rfl rfl (fun h18 => ?_) (fun h18 => ?_)
    | refine x_if_eq 31 21 C dX12_sheet_18 rfl rfl (by omega) (fun h18 => ?_) (fun h18 => ?_)
  · refine x_bipush 33 C dX12_sheet_31 rfl rfl ?_
    refine x_iret C T dX12_sheet_33 ?_
    refine PI_i (by omega) ?_
    unfold rM_sheet nM_sheet
    first
      | (exfalso; omega)
      | (rw [if_neg (by omega), if_neg (by omega)]; exact ⟨rfl, rfl⟩)
      | (rw [if_pos (by omega), if_pos (by omega), if_neg (by omega)]; exact ⟨rfl, rfl⟩)
      | (rw [if_pos (by omega), if_neg (by omega), if_pos (by omega), ← hinv, hs1]
         refine ⟨rfl, ?_⟩
         funext a b
         by_cases hc : a = 78 ∧ q ≠ -1 ∧ 40 * s.toNat ≤ b ∧ b < 40 * s.toNat + n.toNat
         · rw [if_pos hc, if_pos (by omega)]
         · rw [if_neg hc, if_neg (by omega)])
  refine x_iload_n 22 C dX12_sheet_21 rfl rfl rfl ?_
  refine x_if_lt 34 25 C dX12_sheet_22 rfl rfl (by omega) (fun h22 => ?_) (fun h22 => ?_)
  · have J45 : ∀ (u : Unit), (q = -1 ∨ (0 ≤ n ∧ n ≤ 40)) → Ex K G (NN tc) ρ (shp tc cl) 45 [some (.ref (ρ 51)), some (.int (iZ s)), some (.int (iZ q)), some (.int (iZ n)), none] [] σ := by
      intro u hinv
      have J59 : ∀ (w : Int), (w = (if q = -1 then 0 else 1)) → Ex K G (NN tc) ρ (shp tc cl) 59 [some (.ref (ρ 51)), some (.int (iZ s)), some (.int (iZ q)), some (.int (iZ n)), none] [.int (iZ w), .int (iZ s), .ref (ρ 75)] σ := by
        intro w hinv
        have hw : w = 0 ∨ w = 1 := by rw [hinv]; split <;> omega
        refine x_zast 60 C rfl (lt79 (by decide)) dX12_sheet_59 rfl (by omega) (by omega) (by omega) ?_
        refine x_aload_n 61 C dX12_sheet_60 rfl rfl rfl ?_
        refine x_getr (j := 53) 64 C rfl (lt79 (by decide)) rfl rfl (by decide) inT12 tb_4_187 rfl dX12_sheet_61 rfl ?_
        refine x_iload_n 65 C dX12_sheet_64 rfl rfl rfl ?_
        refine x_iload_n 66 C dX12_sheet_65 rfl rfl rfl ?_
        refine x_iast 67 C rfl (lt79 (by decide)) dX12_sheet_66 rfl (by omega) (by omega) (by omega) ?_
        refine x_aload_n 68 C dX12_sheet_67 rfl rfl rfl ?_
        refine x_getr (j := 54) 71 C rfl (lt79 (by decide)) rfl rfl (by decide) inT12 tb_4_188 rfl dX12_sheet_68 rfl ?_
        refine x_iload_n 72 C dX12_sheet_71 rfl rfl rfl ?_
        refine x_iload_n 73 C dX12_sheet_72 rfl rfl rfl ?_
        refine x_iast 74 C rfl (lt79 (by decide)) dX12_sheet_73 rfl (by omega) (by omega) (by omega) ?_
        refine x_iconst 75 C dX12_sheet_74 rfl ?_
        refine x_istore_4 77 C dX12_sheet_75 rfl rfl ?_
        have L77 : ∀ (m : Nat) (i : Nat) (y : Int) (s1 : Sig), m = n.toNat - i → ((q ≠ -1 → (i : Int) ≤ n) ∧ y = i ∧ (q = -1 → i = 0) ∧ s1 = (fun a b => if a = 78 ∧ q ≠ -1 ∧ 40 * s.toNat ≤ b ∧ b < 40 * s.toNat + i then 0 else up (up (up σ 75 s.toNat w) 76 s.toNat q) 77 s.toNat n a b)) → Ex K G (NN tc) ρ (shp tc cl) 77 [some (.ref (ρ 51)), some (.int (iZ s)), some (.int (iZ q)), some (.int (iZ n)), some (.int (iZ y))] [] s1 := by
          intro m
          induction m using Nat.strongRecOn with
          | ind m ih =>
            intro i y s1 hm hinv
            obtain ⟨hi, rfl, hi0, hs1⟩ := hinv
            refine x_iload 79 C dX12_sheet_77 rfl rfl ?_
            refine x_iload_n 80 C dX12_sheet_79 rfl rfl rfl ?_
            refine x_icmp_ge 106 83 C dX12_sheet_80 rfl rfl (by omega) (by omega) (fun h80 => ?_) (fun h80 => ?_)
            · refine x_iconst 107 C dX12_sheet_106 rfl ?_
              refine x_iret C T dX12_sheet_107 ?_
              refine PI_i (by omega) ?_
              unfold rM_sheet nM_sheet
              first
                | (exfalso; omega)
                | (rw [if_neg (by omega), if_neg (by omega)]; exact ⟨rfl, rfl⟩)
                | (rw [if_pos (by omega), if_pos (by omega), if_neg (by omega)]; exact ⟨rfl, rfl⟩)
                | (rw [if_pos (by omega), if_neg (by omega), if_pos (by omega), ← hinv, hs1]
                   refine ⟨rfl, ?_⟩
                   funext a b
                   by_cases hc : a = 78 ∧ q ≠ -1 ∧ 40 * s.toNat ≤ b ∧ b < 40 * s.toNat + n.toNat
                   · rw [if_pos hc, if_pos (by omega)]
                   · rw [if_neg hc, if_neg (by omega)])
            refine x_iload_n 84 C dX12_sheet_83 rfl rfl rfl ?_
            refine x_if_lt 106 87 C dX12_sheet_84 rfl rfl (by omega) (fun h84 => ?_) (fun h84 => ?_)
            · refine x_iconst 107 C dX12_sheet_106 rfl ?_
              refine x_iret C T dX12_sheet_107 ?_
              refine PI_i (by omega) ?_
              unfold rM_sheet nM_sheet
              first
                | (exfalso; omega)
                | (rw [if_neg (by omega), if_neg (by omega)]; exact ⟨rfl, rfl⟩)
                | (rw [if_pos (by omega), if_pos (by omega), if_neg (by omega)]; exact ⟨rfl, rfl⟩)
                | (rw [if_pos (by omega), if_neg (by omega), if_pos (by omega), ← hinv, hs1]
                   refine ⟨rfl, ?_⟩
                   funext a b
                   by_cases hc : a = 78 ∧ q ≠ -1 ∧ 40 * s.toNat ≤ b ∧ b < 40 * s.toNat + n.toNat
                   · rw [if_pos hc, if_pos (by omega)]
                   · rw [if_neg hc, if_neg (by omega)])
            refine x_aload_n 88 C dX12_sheet_87 rfl rfl rfl ?_
            refine x_getr (j := 55) 91 C rfl (lt79 (by decide)) rfl rfl (by decide) inT12 tb_4_189 rfl dX12_sheet_88 rfl ?_
            refine x_bipush 93 C dX12_sheet_91 rfl rfl ?_
            refine x_iload_n 94 C dX12_sheet_93 rfl rfl rfl ?_
            refine x_imul 95 C dX12_sheet_94 rfl ?_
            refine x_iload 97 C dX12_sheet_95 rfl rfl ?_
            refine x_iadd 98 C dX12_sheet_97 rfl ?_
            refine x_iconst 99 C dX12_sheet_98 rfl ?_
            refine x_iast 100 C rfl (lt79 (by decide)) dX12_sheet_99 rfl (by omega) (by omega) (by omega) ?_
            refine x_iinc_4 103 C dX12_sheet_100 rfl rfl ?_
            refine x_goto 77 C dX12_sheet_103 rfl ?_
            refine ih _ ?_ (i + 1) _ _ rfl ⟨by omega, by omega, by omega, ?_⟩
            · omega
            · rw [hs1]
              generalize up (up (up σ 75 s.toNat w) 76 s.toNat q) 77 s.toNat n = base
              funext a b
              have hix : (40 * s + (i : Int)).toNat = 40 * s.toNat + i := by omega
              simp only [up, hix]
              by_cases ha : a = 78
              · subst ha
                by_cases hb : b = 40 * s.toNat + i
                · rw [if_pos rfl, if_pos hb, if_pos (by omega)]
                · rw [if_pos rfl, if_neg hb]
                  by_cases hc : q ≠ -1 ∧ 40 * s.toNat ≤ b ∧ b < 40 * s.toNat + i
                  · rw [if_pos (by omega), if_pos (by omega)]
                  · rw [if_neg (by omega), if_neg (by omega)]
              · rw [if_neg ha, if_neg (by omega), if_neg (by omega)]
        exact L77 _ 0 _ _ rfl ⟨by omega, rfl, fun _ => rfl, by funext a b; rw [if_neg (by omega)]⟩
      refine x_aload_n 46 C dX12_sheet_45 rfl rfl rfl ?_
      refine x_getr (j := 52) 49 C rfl (lt79 (by decide)) rfl rfl (by decide) inT12 tb_4_186 rfl dX12_sheet_46 rfl ?_
      refine x_iload_n 50 C dX12_sheet_49 rfl rfl rfl ?_
      refine x_iload_n 51 C dX12_sheet_50 rfl rfl rfl ?_
      refine x_if_lt 58 54 C dX12_sheet_51 rfl rfl (by omega) (fun h51 => ?_) (fun h51 => ?_)
      · refine x_iconst 59 C dX12_sheet_58 rfl ?_
        exact J59 _ (by first | (exfalso; omega) | rw [if_pos (by omega)] | rw [if_neg (by omega)])
      refine x_iconst 55 C dX12_sheet_54 rfl ?_
      refine x_goto 59 C dX12_sheet_55 rfl ?_
      exact J59 _ (by first | (exfalso; omega) | rw [if_pos (by omega)] | rw [if_neg (by omega)])
    refine x_iload_n 35 C dX12_sheet_34 rfl rfl rfl ?_
    refine x_if_lt 45 38 C dX12_sheet_35 rfl rfl (by omega) (fun h35 => ?_) (fun h35 => ?_)
    · exact J45 () (by omega)
    refine x_iload_n 39 C dX12_sheet_38 rfl rfl rfl ?_
    refine x_if_ge 45 42 C dX12_sheet_39 rfl rfl (by omega) (fun h39 => ?_) (fun h39 => ?_)
    · exact J45 () (by omega)
    refine x_bipush 44 C dX12_sheet_42 rfl rfl ?_
    refine x_iret C T dX12_sheet_44 ?_
    refine PI_i (by omega) ?_
    unfold rM_sheet nM_sheet
    first
      | (exfalso; omega)
      | (rw [if_neg (by omega), if_neg (by omega)]; exact ⟨rfl, rfl⟩)
      | (rw [if_pos (by omega), if_pos (by omega), if_neg (by omega)]; exact ⟨rfl, rfl⟩)
      | (rw [if_pos (by omega), if_neg (by omega), if_pos (by omega), ← hinv, hs1]
         refine ⟨rfl, ?_⟩
         funext a b
         by_cases hc : a = 78 ∧ q ≠ -1 ∧ 40 * s.toNat ≤ b ∧ b < 40 * s.toNat + n.toNat
         · rw [if_pos hc, if_pos (by omega)]
         · rw [if_neg hc, if_neg (by omega)])
  refine x_iload_n 26 C dX12_sheet_25 rfl rfl rfl ?_
  refine x_bipush 28 C dX12_sheet_26 rfl rfl ?_
  refine x_icmp_le 34 31 C dX12_sheet_28 rfl rfl (by omega) (by omega) (fun h28 => ?_) (fun h28 => ?_)
  rotate_left
  · refine x_bipush 33 C dX12_sheet_31 rfl rfl ?_
    refine x_iret C T dX12_sheet_33 ?_
    refine PI_i (by omega) ?_
    unfold rM_sheet nM_sheet
    first
      | (exfalso; omega)
      | (rw [if_neg (by omega), if_neg (by omega)]; exact ⟨rfl, rfl⟩)
      | (rw [if_pos (by omega), if_pos (by omega), if_neg (by omega)]; exact ⟨rfl, rfl⟩)
      | (rw [if_pos (by omega), if_neg (by omega), if_pos (by omega), ← hinv, hs1]
         refine ⟨rfl, ?_⟩
         funext a b
         by_cases hc : a = 78 ∧ q ≠ -1 ∧ 40 * s.toNat ≤ b ∧ b < 40 * s.toNat + n.toNat
         · rw [if_pos hc, if_pos (by omega)]
         · rw [if_neg hc, if_neg (by omega)])
  have J45 : ∀ (u : Unit), (q = -1 ∨ (0 ≤ n ∧ n ≤ 40)) → Ex K G (NN tc) ρ (shp tc cl) 45 [some (.ref (ρ 51)), some (.int (iZ s)), some (.int (iZ q)), some (.int (iZ n)), none] [] σ := by
    intro u hinv
    have J59 : ∀ (w : Int), (w = (if q = -1 then 0 else 1)) → Ex K G (NN tc) ρ (shp tc cl) 59 [some (.ref (ρ 51)), some (.int (iZ s)), some (.int (iZ q)), some (.int (iZ n)), none] [.int (iZ w), .int (iZ s), .ref (ρ 75)] σ := by
      intro w hinv
      have hw : w = 0 ∨ w = 1 := by rw [hinv]; split <;> omega
      refine x_zast 60 C rfl (lt79 (by decide)) dX12_sheet_59 rfl (by omega) (by omega) (by omega) ?_
      refine x_aload_n 61 C dX12_sheet_60 rfl rfl rfl ?_
      refine x_getr (j := 53) 64 C rfl (lt79 (by decide)) rfl rfl (by decide) inT12 tb_4_187 rfl dX12_sheet_61 rfl ?_
      refine x_iload_n 65 C dX12_sheet_64 rfl rfl rfl ?_
      refine x_iload_n 66 C dX12_sheet_65 rfl rfl rfl ?_
      refine x_iast 67 C rfl (lt79 (by decide)) dX12_sheet_66 rfl (by omega) (by omega) (by omega) ?_
      refine x_aload_n 68 C dX12_sheet_67 rfl rfl rfl ?_
      refine x_getr (j := 54) 71 C rfl (lt79 (by decide)) rfl rfl (by decide) inT12 tb_4_188 rfl dX12_sheet_68 rfl ?_
      refine x_iload_n 72 C dX12_sheet_71 rfl rfl rfl ?_
      refine x_iload_n 73 C dX12_sheet_72 rfl rfl rfl ?_
      refine x_iast 74 C rfl (lt79 (by decide)) dX12_sheet_73 rfl (by omega) (by omega) (by omega) ?_
      refine x_iconst 75 C dX12_sheet_74 rfl ?_
      refine x_istore_4 77 C dX12_sheet_75 rfl rfl ?_
      have L77 : ∀ (m : Nat) (i : Nat) (y : Int) (s1 : Sig), m = n.toNat - i → ((q ≠ -1 → (i : Int) ≤ n) ∧ y = i ∧ (q = -1 → i = 0) ∧ s1 = (fun a b => if a = 78 ∧ q ≠ -1 ∧ 40 * s.toNat ≤ b ∧ b < 40 * s.toNat + i then 0 else up (up (up σ 75 s.toNat w) 76 s.toNat q) 77 s.toNat n a b)) → Ex K G (NN tc) ρ (shp tc cl) 77 [some (.ref (ρ 51)), some (.int (iZ s)), some (.int (iZ q)), some (.int (iZ n)), some (.int (iZ y))] [] s1 := by
        intro m
        induction m using Nat.strongRecOn with
        | ind m ih =>
          intro i y s1 hm hinv
          obtain ⟨hi, rfl, hi0, hs1⟩ := hinv
          refine x_iload 79 C dX12_sheet_77 rfl rfl ?_
          refine x_iload_n 80 C dX12_sheet_79 rfl rfl rfl ?_
          refine x_icmp_ge 106 83 C dX12_sheet_80 rfl rfl (by omega) (by omega) (fun h80 => ?_) (fun h80 => ?_)
          · refine x_iconst 107 C dX12_sheet_106 rfl ?_
            refine x_iret C T dX12_sheet_107 ?_
            refine PI_i (by omega) ?_
            unfold rM_sheet nM_sheet
            first
              | (exfalso; omega)
              | (rw [if_neg (by omega), if_neg (by omega)]; exact ⟨rfl, rfl⟩)
              | (rw [if_pos (by omega), if_pos (by omega), if_neg (by omega)]; exact ⟨rfl, rfl⟩)
              | (rw [if_pos (by omega), if_neg (by omega), if_pos (by omega), ← hinv, hs1]
                 refine ⟨rfl, ?_⟩
                 funext a b
                 by_cases hc : a = 78 ∧ q ≠ -1 ∧ 40 * s.toNat ≤ b ∧ b < 40 * s.toNat + n.toNat
                 · rw [if_pos hc, if_pos (by omega)]
                 · rw [if_neg hc, if_neg (by omega)])
          refine x_iload_n 84 C dX12_sheet_83 rfl rfl rfl ?_
          refine x_if_lt 106 87 C dX12_sheet_84 rfl rfl (by omega) (fun h84 => ?_) (fun h84 => ?_)
          · refine x_iconst 107 C dX12_sheet_106 rfl ?_
            refine x_iret C T dX12_sheet_107 ?_
            refine PI_i (by omega) ?_
            unfold rM_sheet nM_sheet
            first
              | (exfalso; omega)
              | (rw [if_neg (by omega), if_neg (by omega)]; exact ⟨rfl, rfl⟩)
              | (rw [if_pos (by omega), if_pos (by omega), if_neg (by omega)]; exact ⟨rfl, rfl⟩)
              | (rw [if_pos (by omega), if_neg (by omega), if_pos (by omega), ← hinv, hs1]
                 refine ⟨rfl, ?_⟩
                 funext a b
                 by_cases hc : a = 78 ∧ q ≠ -1 ∧ 40 * s.toNat ≤ b ∧ b < 40 * s.toNat + n.toNat
                 · rw [if_pos hc, if_pos (by omega)]
                 · rw [if_neg hc, if_neg (by omega)])
          refine x_aload_n 88 C dX12_sheet_87 rfl rfl rfl ?_
          refine x_getr (j := 55) 91 C rfl (lt79 (by decide)) rfl rfl (by decide) inT12 tb_4_189 rfl dX12_sheet_88 rfl ?_
          refine x_bipush 93 C dX12_sheet_91 rfl rfl ?_
          refine x_iload_n 94 C dX12_sheet_93 rfl rfl rfl ?_
          refine x_imul 95 C dX12_sheet_94 rfl ?_
          refine x_iload 97 C dX12_sheet_95 rfl rfl ?_
          refine x_iadd 98 C dX12_sheet_97 rfl ?_
          refine x_iconst 99 C dX12_sheet_98 rfl ?_
          refine x_iast 100 C rfl (lt79 (by decide)) dX12_sheet_99 rfl (by omega) (by omega) (by omega) ?_
          refine x_iinc_4 103 C dX12_sheet_100 rfl rfl ?_
          refine x_goto 77 C dX12_sheet_103 rfl ?_
          refine ih _ ?_ (i + 1) _ _ rfl ⟨by omega, by omega, by omega, ?_⟩
          · omega
          · rw [hs1]
            generalize up (up (up σ 75 s.toNat w) 76 s.toNat q) 77 s.toNat n = base
            funext a b
            have hix : (40 * s + (i : Int)).toNat = 40 * s.toNat + i := by omega
            simp only [up, hix]
            by_cases ha : a = 78
            · subst ha
              by_cases hb : b = 40 * s.toNat + i
              · rw [if_pos rfl, if_pos hb, if_pos (by omega)]
              · rw [if_pos rfl, if_neg hb]
                by_cases hc : q ≠ -1 ∧ 40 * s.toNat ≤ b ∧ b < 40 * s.toNat + i
                · rw [if_pos (by omega), if_pos (by omega)]
                · rw [if_neg (by omega), if_neg (by omega)]
            · rw [if_neg ha, if_neg (by omega), if_neg (by omega)]
      exact L77 _ 0 _ _ rfl ⟨by omega, rfl, fun _ => rfl, by funext a b; rw [if_neg (by omega)]⟩
    refine x_aload_n 46 C dX12_sheet_45 rfl rfl rfl ?_
    refine x_getr (j := 52) 49 C rfl (lt79 (by decide)) rfl rfl (by decide) inT12 tb_4_186 rfl dX12_sheet_46 rfl ?_
    refine x_iload_n 50 C dX12_sheet_49 rfl rfl rfl ?_
    refine x_iload_n 51 C dX12_sheet_50 rfl rfl rfl ?_
    refine x_if_lt 58 54 C dX12_sheet_51 rfl rfl (by omega) (fun h51 => ?_) (fun h51 => ?_)
    · refine x_iconst 59 C dX12_sheet_58 rfl ?_
      exact J59 _ (by first | (exfalso; omega) | rw [if_pos (by omega)] | rw [if_neg (by omega)])
    refine x_iconst 55 C dX12_sheet_54 rfl ?_
    refine x_goto 59 C dX12_sheet_55 rfl ?_
    exact J59 _ (by first | (exfalso; omega) | rw [if_pos (by omega)] | rw [if_neg (by omega)])
  refine x_iload_n 35 C dX12_sheet_34 rfl rfl rfl ?_
  refine x_if_lt 45 38 C dX12_sheet_35 rfl rfl (by omega) (fun h35 => ?_) (fun h35 => ?_)
  · exact J45 () (by omega)
  refine x_iload_n 39 C dX12_sheet_38 rfl rfl rfl ?_
  refine x_if_ge 45 42 C dX12_sheet_39 rfl rfl (by omega) (fun h39 => ?_) (fun h39 => ?_)
  · exact J45 () (by omega)
  refine x_bipush 44 C dX12_sheet_42 rfl rfl ?_
  refine x_iret C T dX12_sheet_44 ?_
  refine PI_i (by omega) ?_
  unfold rM_sheet nM_sheet
  first
    | (exfalso; omega)
    | (rw [if_neg (by omega), if_neg (by omega)]; exact ⟨rfl, rfl⟩)
    | (rw [if_pos (by omega), if_pos (by omega), if_neg (by omega)]; exact ⟨rfl, rfl⟩)
    | (rw [if_pos (by omega), if_neg (by omega), if_pos (by omega), ← hinv, hs1]
       refine ⟨rfl, ?_⟩
       funext a b
       by_cases hc : a = 78 ∧ q ≠ -1 ∧ 40 * s.toNat ≤ b ∧ b < 40 * s.toNat + n.toNat
       · rw [if_pos hc, if_pos (by omega)]
       · rw [if_neg hc, if_neg (by omega)])

def rM_cell (σ : Sig) (s q v : Int) : Int := if 0 ≤ s ∧ s < 4 then (if σ 75 s.toNat = 0 then -11 else if 0 ≤ q ∧ q < σ 77 s.toNat then 1 else -12) else -2
def nM_cell (σ : Sig) (s q v : Int) : Sig := if 0 ≤ s ∧ s < 4 ∧ ¬ σ 75 s.toNat = 0 ∧ 0 ≤ q ∧ q < σ 77 s.toNat then up σ 78 (40 * s.toNat + q.toNat) (sortZ (σ 76 s.toNat) v) else σ
set_option maxHeartbeats 4000000 in
set_option maxRecDepth 100000 in
theorem c_X12_cell {l : Launch} {G : Gt} {ρ : Nat → Nat} {tc : Nat} {cl : Nat → Nat} {σ : Sig} {s q v : Int} (hs : -2147483648 ≤ s ∧ s ≤ 2147483647) (hq : -2147483648 ≤ q ∧ q ≤ 2147483647) (hv : -2147483648 ≤ v ∧ v ≤ 2147483647) (hS : MS σ) : MX l yX12_cell cX12_cell 4 (some .int) 2 45 G (NN tc) ρ (shp tc cl) [.ref (ρ 51), .int (iZ s), .int (iZ q), .int (iZ v)] σ (PI (fun z σ' => z = rM_cell σ s q v ∧ σ' = nM_cell σ s q v)) := by
  refine MX_of [some (.ref (ρ 51)), some (.int (iZ s)), some (.int (iZ q)), some (.int (iZ v))] (by decide +kernel) rfl rfl (Nat.le_of_ble_eq_true rfl) ?_
  intro K hKl C T hRng
  subst hKl
  refine x_iload_n 1 C dX12_cell_0 rfl rfl rfl ?_
  refine x_callSe 4 C dX12_cell_1 rfl (c_X12_isSheet (by omega)) tb_6_59 tb_6_60 tb_1_20 tb_6_61 (na := 1) (by decide +kernel) rfl ⟨by decide, by decide⟩ rfl (Nat.le_of_ble_eq_true rfl) rfl (fun r1 => ?_)
  first
    | refine x_ifb_ne 10 7 C dX12_cell_4 rfl rfl (fun h4 => ?_) (fun h4 => ?_)
    | refine x_if_ne 10 7 C dX12_cell_4 rfl rfl (by omega) (fun h4 => ?_) (fun h4 => ?_)
  rotate_left
  · refine x_bipush 9 C dX12_cell_7 rfl rfl ?_
    refine x_iret C T dX12_cell_9 ?_
    refine PI_i (by omega) ?_
    unfold rM_cell nM_cell
    first
      | (rw [if_neg (by omega), if_neg (by omega)]; exact ⟨rfl, rfl⟩)
      | (rw [if_pos (by omega), if_pos (by omega), if_neg (by omega)]; exact ⟨rfl, rfl⟩)
      | (rw [if_pos (by omega), if_neg (by omega), if_neg (by omega), if_neg (by omega)]; exact ⟨rfl, rfl⟩)
      | (rw [if_pos (by omega), if_neg (by omega), if_pos (by omega), if_pos (by omega), hix]
         refine ⟨rfl, ?_⟩
         unfold sortZ
         first | rw [if_pos (by omega)] | rw [if_neg (by omega), if_pos (by omega)] | rw [if_neg (by omega), if_neg (by omega)])
  have hz := hS s.toNat (by omega)
  refine x_aload_n 11 C dX12_cell_10 rfl rfl rfl ?_
  refine x_getr (j := 52) 14 C rfl (lt79 (by decide)) rfl rfl (by decide) inT12 tb_4_186 rfl dX12_cell_11 rfl ?_
  refine x_iload_n 15 C dX12_cell_14 rfl rfl rfl ?_
  refine x_zald 16 C rfl (lt79 (by decide)) dX12_cell_15 rfl (by omega) (by omega) (fun r15 => ?_)
  refine x_if_ne 22 19 C dX12_cell_16 rfl rfl (by omega) (fun h16 => ?_) (fun h16 => ?_)
  rotate_left
  · refine x_bipush 21 C dX12_cell_19 rfl rfl ?_
    refine x_iret C T dX12_cell_21 ?_
    refine PI_i (by omega) ?_
    unfold rM_cell nM_cell
    first
      | (rw [if_neg (by omega), if_neg (by omega)]; exact ⟨rfl, rfl⟩)
      | (rw [if_pos (by omega), if_pos (by omega), if_neg (by omega)]; exact ⟨rfl, rfl⟩)
      | (rw [if_pos (by omega), if_neg (by omega), if_neg (by omega), if_neg (by omega)]; exact ⟨rfl, rfl⟩)
      | (rw [if_pos (by omega), if_neg (by omega), if_pos (by omega), if_pos (by omega), hix]
         refine ⟨rfl, ?_⟩
         unfold sortZ
         first | rw [if_pos (by omega)] | rw [if_neg (by omega), if_pos (by omega)] | rw [if_neg (by omega), if_neg (by omega)])
  refine x_iload_n 23 C dX12_cell_22 rfl rfl rfl ?_
  refine x_i2l 24 C dX12_cell_23 rfl (by omega) ?_
  refine x_lconst 25 C dX12_cell_24 rfl 0 rfl ?_
  refine x_aload_n 26 C dX12_cell_25 rfl rfl rfl ?_
  refine x_getr (j := 54) 29 C rfl (lt79 (by decide)) rfl rfl (by decide) inT12 tb_4_188 rfl dX12_cell_26 rfl ?_
  refine x_iload_n 30 C dX12_cell_29 rfl rfl rfl ?_
  refine x_iald 31 C rfl (lt79 (by decide)) dX12_cell_30 rfl (by omega) (by omega) (fun r30 => ?_)
  refine x_iconst 32 C dX12_cell_31 rfl ?_
  refine x_isub 33 C dX12_cell_32 rfl ?_
  refine x_i2l 34 C dX12_cell_33 rfl (by omega) ?_
  refine x_callSe 37 C dX12_cell_34 rfl (c_X12_in (by omega) (by omega) (by omega)) tb_5_69 tb_5_70 tb_1_20 tb_5_71 (na := 3) (by decide +kernel) rfl ⟨by decide, by decide⟩ rfl (Nat.le_of_ble_eq_true rfl) rfl (fun r34 => ?_)
  first
    | refine x_ifb_ne 43 40 C dX12_cell_37 rfl rfl (fun h37 => ?_) (fun h37 => ?_)
    | refine x_if_ne 43 40 C dX12_cell_37 rfl rfl (by omega) (fun h37 => ?_) (fun h37 => ?_)
  rotate_left
  · refine x_bipush 42 C dX12_cell_40 rfl rfl ?_
    refine x_iret C T dX12_cell_42 ?_
    refine PI_i (by omega) ?_
    unfold rM_cell nM_cell
    first
      | (rw [if_neg (by omega), if_neg (by omega)]; exact ⟨rfl, rfl⟩)
      | (rw [if_pos (by omega), if_pos (by omega), if_neg (by omega)]; exact ⟨rfl, rfl⟩)
      | (rw [if_pos (by omega), if_neg (by omega), if_neg (by omega), if_neg (by omega)]; exact ⟨rfl, rfl⟩)
      | (rw [if_pos (by omega), if_neg (by omega), if_pos (by omega), if_pos (by omega), hix]
         refine ⟨rfl, ?_⟩
         unfold sortZ
         first | rw [if_pos (by omega)] | rw [if_neg (by omega), if_pos (by omega)] | rw [if_neg (by omega), if_neg (by omega)])
  have hix : (40 * s + q).toNat = 40 * s.toNat + q.toNat := by omega
  refine x_aload_n 44 C dX12_cell_43 rfl rfl rfl ?_
  refine x_getr (j := 55) 47 C rfl (lt79 (by decide)) rfl rfl (by decide) inT12 tb_4_189 rfl dX12_cell_44 rfl ?_
  refine x_bipush 49 C dX12_cell_47 rfl rfl ?_
  refine x_iload_n 50 C dX12_cell_49 rfl rfl rfl ?_
  refine x_imul 51 C dX12_cell_50 rfl ?_
  refine x_iload_n 52 C dX12_cell_51 rfl rfl rfl ?_
  refine x_iadd 53 C dX12_cell_52 rfl ?_
  refine x_aload_n 54 C dX12_cell_53 rfl rfl rfl ?_
  refine x_getr (j := 53) 57 C rfl (lt79 (by decide)) rfl rfl (by decide) inT12 tb_4_187 rfl dX12_cell_54 rfl ?_
  refine x_iload_n 58 C dX12_cell_57 rfl rfl rfl ?_
  refine x_iald 59 C rfl (lt79 (by decide)) dX12_cell_58 rfl (by omega) (by omega) (fun r58 => ?_)
  refine x_if_ne 67 62 C dX12_cell_59 rfl rfl (by omega) (fun h59 => ?_) (fun h59 => ?_)
  rotate_left
  · refine x_iload_n 63 C dX12_cell_62 rfl rfl rfl ?_
    refine x_i2b (byteZ v) 64 C dX12_cell_63 rfl (iZ_byte hv) ?_
    refine x_goto 83 C dX12_cell_64 rfl ?_
    refine x_iast 84 C rfl (lt79 (by decide)) dX12_cell_83 rfl (by omega) (by omega) (by first | omega | (unfold byteZ; omega) | (unfold shortZ; omega)) ?_
    refine x_iconst 85 C dX12_cell_84 rfl ?_
    refine x_iret C T dX12_cell_85 ?_
    refine PI_i (by omega) ?_
    unfold rM_cell nM_cell
    first
      | (rw [if_neg (by omega), if_neg (by omega)]; exact ⟨rfl, rfl⟩)
      | (rw [if_pos (by omega), if_pos (by omega), if_neg (by omega)]; exact ⟨rfl, rfl⟩)
      | (rw [if_pos (by omega), if_neg (by omega), if_neg (by omega), if_neg (by omega)]; exact ⟨rfl, rfl⟩)
      | (rw [if_pos (by omega), if_neg (by omega), if_pos (by omega), if_pos (by omega), hix]
         refine ⟨rfl, ?_⟩
         unfold sortZ
         first | rw [if_pos (by omega)] | rw [if_neg (by omega), if_pos (by omega)] | rw [if_neg (by omega), if_neg (by omega)])
  refine x_aload_n 68 C dX12_cell_67 rfl rfl rfl ?_
  refine x_getr (j := 53) 71 C rfl (lt79 (by decide)) rfl rfl (by decide) inT12 tb_4_187 rfl dX12_cell_68 rfl ?_
  refine x_iload_n 72 C dX12_cell_71 rfl rfl rfl ?_
  refine x_iald 73 C rfl (lt79 (by decide)) dX12_cell_72 rfl (by omega) (by omega) (fun r72 => ?_)
  refine x_iconst 74 C dX12_cell_73 rfl ?_
  refine x_icmp_ne 82 77 C dX12_cell_74 rfl rfl (by omega) (by omega) (fun h74 => ?_) (fun h74 => ?_)
  · refine x_iload_n 83 C dX12_cell_82 rfl rfl rfl ?_
    refine x_iast 84 C rfl (lt79 (by decide)) dX12_cell_83 rfl (by omega) (by omega) (by first | omega | (unfold byteZ; omega) | (unfold shortZ; omega)) ?_
    refine x_iconst 85 C dX12_cell_84 rfl ?_
    refine x_iret C T dX12_cell_85 ?_
    refine PI_i (by omega) ?_
    unfold rM_cell nM_cell
    first
      | (rw [if_neg (by omega), if_neg (by omega)]; exact ⟨rfl, rfl⟩)
      | (rw [if_pos (by omega), if_pos (by omega), if_neg (by omega)]; exact ⟨rfl, rfl⟩)
      | (rw [if_pos (by omega), if_neg (by omega), if_neg (by omega), if_neg (by omega)]; exact ⟨rfl, rfl⟩)
      | (rw [if_pos (by omega), if_neg (by omega), if_pos (by omega), if_pos (by omega), hix]
         refine ⟨rfl, ?_⟩
         unfold sortZ
         first | rw [if_pos (by omega)] | rw [if_neg (by omega), if_pos (by omega)] | rw [if_neg (by omega), if_neg (by omega)])
  refine x_iload_n 78 C dX12_cell_77 rfl rfl rfl ?_
  refine x_i2s (shortZ v) 79 C dX12_cell_78 rfl (iZ_short hv) ?_
  refine x_goto 83 C dX12_cell_79 rfl ?_
  refine x_iast 84 C rfl (lt79 (by decide)) dX12_cell_83 rfl (by omega) (by omega) (by first | omega | (unfold byteZ; omega) | (unfold shortZ; omega)) ?_
  refine x_iconst 85 C dX12_cell_84 rfl ?_
  refine x_iret C T dX12_cell_85 ?_
  refine PI_i (by omega) ?_
  unfold rM_cell nM_cell
  first
    | (rw [if_neg (by omega), if_neg (by omega)]; exact ⟨rfl, rfl⟩)
    | (rw [if_pos (by omega), if_pos (by omega), if_neg (by omega)]; exact ⟨rfl, rfl⟩)
    | (rw [if_pos (by omega), if_neg (by omega), if_neg (by omega), if_neg (by omega)]; exact ⟨rfl, rfl⟩)
    | (rw [if_pos (by omega), if_neg (by omega), if_pos (by omega), if_pos (by omega), hix]
       refine ⟨rfl, ?_⟩
       unfold sortZ
       first | rw [if_pos (by omega)] | rw [if_neg (by omega), if_pos (by omega)] | rw [if_neg (by omega), if_neg (by omega)])

def okM (σ : Sig) (s i t j n : Int) : Prop := 0 ≤ i ∧ 0 ≤ n ∧ i ≤ σ 77 s.toNat - n ∧ 0 ≤ j ∧ j ≤ σ 77 t.toNat - n
def copyM (σ : Sig) (s t i j n : Int) : Sig := fun a b => if a = 78 ∧ 40 * t.toNat + j.toNat ≤ b ∧ b < 40 * t.toNat + j.toNat + n.toNat then σ 78 (40 * s.toNat + i.toNat + (b - (40 * t.toNat + j.toNat))) else σ a b
def QM_copy (σ : Sig) (s i t j n : Int) (z : Int) (σ' : Sig) : Prop :=
  (¬ ((0 ≤ s ∧ s < 4) ∧ 0 ≤ t ∧ t < 4) → z = -2 ∧ σ' = σ) ∧
  ((0 ≤ s ∧ s < 4) ∧ (0 ≤ t ∧ t < 4) → (σ 75 s.toNat = 0 ∨ σ 75 t.toNat = 0) → z = -11 ∧ σ' = σ) ∧
  ((0 ≤ s ∧ s < 4) ∧ (0 ≤ t ∧ t < 4) → ¬ (σ 75 s.toNat = 0 ∨ σ 75 t.toNat = 0) → σ 76 s.toNat ≠ σ 76 t.toNat → z = -13 ∧ σ' = σ) ∧
  ((0 ≤ s ∧ s < 4) ∧ (0 ≤ t ∧ t < 4) → ¬ (σ 75 s.toNat = 0 ∨ σ 75 t.toNat = 0) → σ 76 s.toNat = σ 76 t.toNat → ¬ okM σ s i t j n → z = -12 ∧ σ' = σ) ∧
  ((0 ≤ s ∧ s < 4) ∧ (0 ≤ t ∧ t < 4) → ¬ (σ 75 s.toNat = 0 ∨ σ 75 t.toNat = 0) → σ 76 s.toNat = σ 76 t.toNat → okM σ s i t j n → z = n ∧ σ' = copyM σ s t i j n)
set_option maxHeartbeats 4000000 in
set_option maxRecDepth 100000 in
theorem c_X12_copy {l : Launch} {G : Gt} {ρ : Nat → Nat} {tc : Nat} {cl : Nat → Nat} {σ : Sig} {s i t j n : Int} (hs : -2147483648 ≤ s ∧ s ≤ 2147483647) (hi : -2147483648 ≤ i ∧ i ≤ 2147483647) (ht : -2147483648 ≤ t ∧ t ≤ 2147483647) (hj : -2147483648 ≤ j ∧ j ≤ 2147483647) (hn : -2147483648 ≤ n ∧ n ≤ 2147483647) (hS : MS σ) : MX l yX12_copy cX12_copy 9 (some .int) 2 45 G (NN tc) ρ (shp tc cl) [.ref (ρ 51), .int (iZ s), .int (iZ i), .int (iZ t), .int (iZ j), .int (iZ n)] σ (PI (fun z σ' => QM_copy σ s i t j n z σ')) := by
  refine MX_of [some (.ref (ρ 51)), some (.int (iZ s)), some (.int (iZ i)), some (.int (iZ t)), some (.int (iZ j)), some (.int (iZ n)), none, none, none] (by decide +kernel) rfl rfl (Nat.le_of_ble_eq_true rfl) ?_
  intro K hKl C T hRng
  subst hKl
  refine x_iload_n 1 C dX12_copy_0 rfl rfl rfl ?_
  refine x_callSe 4 C dX12_copy_1 rfl (c_X12_isSheet (by omega)) tb_6_59 tb_6_60 tb_1_20 tb_6_61 (na := 1) (by decide +kernel) rfl ⟨by decide, by decide⟩ rfl (Nat.le_of_ble_eq_true rfl) rfl (fun r1 => ?_)
  first
    | refine x_ifb_eq 14 7 C dX12_copy_4 rfl rfl (fun h4 => ?_) (fun h4 => ?_)
    | refine x_if_eq 14 7 C dX12_copy_4 rfl rfl (by omega) (fun h4 => ?_) (fun h4 => ?_)
  · refine x_bipush 16 C dX12_copy_14 rfl rfl ?_
    refine x_iret C T dX12_copy_16 ?_
    refine PI_i (by omega) ?_
    unfold QM_copy okM
    refine ⟨?_, ?_, ?_, ?_, ?_⟩ <;> intros <;> first
      | exact ⟨rfl, rfl⟩
      | (exfalso; omega)
      | (refine ⟨rfl, ?_⟩
         rw [hs1]
         funext a b
         unfold copyM
         by_cases hc : a = 78 ∧ 40 * t.toNat + j.toNat ≤ b ∧ b < 40 * t.toNat + j.toNat + n.toNat
         · rw [if_pos (by omega), if_pos hc]
         · rw [if_neg (by omega), if_neg hc])
  refine x_iload_n 8 C dX12_copy_7 rfl rfl rfl ?_
  refine x_callSe 11 C dX12_copy_8 rfl (c_X12_isSheet (by omega)) tb_6_59 tb_6_60 tb_1_20 tb_6_61 (na := 1) (by decide +kernel) rfl ⟨by decide, by decide⟩ rfl (Nat.le_of_ble_eq_true rfl) rfl (fun r8 => ?_)
  first
    | refine x_ifb_ne 17 14 C dX12_copy_11 rfl rfl (fun h11 => ?_) (fun h11 => ?_)
    | refine x_if_ne 17 14 C dX12_copy_11 rfl rfl (by omega) (fun h11 => ?_) (fun h11 => ?_)
  rotate_left
  · refine x_bipush 16 C dX12_copy_14 rfl rfl ?_
    refine x_iret C T dX12_copy_16 ?_
    refine PI_i (by omega) ?_
    unfold QM_copy okM
    refine ⟨?_, ?_, ?_, ?_, ?_⟩ <;> intros <;> first
      | exact ⟨rfl, rfl⟩
      | (exfalso; omega)
      | (refine ⟨rfl, ?_⟩
         rw [hs1]
         funext a b
         unfold copyM
         by_cases hc : a = 78 ∧ 40 * t.toNat + j.toNat ≤ b ∧ b < 40 * t.toNat + j.toNat + n.toNat
         · rw [if_pos (by omega), if_pos hc]
         · rw [if_neg (by omega), if_neg hc])
  have hz1 := hS s.toNat (by omega)
  have hz2 := hS t.toNat (by omega)
  refine x_aload_n 18 C dX12_copy_17 rfl rfl rfl ?_
  refine x_getr (j := 52) 21 C rfl (lt79 (by decide)) rfl rfl (by decide) inT12 tb_4_186 rfl dX12_copy_18 rfl ?_
  refine x_iload_n 22 C dX12_copy_21 rfl rfl rfl ?_
  refine x_zald 23 C rfl (lt79 (by decide)) dX12_copy_22 rfl (by omega) (by omega) (fun r22 => ?_)
  refine x_if_eq 35 26 C dX12_copy_23 rfl rfl (by omega) (fun h23 => ?_) (fun h23 => ?_)
  · refine x_bipush 37 C dX12_copy_35 rfl rfl ?_
    refine x_iret C T dX12_copy_37 ?_
    refine PI_i (by omega) ?_
    unfold QM_copy okM
    refine ⟨?_, ?_, ?_, ?_, ?_⟩ <;> intros <;> first
      | exact ⟨rfl, rfl⟩
      | (exfalso; omega)
      | (refine ⟨rfl, ?_⟩
         rw [hs1]
         funext a b
         unfold copyM
         by_cases hc : a = 78 ∧ 40 * t.toNat + j.toNat ≤ b ∧ b < 40 * t.toNat + j.toNat + n.toNat
         · rw [if_pos (by omega), if_pos hc]
         · rw [if_neg (by omega), if_neg hc])
  refine x_aload_n 27 C dX12_copy_26 rfl rfl rfl ?_
  refine x_getr (j := 52) 30 C rfl (lt79 (by decide)) rfl rfl (by decide) inT12 tb_4_186 rfl dX12_copy_27 rfl ?_
  refine x_iload_n 31 C dX12_copy_30 rfl rfl rfl ?_
  refine x_zald 32 C rfl (lt79 (by decide)) dX12_copy_31 rfl (by omega) (by omega) (fun r31 => ?_)
  refine x_if_ne 38 35 C dX12_copy_32 rfl rfl (by omega) (fun h32 => ?_) (fun h32 => ?_)
  rotate_left
  · refine x_bipush 37 C dX12_copy_35 rfl rfl ?_
    refine x_iret C T dX12_copy_37 ?_
    refine PI_i (by omega) ?_
    unfold QM_copy okM
    refine ⟨?_, ?_, ?_, ?_, ?_⟩ <;> intros <;> first
      | exact ⟨rfl, rfl⟩
      | (exfalso; omega)
      | (refine ⟨rfl, ?_⟩
         rw [hs1]
         funext a b
         unfold copyM
         by_cases hc : a = 78 ∧ 40 * t.toNat + j.toNat ≤ b ∧ b < 40 * t.toNat + j.toNat + n.toNat
         · rw [if_pos (by omega), if_pos hc]
         · rw [if_neg (by omega), if_neg hc])
  refine x_aload_n 39 C dX12_copy_38 rfl rfl rfl ?_
  refine x_getr (j := 53) 42 C rfl (lt79 (by decide)) rfl rfl (by decide) inT12 tb_4_187 rfl dX12_copy_39 rfl ?_
  refine x_iload_n 43 C dX12_copy_42 rfl rfl rfl ?_
  refine x_iald 44 C rfl (lt79 (by decide)) dX12_copy_43 rfl (by omega) (by omega) (fun r43 => ?_)
  refine x_aload_n 45 C dX12_copy_44 rfl rfl rfl ?_
  refine x_getr (j := 53) 48 C rfl (lt79 (by decide)) rfl rfl (by decide) inT12 tb_4_187 rfl dX12_copy_45 rfl ?_
  refine x_iload_n 49 C dX12_copy_48 rfl rfl rfl ?_
  refine x_iald 50 C rfl (lt79 (by decide)) dX12_copy_49 rfl (by omega) (by omega) (fun r49 => ?_)
  refine x_icmp_eq 56 53 C dX12_copy_50 rfl rfl (by omega) (by omega) (fun h50 => ?_) (fun h50 => ?_)
  rotate_left
  · refine x_bipush 55 C dX12_copy_53 rfl rfl ?_
    refine x_iret C T dX12_copy_55 ?_
    refine PI_i (by omega) ?_
    unfold QM_copy okM
    refine ⟨?_, ?_, ?_, ?_, ?_⟩ <;> intros <;> first
      | exact ⟨rfl, rfl⟩
      | (exfalso; omega)
      | (refine ⟨rfl, ?_⟩
         rw [hs1]
         funext a b
         unfold copyM
         by_cases hc : a = 78 ∧ 40 * t.toNat + j.toNat ≤ b ∧ b < 40 * t.toNat + j.toNat + n.toNat
         · rw [if_pos (by omega), if_pos hc]
         · rw [if_neg (by omega), if_neg hc])
  refine x_iload 58 C dX12_copy_56 rfl rfl ?_
  refine x_if_lt 97 61 C dX12_copy_58 rfl rfl (by omega) (fun h58 => ?_) (fun h58 => ?_)
  · refine x_bipush 99 C dX12_copy_97 rfl rfl ?_
    refine x_iret C T dX12_copy_99 ?_
    refine PI_i (by omega) ?_
    unfold QM_copy okM
    refine ⟨?_, ?_, ?_, ?_, ?_⟩ <;> intros <;> first
      | exact ⟨rfl, rfl⟩
      | (exfalso; omega)
      | (refine ⟨rfl, ?_⟩
         rw [hs1]
         funext a b
         unfold copyM
         by_cases hc : a = 78 ∧ 40 * t.toNat + j.toNat ≤ b ∧ b < 40 * t.toNat + j.toNat + n.toNat
         · rw [if_pos (by omega), if_pos hc]
         · rw [if_neg (by omega), if_neg hc])
  refine x_iload_n 62 C dX12_copy_61 rfl rfl rfl ?_
  refine x_if_lt 97 65 C dX12_copy_62 rfl rfl (by omega) (fun h62 => ?_) (fun h62 => ?_)
  · refine x_bipush 99 C dX12_copy_97 rfl rfl ?_
    refine x_iret C T dX12_copy_99 ?_
    refine PI_i (by omega) ?_
    unfold QM_copy okM
    refine ⟨?_, ?_, ?_, ?_, ?_⟩ <;> intros <;> first
      | exact ⟨rfl, rfl⟩
      | (exfalso; omega)
      | (refine ⟨rfl, ?_⟩
         rw [hs1]
         funext a b
         unfold copyM
         by_cases hc : a = 78 ∧ 40 * t.toNat + j.toNat ≤ b ∧ b < 40 * t.toNat + j.toNat + n.toNat
         · rw [if_pos (by omega), if_pos hc]
         · rw [if_neg (by omega), if_neg hc])
  refine x_iload 67 C dX12_copy_65 rfl rfl ?_
  refine x_if_lt 97 70 C dX12_copy_67 rfl rfl (by omega) (fun h67 => ?_) (fun h67 => ?_)
  · refine x_bipush 99 C dX12_copy_97 rfl rfl ?_
    refine x_iret C T dX12_copy_99 ?_
    refine PI_i (by omega) ?_
    unfold QM_copy okM
    refine ⟨?_, ?_, ?_, ?_, ?_⟩ <;> intros <;> first
      | exact ⟨rfl, rfl⟩
      | (exfalso; omega)
      | (refine ⟨rfl, ?_⟩
         rw [hs1]
         funext a b
         unfold copyM
         by_cases hc : a = 78 ∧ 40 * t.toNat + j.toNat ≤ b ∧ b < 40 * t.toNat + j.toNat + n.toNat
         · rw [if_pos (by omega), if_pos hc]
         · rw [if_neg (by omega), if_neg hc])
  refine x_iload_n 71 C dX12_copy_70 rfl rfl rfl ?_
  refine x_aload_n 72 C dX12_copy_71 rfl rfl rfl ?_
  refine x_getr (j := 54) 75 C rfl (lt79 (by decide)) rfl rfl (by decide) inT12 tb_4_188 rfl dX12_copy_72 rfl ?_
  refine x_iload_n 76 C dX12_copy_75 rfl rfl rfl ?_
  refine x_iald 77 C rfl (lt79 (by decide)) dX12_copy_76 rfl (by omega) (by omega) (fun r76 => ?_)
  refine x_iload 79 C dX12_copy_77 rfl rfl ?_
  refine x_isub 80 C dX12_copy_79 rfl ?_
  refine x_icmp_gt 97 83 C dX12_copy_80 rfl rfl (by omega) (by omega) (fun h80 => ?_) (fun h80 => ?_)
  · refine x_bipush 99 C dX12_copy_97 rfl rfl ?_
    refine x_iret C T dX12_copy_99 ?_
    refine PI_i (by omega) ?_
    unfold QM_copy okM
    refine ⟨?_, ?_, ?_, ?_, ?_⟩ <;> intros <;> first
      | exact ⟨rfl, rfl⟩
      | (exfalso; omega)
      | (refine ⟨rfl, ?_⟩
         rw [hs1]
         funext a b
         unfold copyM
         by_cases hc : a = 78 ∧ 40 * t.toNat + j.toNat ≤ b ∧ b < 40 * t.toNat + j.toNat + n.toNat
         · rw [if_pos (by omega), if_pos hc]
         · rw [if_neg (by omega), if_neg hc])
  refine x_iload 85 C dX12_copy_83 rfl rfl ?_
  refine x_aload_n 86 C dX12_copy_85 rfl rfl rfl ?_
  refine x_getr (j := 54) 89 C rfl (lt79 (by decide)) rfl rfl (by decide) inT12 tb_4_188 rfl dX12_copy_86 rfl ?_
  refine x_iload_n 90 C dX12_copy_89 rfl rfl rfl ?_
  refine x_iald 91 C rfl (lt79 (by decide)) dX12_copy_90 rfl (by omega) (by omega) (fun r90 => ?_)
  refine x_iload 93 C dX12_copy_91 rfl rfl ?_
  refine x_isub 94 C dX12_copy_93 rfl ?_
  refine x_icmp_le 100 97 C dX12_copy_94 rfl rfl (by omega) (by omega) (fun h94 => ?_) (fun h94 => ?_)
  rotate_left
  · refine x_bipush 99 C dX12_copy_97 rfl rfl ?_
    refine x_iret C T dX12_copy_99 ?_
    refine PI_i (by omega) ?_
    unfold QM_copy okM
    refine ⟨?_, ?_, ?_, ?_, ?_⟩ <;> intros <;> first
      | exact ⟨rfl, rfl⟩
      | (exfalso; omega)
      | (refine ⟨rfl, ?_⟩
         rw [hs1]
         funext a b
         unfold copyM
         by_cases hc : a = 78 ∧ 40 * t.toNat + j.toNat ≤ b ∧ b < 40 * t.toNat + j.toNat + n.toNat
         · rw [if_pos (by omega), if_pos hc]
         · rw [if_neg (by omega), if_neg hc])
  have hok : okM σ s i t j n := by unfold okM; omega
  have hA : (40 * s + i).toNat = 40 * s.toNat + i.toNat := by omega
  refine x_iload_n 101 C dX12_copy_100 rfl rfl rfl ?_
  refine x_iload_n 102 C dX12_copy_101 rfl rfl rfl ?_
  have J116 : ∀ (u : Int), ((u = 1 ∧ s = t ∧ i < j) ∨ (u = 0 ∧ ¬ (s = t ∧ i < j))) → Ex K G (NN tc) ρ (shp tc cl) 116 [some (.ref (ρ 51)), some (.int (iZ s)), some (.int (iZ i)), some (.int (iZ t)), some (.int (iZ j)), some (.int (iZ n)), none, none, none] [.int (iZ u)] σ := by
    intro u hinv
    refine x_istore_6 118 C dX12_copy_116 rfl rfl ?_
    refine x_iconst 119 C dX12_copy_118 rfl ?_
    refine x_istore_7 121 C dX12_copy_119 rfl rfl ?_
    have L121 : ∀ (m : Nat) (k : Nat) (y : Int) (s1 : Sig), m = n.toNat - k → ((k : Int) ≤ n ∧ y = k ∧ s1 = (fun a b => if a = 78 ∧ (40 * t.toNat + j.toNat ≤ b ∧ b < 40 * t.toNat + j.toNat + n.toNat) ∧ ((u = 1 ∧ 40 * t.toNat + j.toNat + n.toNat ≤ b + k) ∨ (u = 0 ∧ b < 40 * t.toNat + j.toNat + k)) then σ 78 (40 * s.toNat + i.toNat + (b - (40 * t.toNat + j.toNat))) else σ a b)) → Ex K G (NN tc) ρ (shp tc cl) 121 [some (.ref (ρ 51)), some (.int (iZ s)), some (.int (iZ i)), some (.int (iZ t)), some (.int (iZ j)), some (.int (iZ n)), some (.int (iZ u)), some (.int (iZ y)), none] [] s1 := by
      intro m
      induction m using Nat.strongRecOn with
      | ind m ih =>
        intro k y s1 hm hinv
        obtain ⟨hk, rfl, hs1⟩ := hinv
        unfold okM at hok
        refine x_iload 123 C dX12_copy_121 rfl rfl ?_
        refine x_iload 125 C dX12_copy_123 rfl rfl ?_
        refine x_icmp_ge 182 128 C dX12_copy_125 rfl rfl (by omega) (by omega) (fun h125 => ?_) (fun h125 => ?_)
        · refine x_iload 184 C dX12_copy_182 rfl rfl ?_
          refine x_iret C T dX12_copy_184 ?_
          refine PI_i (by omega) ?_
          unfold QM_copy okM
          refine ⟨?_, ?_, ?_, ?_, ?_⟩ <;> intros <;> first
            | exact ⟨rfl, rfl⟩
            | (exfalso; omega)
            | (refine ⟨rfl, ?_⟩
               rw [hs1]
               funext a b
               unfold copyM
               by_cases hc : a = 78 ∧ 40 * t.toNat + j.toNat ≤ b ∧ b < 40 * t.toNat + j.toNat + n.toNat
               · rw [if_pos (by omega), if_pos hc]
               · rw [if_neg (by omega), if_neg hc])
        have J145 : ∀ (p : Int), (0 ≤ p ∧ p < n ∧ ((u = 1 ∧ p = n - 1 - (k : Int)) ∨ (u = 0 ∧ p = k))) → Ex K G (NN tc) ρ (shp tc cl) 145 [some (.ref (ρ 51)), some (.int (iZ s)), some (.int (iZ i)), some (.int (iZ t)), some (.int (iZ j)), some (.int (iZ n)), some (.int (iZ u)), some (.int (iZ (k : Int))), none] [.int (iZ p)] s1 := by
          intro p hinv
          obtain ⟨hp0, hpn, hpu⟩ := hinv
          refine x_istore_8 147 C dX12_copy_145 rfl rfl ?_
          refine x_aload_n 148 C dX12_copy_147 rfl rfl rfl ?_
          refine x_getr (j := 55) 151 C rfl (lt79 (by decide)) rfl rfl (by decide) inT12 tb_4_189 rfl dX12_copy_148 rfl ?_
          refine x_bipush 153 C dX12_copy_151 rfl rfl ?_
          refine x_iload_n 154 C dX12_copy_153 rfl rfl rfl ?_
          refine x_imul 155 C dX12_copy_154 rfl ?_
          refine x_iload 157 C dX12_copy_155 rfl rfl ?_
          refine x_iadd 158 C dX12_copy_157 rfl ?_
          refine x_iload 160 C dX12_copy_158 rfl rfl ?_
          refine x_iadd 161 C dX12_copy_160 rfl ?_
          refine x_aload_n 162 C dX12_copy_161 rfl rfl rfl ?_
          refine x_getr (j := 55) 165 C rfl (lt79 (by decide)) rfl rfl (by decide) inT12 tb_4_189 rfl dX12_copy_162 rfl ?_
          refine x_bipush 167 C dX12_copy_165 rfl rfl ?_
          refine x_iload_n 168 C dX12_copy_167 rfl rfl rfl ?_
          refine x_imul 169 C dX12_copy_168 rfl ?_
          refine x_iload_n 170 C dX12_copy_169 rfl rfl rfl ?_
          refine x_iadd 171 C dX12_copy_170 rfl ?_
          refine x_iload 173 C dX12_copy_171 rfl rfl ?_
          refine x_iadd 174 C dX12_copy_173 rfl ?_
          refine x_iald 175 C rfl (lt79 (by decide)) dX12_copy_174 rfl (by omega) (by omega) (fun r174 => ?_)
          refine x_iast 176 C rfl (lt79 (by decide)) dX12_copy_175 rfl (by omega) (by omega) (by omega) ?_
          refine x_iinc_7 179 C dX12_copy_176 rfl rfl ?_
          refine x_goto 121 C dX12_copy_179 rfl ?_
          refine x_drop_8 ?_
          refine ih _ ?_ (k + 1) _ _ rfl ⟨by omega, by omega, ?_⟩
          · omega
          · have e1 : s1 78 (40 * s + i + p).toNat = σ 78 (40 * s.toNat + i.toNat + p.toNat) := by
              rw [hs1]
              dsimp only
              rw [if_neg (by omega), show (40 * s + i + p).toNat = 40 * s.toNat + i.toNat + p.toNat by omega]
            rw [e1, hs1]
            funext a b
            simp only [up]
            rw [show (40 * t + j + p).toNat = 40 * t.toNat + j.toNat + p.toNat by omega]
            by_cases ha : a = 78
            · subst ha
              rw [if_pos rfl]
              by_cases hb : b = 40 * t.toNat + j.toNat + p.toNat
              · rw [if_pos hb, if_pos (by omega), show b - (40 * t.toNat + j.toNat) = p.toNat by omega]
              · rw [if_neg hb]
                by_cases hc : (40 * t.toNat + j.toNat ≤ b ∧ b < 40 * t.toNat + j.toNat + n.toNat) ∧ ((u = 1 ∧ 40 * t.toNat + j.toNat + n.toNat ≤ b + k) ∨ (u = 0 ∧ b < 40 * t.toNat + j.toNat + k))
                · rw [if_pos ⟨rfl, hc⟩, if_pos (by omega)]
                · rw [if_neg (fun h => hc h.2), if_neg (by omega)]
            · rw [if_neg ha, if_neg (by omega), if_neg (by omega)]
        refine x_iload 130 C dX12_copy_128 rfl rfl ?_
        refine x_if_eq 143 133 C dX12_copy_130 rfl rfl (by omega) (fun h130 => ?_) (fun h130 => ?_)
        · refine x_iload 145 C dX12_copy_143 rfl rfl ?_
          exact J145 _ (by omega)
        refine x_iload 135 C dX12_copy_133 rfl rfl ?_
        refine x_iconst 136 C dX12_copy_135 rfl ?_
        refine x_isub 137 C dX12_copy_136 rfl ?_
        refine x_iload 139 C dX12_copy_137 rfl rfl ?_
        refine x_isub 140 C dX12_copy_139 rfl ?_
        refine x_goto 145 C dX12_copy_140 rfl ?_
        exact J145 _ (by omega)
    refine L121 _ 0 _ _ rfl ⟨by unfold okM at hok; omega, rfl, ?_⟩
    funext a b
    rw [if_neg (by omega)]
  refine x_icmp_ne 115 105 C dX12_copy_102 rfl rfl (by omega) (by omega) (fun h102 => ?_) (fun h102 => ?_)
  · refine x_iconst 116 C dX12_copy_115 rfl ?_
    exact J116 _ (by omega)
  refine x_iload_n 106 C dX12_copy_105 rfl rfl rfl ?_
  refine x_iload 108 C dX12_copy_106 rfl rfl ?_
  refine x_icmp_ge 115 111 C dX12_copy_108 rfl rfl (by omega) (by omega) (fun h108 => ?_) (fun h108 => ?_)
  · refine x_iconst 116 C dX12_copy_115 rfl ?_
    exact J116 _ (by omega)
  refine x_iconst 112 C dX12_copy_111 rfl ?_
  refine x_goto 116 C dX12_copy_112 rfl ?_
  exact J116 _ (by omega)
