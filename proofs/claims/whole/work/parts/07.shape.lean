theorem inT0 : ∀ w ∈ u_ws RX0 TX0 0, w ∈ TB := fun _ h => absurd h List.not_mem_nil
theorem inT1 : ∀ w ∈ u_ws RX1 TX1 0, w ∈ TB := fun _ h => absurd h List.not_mem_nil
theorem inT2 : ∀ w ∈ u_ws RX2 TX2 0, w ∈ TB := fun _ h => absurd h List.not_mem_nil
theorem inT3 : ∀ w ∈ u_ws RX3 TX3 14, w ∈ TB := by
  intro w hw
  obtain ⟨q, hq, rfl⟩ := List.mem_map.mp hw
  have hq := List.mem_range.mp hq
  match q, hq with
  | 0, _ => exact tb_2_124
  | 1, _ => exact tb_2_126
  | 2, _ => exact tb_2_128
  | 3, _ => exact tb_2_130
  | 4, _ => exact tb_2_132
  | 5, _ => exact tb_2_134
  | 6, _ => exact tb_2_136
  | 7, _ => exact tb_2_138
  | 8, _ => exact tb_2_140
  | 9, _ => exact tb_2_142
  | 10, _ => exact tb_2_144
  | 11, _ => exact tb_2_146
  | 12, _ => exact tb_2_148
  | 13, _ => exact tb_2_150
  | q + 14, hq => exact absurd hq (by omega)
theorem inT4 : ∀ w ∈ u_ws RX4 TX4 0, w ∈ TB := fun _ h => absurd h List.not_mem_nil
theorem inT5 : ∀ w ∈ u_ws RX5 TX5 8, w ∈ TB := by
  intro w hw
  obtain ⟨q, hq, rfl⟩ := List.mem_map.mp hw
  have hq := List.mem_range.mp hq
  match q, hq with
  | 0, _ => exact tb_1_161
  | 1, _ => exact tb_1_163
  | 2, _ => exact tb_1_165
  | 3, _ => exact tb_1_167
  | 4, _ => exact tb_1_169
  | 5, _ => exact tb_1_171
  | 6, _ => exact tb_1_173
  | 7, _ => exact tb_1_175
  | q + 8, hq => exact absurd hq (by omega)
theorem inT6 : ∀ w ∈ u_ws RX6 TX6 3, w ∈ TB := by
  intro w hw
  obtain ⟨q, hq, rfl⟩ := List.mem_map.mp hw
  have hq := List.mem_range.mp hq
  match q, hq with
  | 0, _ => exact tb_2_166
  | 1, _ => exact tb_2_168
  | 2, _ => exact tb_2_170
  | q + 3, hq => exact absurd hq (by omega)
theorem inT7 : ∀ w ∈ u_ws RX7 TX7 4, w ∈ TB := by
  intro w hw
  obtain ⟨q, hq, rfl⟩ := List.mem_map.mp hw
  have hq := List.mem_range.mp hq
  match q, hq with
  | 0, _ => exact tb_2_91
  | 1, _ => exact tb_2_93
  | 2, _ => exact tb_2_95
  | 3, _ => exact tb_2_97
  | q + 4, hq => exact absurd hq (by omega)
theorem inT8 : ∀ w ∈ u_ws RX8 TX8 0, w ∈ TB := fun _ h => absurd h List.not_mem_nil
theorem inT9 : ∀ w ∈ u_ws RX9 TX9 13, w ∈ TB := by
  intro w hw
  obtain ⟨q, hq, rfl⟩ := List.mem_map.mp hw
  have hq := List.mem_range.mp hq
  match q, hq with
  | 0, _ => exact tb_1_74
  | 1, _ => exact tb_1_76
  | 2, _ => exact tb_1_78
  | 3, _ => exact tb_1_80
  | 4, _ => exact tb_1_82
  | 5, _ => exact tb_1_84
  | 6, _ => exact tb_1_86
  | 7, _ => exact tb_1_88
  | 8, _ => exact tb_1_90
  | 9, _ => exact tb_1_92
  | 10, _ => exact tb_1_94
  | 11, _ => exact tb_1_96
  | 12, _ => exact tb_1_98
  | q + 13, hq => exact absurd hq (by omega)
theorem inT10 : ∀ w ∈ u_ws RX10 TX10 0, w ∈ TB := fun _ h => absurd h List.not_mem_nil
theorem inT11 : ∀ w ∈ u_ws RX11 TX11 12, w ∈ TB := by
  intro w hw
  obtain ⟨q, hq, rfl⟩ := List.mem_map.mp hw
  have hq := List.mem_range.mp hq
  match q, hq with
  | 0, _ => exact tb_2_185
  | 1, _ => exact tb_2_187
  | 2, _ => exact tb_2_189
  | 3, _ => exact tb_2_191
  | 4, _ => exact tb_2_193
  | 5, _ => exact tb_2_195
  | 6, _ => exact tb_2_197
  | 7, _ => exact tb_2_199
  | 8, _ => exact tb_2_201
  | 9, _ => exact tb_2_203
  | 10, _ => exact tb_2_205
  | 11, _ => exact tb_2_207
  | q + 12, hq => exact absurd hq (by omega)
theorem inT12 : ∀ w ∈ u_ws RX12 TX12 56, w ∈ TB := by
  intro w hw
  obtain ⟨q, hq, rfl⟩ := List.mem_map.mp hw
  have hq := List.mem_range.mp hq
  match q, hq with
  | 0, _ => exact tb_4_190
  | 1, _ => exact tb_4_192
  | 2, _ => exact tb_4_194
  | 3, _ => exact tb_4_196
  | 4, _ => exact tb_4_198
  | 5, _ => exact tb_4_200
  | 6, _ => exact tb_4_202
  | 7, _ => exact tb_4_204
  | 8, _ => exact tb_4_206
  | 9, _ => exact tb_4_208
  | 10, _ => exact tb_4_210
  | 11, _ => exact tb_4_212
  | 12, _ => exact tb_4_214
  | 13, _ => exact tb_4_216
  | 14, _ => exact tb_4_218
  | 15, _ => exact tb_4_220
  | 16, _ => exact tb_4_222
  | 17, _ => exact tb_4_224
  | 18, _ => exact tb_4_226
  | 19, _ => exact tb_4_228
  | 20, _ => exact tb_4_230
  | 21, _ => exact tb_4_232
  | 22, _ => exact tb_4_234
  | 23, _ => exact tb_4_236
  | 24, _ => exact tb_4_238
  | 25, _ => exact tb_5_0
  | 26, _ => exact tb_5_2
  | 27, _ => exact tb_5_4
  | 28, _ => exact tb_5_6
  | 29, _ => exact tb_5_8
  | 30, _ => exact tb_5_10
  | 31, _ => exact tb_5_12
  | 32, _ => exact tb_5_14
  | 33, _ => exact tb_5_16
  | 34, _ => exact tb_5_18
  | 35, _ => exact tb_5_20
  | 36, _ => exact tb_5_22
  | 37, _ => exact tb_5_24
  | 38, _ => exact tb_5_26
  | 39, _ => exact tb_5_28
  | 40, _ => exact tb_5_30
  | 41, _ => exact tb_5_32
  | 42, _ => exact tb_5_34
  | 43, _ => exact tb_5_36
  | 44, _ => exact tb_5_38
  | 45, _ => exact tb_5_40
  | 46, _ => exact tb_5_42
  | 47, _ => exact tb_5_44
  | 48, _ => exact tb_5_46
  | 49, _ => exact tb_5_48
  | 50, _ => exact tb_5_50
  | 51, _ => exact tb_5_52
  | 52, _ => exact tb_5_54
  | 53, _ => exact tb_5_56
  | 54, _ => exact tb_5_58
  | 55, _ => exact tb_5_60
  | q + 56, hq => exact absurd hq (by omega)
/-- the cells, by their labels: 0 FirstSeen; 1 Town, 2..10 its rows; 11 the image, 12..20; 21 kinds, 22..27; 28 Reader, 29, 30; 31 texts; 32 Morning, 33..41; 42 sheets, 43..46, 47..50; 51 the model, 52..78; from 79 on three for each text -/
def shp (tc : Nat) (cl : Nat → Nat) : Nat → Shc
  | 0 => cO 11 [4, 14, 0, 24, 31, 34, 0, 35, 45, 0, 0, 0]
  | 1 => cO 9 [5, 0, 0, 0, 6, 7, 8, 9, 0, 10, 11, 12, 13]
  | 2 => cA 36
  | 3 => cA 6
  | 4 => cA 6
  | 5 => cA 6
  | 6 => cA 6
  | 7 => cA 5
  | 8 => cA 5
  | 9 => cA 5
  | 10 => cA 5
  | 11 => cO 9 [15, 0, 0, 0, 16, 17, 18, 19, 0, 20, 21, 22, 23]
  | 12 => cA 36
  | 13 => cA 6
  | 14 => cA 6
  | 15 => cA 6
  | 16 => cA 6
  | 17 => cA 5
  | 18 => cA 5
  | 19 => cA 5
  | 20 => cA 5
  | 21 => cR 0 6 (fun i => some (22 + i))
  | 22 => cO 8 []
  | 23 => cO 10 []
  | 24 => cO 4 []
  | 25 => cO 0 []
  | 26 => cO 1 []
  | 27 => cO 2 []
  | 28 => cO 5 [32, 0, 0, 0, 0, 0, 33, 0]
  | 29 => cA 160
  | 30 => cA 160
  | 31 => cR 1 6 (fun i => if i < tc then some (79 + 3 * i) else none)
  | 32 => cO 3 [4, 24, 34, 36, 37, 38, 39, 40, 41, 42, 43, 44, 0, 0]
  | 33 => cA 6
  | 34 => cA 6
  | 35 => cA 6
  | 36 => cA 20
  | 37 => cA 120
  | 38 => cA 120
  | 39 => cA 5
  | 40 => cA 5
  | 41 => cA 5
  | 42 => cR 2 4 (fun i => some (43 + i))
  | 43 => cO 6 [50, 0, 0]
  | 44 => cO 6 [51, 0, 0]
  | 45 => cO 6 [52, 0, 0]
  | 46 => cO 6 [53, 0, 0]
  | 47 => cA 40
  | 48 => cA 40
  | 49 => cA 40
  | 50 => cA 40
  | 51 => cO 12 [0, 55, 56, 0, 0, 57, 0, 58, 0, 59, 60, 61, 62, 0, 63, 64, 65, 66, 0, 0, 0, 0, 0, 0, 0, 0, 0, 0, 0, 0, 1, 0, 0, 0, 67, 68, 69, 70, 71, 72, 73, 0, 0, 0, 74, 75, 76, 77, 0, 0, 0, 0, 78, 79, 80, 81]
  | 52 => cA 960
  | 53 => cA 6
  | 54 => cA 160
  | 55 => cA 36
  | 56 => cA 6
  | 57 => cA 6
  | 58 => cA 6
  | 59 => cA 6
  | 60 => cA 5
  | 61 => cA 5
  | 62 => cA 5
  | 63 => cA 5
  | 64 => cJ 1024
  | 65 => cA 1024
  | 66 => cA 30
  | 67 => cA 30
  | 68 => cA 5
  | 69 => cA 5
  | 70 => cA 5
  | 71 => cA 5
  | 72 => cA 36
  | 73 => cA 18
  | 74 => cA 15
  | 75 => cZ 4
  | 76 => cA 4
  | 77 => cA 4
  | 78 => cA 160
  | k + 79 => if k % 3 = 0 then cO 7 [k + 79 + 1 + 3, 0, 0, k + 79 + 2 + 3] else if k % 3 = 1 then cA (cl (k / 3)) else cA 40
def NN (tc : Nat) : Nat := 79 + 3 * tc
theorem lt79 {k tc : Nat} (h : k < 79) : k < NN tc := by unfold NN; omega
theorem sh_text {tc : Nat} {cl : Nat → Nat} (t : Nat) : shp tc cl (79 + 3 * t) = cO 7 [79 + 3 * t + 1 + 3, 0, 0, 79 + 3 * t + 2 + 3] := by
  rw [show 79 + 3 * t = 3 * t + 79 by omega]
  show (if (3 * t) % 3 = 0 then _ else _) = _
  rw [if_pos (by omega)]
theorem sh_code {tc : Nat} {cl : Nat → Nat} (t : Nat) : shp tc cl (79 + 3 * t + 1) = cA (cl t) := by
  rw [show 79 + 3 * t + 1 = 3 * t + 1 + 79 by omega]
  show (if (3 * t + 1) % 3 = 0 then _ else if (3 * t + 1) % 3 = 1 then cA (cl ((3 * t + 1) / 3)) else _) = _
  rw [if_neg (by omega), if_pos (by omega), show (3 * t + 1) / 3 = t by omega]
theorem sh_stack {tc : Nat} {cl : Nat → Nat} (t : Nat) : shp tc cl (79 + 3 * t + 2) = cA 40 := by
  rw [show 79 + 3 * t + 2 = 3 * t + 2 + 79 by omega]
  show (if (3 * t + 2) % 3 = 0 then _ else if (3 * t + 2) % 3 = 1 then _ else cA 40) = _
  rw [if_neg (by omega), if_neg (by omega)]
theorem sh_sheet {tc : Nat} {cl : Nat → Nat} {i : Nat} (h : i < 4) : shp tc cl (43 + i) = cO 6 [47 + i + 3, 0, 0] := by
  match i, h with
  | 0, _ => rfl
  | 1, _ => rfl
  | 2, _ => rfl
  | 3, _ => rfl
theorem sh_items {tc : Nat} {cl : Nat → Nat} {i : Nat} (h : i < 4) : shp tc cl (47 + i) = cA 40 := by
  match i, h with
  | 0, _ => rfl
  | 1, _ => rfl
  | 2, _ => rfl
  | 3, _ => rfl
theorem PE_i {σ : Sig} {e z : Int} (h : z = e) (hz : -2147483648 ≤ z ∧ z ≤ 2147483647) : PE σ e (some (.int (iZ z))) σ := by
  subst h
  exact ⟨rfl, hz, rfl⟩

