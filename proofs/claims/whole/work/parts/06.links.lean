/-! LINKS: printed by wip/whole/gen/gen_links.py -/
theorem xIn_0 : ∀ w ∈ u_ws RJx4a65c TJx4a65c 3, w ∈ BW := by
  intro w hw
  obtain ⟨k, hk, rfl⟩ := List.mem_map.mp hw
  have hk := List.mem_range.mp hk
  match k, hk with
  | 0, _ => exact (bw w_0_109 rfl)
  | 1, _ => exact (bw w_0_105 rfl)
  | 2, _ => exact (bw w_0_107 rfl)
  | k + 3, h => exact absurd h (by omega)
theorem xIn_1 : ∀ w ∈ u_ws RX0 TX0 6, w ∈ BW := by
  intro w hw
  obtain ⟨k, hk, rfl⟩ := List.mem_map.mp hw
  have hk := List.mem_range.mp hk
  match k, hk with
  | 0, _ => exact (bw w_2_1 rfl)
  | 1, _ => exact (bw w_2_2 rfl)
  | 2, _ => exact (bw w_2_3 rfl)
  | 3, _ => exact (bw w_2_4 rfl)
  | 4, _ => exact (bw w_2_5 rfl)
  | 5, _ => exact (bw w_2_6 rfl)
  | k + 6, h => exact absurd h (by omega)
theorem xIn_2 : ∀ w ∈ u_ws RX1 TX1 5, w ∈ BW := by
  intro w hw
  obtain ⟨k, hk, rfl⟩ := List.mem_map.mp hw
  have hk := List.mem_range.mp hk
  match k, hk with
  | 0, _ => exact (bw w_0_75 rfl)
  | 1, _ => exact (bw w_0_77 rfl)
  | 2, _ => exact (bw w_0_79 rfl)
  | 3, _ => exact (bw w_0_81 rfl)
  | 4, _ => exact (bw w_0_83 rfl)
  | k + 5, h => exact absurd h (by omega)
theorem xIn_3 : ∀ w ∈ u_ws RX2 TX2 6, w ∈ BW := by
  intro w hw
  obtain ⟨k, hk, rfl⟩ := List.mem_map.mp hw
  have hk := List.mem_range.mp hk
  match k, hk with
  | 0, _ => exact (bw w_1_192 rfl)
  | 1, _ => exact (bw w_1_193 rfl)
  | 2, _ => exact (bw w_1_194 rfl)
  | 3, _ => exact (bw w_1_195 rfl)
  | 4, _ => exact (bw w_1_196 rfl)
  | 5, _ => exact (bw w_1_197 rfl)
  | k + 6, h => exact absurd h (by omega)
theorem xIn_4 : ∀ w ∈ u_ws RX3 TX3 6, w ∈ BW := by
  intro w hw
  obtain ⟨k, hk, rfl⟩ := List.mem_map.mp hw
  have hk := List.mem_range.mp hk
  match k, hk with
  | 0, _ => exact (bw w_1_205 rfl)
  | 1, _ => exact (bw w_1_206 rfl)
  | 2, _ => exact (bw w_1_207 rfl)
  | 3, _ => exact (bw w_1_208 rfl)
  | 4, _ => exact (bw w_1_209 rfl)
  | 5, _ => exact (bw w_1_210 rfl)
  | k + 6, h => exact absurd h (by omega)
theorem xIn_5 : ∀ w ∈ u_ws RX4 TX4 6, w ∈ BW := by
  intro w hw
  obtain ⟨k, hk, rfl⟩ := List.mem_map.mp hw
  have hk := List.mem_range.mp hk
  match k, hk with
  | 0, _ => exact (bw w_1_160 rfl)
  | 1, _ => exact (bw w_1_162 rfl)
  | 2, _ => exact (bw w_1_164 rfl)
  | 3, _ => exact (bw w_1_166 rfl)
  | 4, _ => exact (bw w_1_168 rfl)
  | 5, _ => exact (bw w_1_170 rfl)
  | k + 6, h => exact absurd h (by omega)
theorem xIn_6 : ∀ w ∈ u_ws RX5 TX5 6, w ∈ BW := by
  intro w hw
  obtain ⟨k, hk, rfl⟩ := List.mem_map.mp hw
  have hk := List.mem_range.mp hk
  match k, hk with
  | 0, _ => exact (bw w_1_119 rfl)
  | 1, _ => exact (bw w_1_121 rfl)
  | 2, _ => exact (bw w_1_123 rfl)
  | 3, _ => exact (bw w_1_125 rfl)
  | 4, _ => exact (bw w_1_127 rfl)
  | 5, _ => exact (bw w_1_129 rfl)
  | k + 6, h => exact absurd h (by omega)
theorem xIn_7 : ∀ w ∈ u_ws RX6 TX6 6, w ∈ BW := by
  intro w hw
  obtain ⟨k, hk, rfl⟩ := List.mem_map.mp hw
  have hk := List.mem_range.mp hk
  match k, hk with
  | 0, _ => exact (bw w_1_218 rfl)
  | 1, _ => exact (bw w_1_219 rfl)
  | 2, _ => exact (bw w_1_220 rfl)
  | 3, _ => exact (bw w_1_221 rfl)
  | 4, _ => exact (bw w_1_222 rfl)
  | 5, _ => exact (bw w_1_223 rfl)
  | k + 6, h => exact absurd h (by omega)
theorem xIn_8 : ∀ w ∈ u_ws RX7 TX7 5, w ∈ BW := by
  intro w hw
  obtain ⟨k, hk, rfl⟩ := List.mem_map.mp hw
  have hk := List.mem_range.mp hk
  match k, hk with
  | 0, _ => exact (bw w_0_50 rfl)
  | 1, _ => exact (bw w_0_52 rfl)
  | 2, _ => exact (bw w_0_54 rfl)
  | 3, _ => exact (bw w_0_56 rfl)
  | 4, _ => exact (bw w_0_58 rfl)
  | k + 5, h => exact absurd h (by omega)
theorem xIn_9 : ∀ w ∈ u_ws RX8 TX8 6, w ∈ BW := by
  intro w hw
  obtain ⟨k, hk, rfl⟩ := List.mem_map.mp hw
  have hk := List.mem_range.mp hk
  match k, hk with
  | 0, _ => exact (bw w_1_179 rfl)
  | 1, _ => exact (bw w_1_180 rfl)
  | 2, _ => exact (bw w_1_181 rfl)
  | 3, _ => exact (bw w_1_182 rfl)
  | 4, _ => exact (bw w_1_183 rfl)
  | 5, _ => exact (bw w_1_184 rfl)
  | k + 6, h => exact absurd h (by omega)
theorem xIn_10 : ∀ w ∈ u_ws RX9 TX9 6, w ∈ BW := by
  intro w hw
  obtain ⟨k, hk, rfl⟩ := List.mem_map.mp hw
  have hk := List.mem_range.mp hk
  match k, hk with
  | 0, _ => exact (bw w_1_231 rfl)
  | 1, _ => exact (bw w_1_232 rfl)
  | 2, _ => exact (bw w_1_233 rfl)
  | 3, _ => exact (bw w_1_234 rfl)
  | 4, _ => exact (bw w_1_235 rfl)
  | 5, _ => exact (bw w_1_236 rfl)
  | k + 6, h => exact absurd h (by omega)
theorem xIn_11 : ∀ w ∈ u_ws RX10 TX10 17, w ∈ BW := by
  intro w hw
  obtain ⟨k, hk, rfl⟩ := List.mem_map.mp hw
  have hk := List.mem_range.mp hk
  match k, hk with
  | 0, _ => exact (bw w_0_129 rfl)
  | 1, _ => exact (bw w_0_131 rfl)
  | 2, _ => exact (bw w_0_133 rfl)
  | 3, _ => exact (bw w_0_135 rfl)
  | 4, _ => exact (bw w_0_137 rfl)
  | 5, _ => exact (bw w_0_139 rfl)
  | 6, _ => exact (bw w_0_141 rfl)
  | 7, _ => exact (bw w_0_143 rfl)
  | 8, _ => exact (bw w_0_145 rfl)
  | 9, _ => exact (bw w_0_147 rfl)
  | 10, _ => exact (bw w_0_149 rfl)
  | 11, _ => exact (bw w_0_151 rfl)
  | 12, _ => exact (bw w_0_153 rfl)
  | 13, _ => exact (bw w_0_155 rfl)
  | 14, _ => exact (bw w_0_157 rfl)
  | 15, _ => exact (bw w_0_159 rfl)
  | 16, _ => exact (bw w_0_161 rfl)
  | k + 17, h => exact absurd h (by omega)
theorem xIn_12 : ∀ w ∈ u_ws RX11 TX11 24, w ∈ BW := by
  intro w hw
  obtain ⟨k, hk, rfl⟩ := List.mem_map.mp hw
  have hk := List.mem_range.mp hk
  match k, hk with
  | 0, _ => exact (bw w_4_106 rfl)
  | 1, _ => exact (bw w_4_108 rfl)
  | 2, _ => exact (bw w_4_110 rfl)
  | 3, _ => exact (bw w_4_112 rfl)
  | 4, _ => exact (bw w_4_114 rfl)
  | 5, _ => exact (bw w_4_116 rfl)
  | 6, _ => exact (bw w_4_118 rfl)
  | 7, _ => exact (bw w_4_120 rfl)
  | 8, _ => exact (bw w_4_122 rfl)
  | 9, _ => exact (bw w_4_124 rfl)
  | 10, _ => exact (bw w_4_126 rfl)
  | 11, _ => exact (bw w_4_128 rfl)
  | 12, _ => exact (bw w_4_130 rfl)
  | 13, _ => exact (bw w_4_132 rfl)
  | 14, _ => exact (bw w_4_134 rfl)
  | 15, _ => exact (bw w_4_136 rfl)
  | 16, _ => exact (bw w_4_138 rfl)
  | 17, _ => exact (bw w_4_140 rfl)
  | 18, _ => exact (bw w_4_142 rfl)
  | 19, _ => exact (bw w_4_144 rfl)
  | 20, _ => exact (bw w_4_146 rfl)
  | 21, _ => exact (bw w_4_148 rfl)
  | 22, _ => exact (bw w_4_150 rfl)
  | 23, _ => exact (bw w_4_152 rfl)
  | k + 24, h => exact absurd h (by omega)
/-- a field's kind, and its type -/
def xTyOk (t : Nat) (ty : FieldType) : Prop := (t = 0 ∧ ty = .int) ∨ (t = 1 ∧ ((∃ n, ty = .object n) ∨ ∃ e, ty = .array e)) ∨ (t = 3 ∧ ty = .boolean)
/-- what is known of class ci -/
def xClOk (ci : Nat) (C : String) (T : u_T) (N : Nat) (ty : Nat → FieldType) : Prop := vwCl[ci]? = some (C, T, N) ∧ N = (mFt ci).length ∧ (∀ w ∈ u_ws C T N, w ∈ BW) ∧ (∀ k, k < N → parseFieldDescriptor (T k).2.2.1 = some (ty k)) ∧ (∀ a, a < N → ∀ b, b < N → a ≠ b → (T a).2.1 ≠ (T b).2.1) ∧ ∀ k, k < N → xTyOk ((mFt ci).getD k 0) (ty k)
theorem xCl_0 : xClOk 0 RJx4a65c TJx4a65c 3 tyJx4a65c := ⟨rfl, rfl, xIn_0, tyJx4a65c_ok, nmJx4a65c, fun k hk => match k, hk with
  | 0, _ => Or.inl ⟨rfl, rfl⟩
  | 1, _ => Or.inr (Or.inl ⟨rfl, Or.inr ⟨_, rfl⟩⟩)
  | 2, _ => Or.inl ⟨rfl, rfl⟩
  | k + 3, h => absurd h (by omega)⟩
theorem xCl_1 : xClOk 1 RX0 TX0 6 tyX0 := ⟨rfl, rfl, xIn_1, tyX0_ok, nmX0, fun k hk => match k, hk with
  | 0, _ => Or.inl ⟨rfl, rfl⟩
  | 1, _ => Or.inl ⟨rfl, rfl⟩
  | 2, _ => Or.inr (Or.inl ⟨rfl, Or.inl ⟨_, rfl⟩⟩)
  | 3, _ => Or.inr (Or.inl ⟨rfl, Or.inl ⟨_, rfl⟩⟩)
  | 4, _ => Or.inr (Or.inl ⟨rfl, Or.inl ⟨_, rfl⟩⟩)
  | 5, _ => Or.inr (Or.inl ⟨rfl, Or.inl ⟨_, rfl⟩⟩)
  | k + 6, h => absurd h (by omega)⟩
theorem xCl_2 : xClOk 2 RX1 TX1 5 tyX1 := ⟨rfl, rfl, xIn_2, tyX1_ok, nmX1, fun k hk => match k, hk with
  | 0, _ => Or.inr (Or.inl ⟨rfl, Or.inl ⟨_, rfl⟩⟩)
  | 1, _ => Or.inr (Or.inl ⟨rfl, Or.inl ⟨_, rfl⟩⟩)
  | 2, _ => Or.inr (Or.inl ⟨rfl, Or.inl ⟨_, rfl⟩⟩)
  | 3, _ => Or.inl ⟨rfl, rfl⟩
  | 4, _ => Or.inl ⟨rfl, rfl⟩
  | k + 5, h => absurd h (by omega)⟩
theorem xCl_3 : xClOk 3 RX2 TX2 6 tyX2 := ⟨rfl, rfl, xIn_3, tyX2_ok, nmX2, fun k hk => match k, hk with
  | 0, _ => Or.inl ⟨rfl, rfl⟩
  | 1, _ => Or.inl ⟨rfl, rfl⟩
  | 2, _ => Or.inr (Or.inl ⟨rfl, Or.inl ⟨_, rfl⟩⟩)
  | 3, _ => Or.inr (Or.inl ⟨rfl, Or.inl ⟨_, rfl⟩⟩)
  | 4, _ => Or.inr (Or.inl ⟨rfl, Or.inl ⟨_, rfl⟩⟩)
  | 5, _ => Or.inr (Or.inl ⟨rfl, Or.inl ⟨_, rfl⟩⟩)
  | k + 6, h => absurd h (by omega)⟩
theorem xCl_4 : xClOk 4 RX3 TX3 6 tyX3 := ⟨rfl, rfl, xIn_4, tyX3_ok, nmX3, fun k hk => match k, hk with
  | 0, _ => Or.inl ⟨rfl, rfl⟩
  | 1, _ => Or.inl ⟨rfl, rfl⟩
  | 2, _ => Or.inr (Or.inl ⟨rfl, Or.inl ⟨_, rfl⟩⟩)
  | 3, _ => Or.inr (Or.inl ⟨rfl, Or.inl ⟨_, rfl⟩⟩)
  | 4, _ => Or.inr (Or.inl ⟨rfl, Or.inl ⟨_, rfl⟩⟩)
  | 5, _ => Or.inr (Or.inl ⟨rfl, Or.inl ⟨_, rfl⟩⟩)
  | k + 6, h => absurd h (by omega)⟩
theorem xCl_5 : xClOk 5 RX4 TX4 6 tyX4 := ⟨rfl, rfl, xIn_5, tyX4_ok, nmX4, fun k hk => match k, hk with
  | 0, _ => Or.inl ⟨rfl, rfl⟩
  | 1, _ => Or.inl ⟨rfl, rfl⟩
  | 2, _ => Or.inr (Or.inl ⟨rfl, Or.inl ⟨_, rfl⟩⟩)
  | 3, _ => Or.inr (Or.inl ⟨rfl, Or.inl ⟨_, rfl⟩⟩)
  | 4, _ => Or.inr (Or.inl ⟨rfl, Or.inl ⟨_, rfl⟩⟩)
  | 5, _ => Or.inr (Or.inl ⟨rfl, Or.inl ⟨_, rfl⟩⟩)
  | k + 6, h => absurd h (by omega)⟩
theorem xCl_6 : xClOk 6 RX5 TX5 6 tyX5 := ⟨rfl, rfl, xIn_6, tyX5_ok, nmX5, fun k hk => match k, hk with
  | 0, _ => Or.inr (Or.inl ⟨rfl, Or.inr ⟨_, rfl⟩⟩)
  | 1, _ => Or.inl ⟨rfl, rfl⟩
  | 2, _ => Or.inl ⟨rfl, rfl⟩
  | 3, _ => Or.inl ⟨rfl, rfl⟩
  | 4, _ => Or.inl ⟨rfl, rfl⟩
  | 5, _ => Or.inr (Or.inr ⟨rfl, rfl⟩)
  | k + 6, h => absurd h (by omega)⟩
theorem xCl_7 : xClOk 7 RX6 TX6 6 tyX6 := ⟨rfl, rfl, xIn_7, tyX6_ok, nmX6, fun k hk => match k, hk with
  | 0, _ => Or.inl ⟨rfl, rfl⟩
  | 1, _ => Or.inl ⟨rfl, rfl⟩
  | 2, _ => Or.inr (Or.inl ⟨rfl, Or.inl ⟨_, rfl⟩⟩)
  | 3, _ => Or.inr (Or.inl ⟨rfl, Or.inl ⟨_, rfl⟩⟩)
  | 4, _ => Or.inr (Or.inl ⟨rfl, Or.inl ⟨_, rfl⟩⟩)
  | 5, _ => Or.inr (Or.inl ⟨rfl, Or.inl ⟨_, rfl⟩⟩)
  | k + 6, h => absurd h (by omega)⟩
theorem xCl_8 : xClOk 8 RX7 TX7 5 tyX7 := ⟨rfl, rfl, xIn_8, tyX7_ok, nmX7, fun k hk => match k, hk with
  | 0, _ => Or.inl ⟨rfl, rfl⟩
  | 1, _ => Or.inr (Or.inl ⟨rfl, Or.inr ⟨_, rfl⟩⟩)
  | 2, _ => Or.inr (Or.inl ⟨rfl, Or.inr ⟨_, rfl⟩⟩)
  | 3, _ => Or.inl ⟨rfl, rfl⟩
  | 4, _ => Or.inl ⟨rfl, rfl⟩
  | k + 5, h => absurd h (by omega)⟩
theorem xCl_9 : xClOk 9 RX8 TX8 6 tyX8 := ⟨rfl, rfl, xIn_9, tyX8_ok, nmX8, fun k hk => match k, hk with
  | 0, _ => Or.inl ⟨rfl, rfl⟩
  | 1, _ => Or.inl ⟨rfl, rfl⟩
  | 2, _ => Or.inr (Or.inl ⟨rfl, Or.inl ⟨_, rfl⟩⟩)
  | 3, _ => Or.inr (Or.inl ⟨rfl, Or.inl ⟨_, rfl⟩⟩)
  | 4, _ => Or.inr (Or.inl ⟨rfl, Or.inl ⟨_, rfl⟩⟩)
  | 5, _ => Or.inr (Or.inl ⟨rfl, Or.inl ⟨_, rfl⟩⟩)
  | k + 6, h => absurd h (by omega)⟩
theorem xCl_10 : xClOk 10 RX9 TX9 6 tyX9 := ⟨rfl, rfl, xIn_10, tyX9_ok, nmX9, fun k hk => match k, hk with
  | 0, _ => Or.inl ⟨rfl, rfl⟩
  | 1, _ => Or.inl ⟨rfl, rfl⟩
  | 2, _ => Or.inr (Or.inl ⟨rfl, Or.inl ⟨_, rfl⟩⟩)
  | 3, _ => Or.inr (Or.inl ⟨rfl, Or.inl ⟨_, rfl⟩⟩)
  | 4, _ => Or.inr (Or.inl ⟨rfl, Or.inl ⟨_, rfl⟩⟩)
  | 5, _ => Or.inr (Or.inl ⟨rfl, Or.inl ⟨_, rfl⟩⟩)
  | k + 6, h => absurd h (by omega)⟩
theorem xCl_11 : xClOk 11 RX10 TX10 17 tyX10 := ⟨rfl, rfl, xIn_11, tyX10_ok, nmX10, fun k hk => match k, hk with
  | 0, _ => Or.inr (Or.inl ⟨rfl, Or.inl ⟨_, rfl⟩⟩)
  | 1, _ => Or.inr (Or.inl ⟨rfl, Or.inl ⟨_, rfl⟩⟩)
  | 2, _ => Or.inr (Or.inl ⟨rfl, Or.inl ⟨_, rfl⟩⟩)
  | 3, _ => Or.inr (Or.inl ⟨rfl, Or.inl ⟨_, rfl⟩⟩)
  | 4, _ => Or.inr (Or.inl ⟨rfl, Or.inl ⟨_, rfl⟩⟩)
  | 5, _ => Or.inr (Or.inl ⟨rfl, Or.inl ⟨_, rfl⟩⟩)
  | 6, _ => Or.inr (Or.inl ⟨rfl, Or.inl ⟨_, rfl⟩⟩)
  | 7, _ => Or.inr (Or.inl ⟨rfl, Or.inl ⟨_, rfl⟩⟩)
  | 8, _ => Or.inr (Or.inl ⟨rfl, Or.inl ⟨_, rfl⟩⟩)
  | 9, _ => Or.inr (Or.inl ⟨rfl, Or.inl ⟨_, rfl⟩⟩)
  | 10, _ => Or.inr (Or.inl ⟨rfl, Or.inl ⟨_, rfl⟩⟩)
  | 11, _ => Or.inr (Or.inl ⟨rfl, Or.inl ⟨_, rfl⟩⟩)
  | 12, _ => Or.inl ⟨rfl, rfl⟩
  | 13, _ => Or.inl ⟨rfl, rfl⟩
  | 14, _ => Or.inl ⟨rfl, rfl⟩
  | 15, _ => Or.inl ⟨rfl, rfl⟩
  | 16, _ => Or.inl ⟨rfl, rfl⟩
  | k + 17, h => absurd h (by omega)⟩
theorem xCl_12 : xClOk 12 RX11 TX11 24 tyX11 := ⟨rfl, rfl, xIn_12, tyX11_ok, nmX11, fun k hk => match k, hk with
  | 0, _ => Or.inl ⟨rfl, rfl⟩
  | 1, _ => Or.inr (Or.inl ⟨rfl, Or.inr ⟨_, rfl⟩⟩)
  | 2, _ => Or.inr (Or.inl ⟨rfl, Or.inr ⟨_, rfl⟩⟩)
  | 3, _ => Or.inr (Or.inl ⟨rfl, Or.inr ⟨_, rfl⟩⟩)
  | 4, _ => Or.inr (Or.inr ⟨rfl, rfl⟩)
  | 5, _ => Or.inl ⟨rfl, rfl⟩
  | 6, _ => Or.inl ⟨rfl, rfl⟩
  | 7, _ => Or.inl ⟨rfl, rfl⟩
  | 8, _ => Or.inr (Or.inr ⟨rfl, rfl⟩)
  | 9, _ => Or.inl ⟨rfl, rfl⟩
  | 10, _ => Or.inr (Or.inl ⟨rfl, Or.inr ⟨_, rfl⟩⟩)
  | 11, _ => Or.inr (Or.inl ⟨rfl, Or.inr ⟨_, rfl⟩⟩)
  | 12, _ => Or.inr (Or.inl ⟨rfl, Or.inr ⟨_, rfl⟩⟩)
  | 13, _ => Or.inr (Or.inl ⟨rfl, Or.inr ⟨_, rfl⟩⟩)
  | 14, _ => Or.inr (Or.inl ⟨rfl, Or.inr ⟨_, rfl⟩⟩)
  | 15, _ => Or.inl ⟨rfl, rfl⟩
  | 16, _ => Or.inr (Or.inl ⟨rfl, Or.inr ⟨_, rfl⟩⟩)
  | 17, _ => Or.inr (Or.inl ⟨rfl, Or.inr ⟨_, rfl⟩⟩)
  | 18, _ => Or.inl ⟨rfl, rfl⟩
  | 19, _ => Or.inr (Or.inl ⟨rfl, Or.inr ⟨_, rfl⟩⟩)
  | 20, _ => Or.inl ⟨rfl, rfl⟩
  | 21, _ => Or.inl ⟨rfl, rfl⟩
  | 22, _ => Or.inl ⟨rfl, rfl⟩
  | 23, _ => Or.inl ⟨rfl, rfl⟩
  | k + 24, h => absurd h (by omega)⟩
theorem xCls (ci : Nat) (h : ci < 13) : ∃ C T N ty, xClOk ci C T N ty := by
  match ci, h with
  | 0, _ => exact ⟨_, _, _, _, xCl_0⟩
  | 1, _ => exact ⟨_, _, _, _, xCl_1⟩
  | 2, _ => exact ⟨_, _, _, _, xCl_2⟩
  | 3, _ => exact ⟨_, _, _, _, xCl_3⟩
  | 4, _ => exact ⟨_, _, _, _, xCl_4⟩
  | 5, _ => exact ⟨_, _, _, _, xCl_5⟩
  | 6, _ => exact ⟨_, _, _, _, xCl_6⟩
  | 7, _ => exact ⟨_, _, _, _, xCl_7⟩
  | 8, _ => exact ⟨_, _, _, _, xCl_8⟩
  | 9, _ => exact ⟨_, _, _, _, xCl_9⟩
  | 10, _ => exact ⟨_, _, _, _, xCl_10⟩
  | 11, _ => exact ⟨_, _, _, _, xCl_11⟩
  | 12, _ => exact ⟨_, _, _, _, xCl_12⟩
  | k + 13, h => exact absurd h (by omega)
theorem xSub_1 {c : Nat} (h : mIsa c 1 = true) : c = 1 ∨ c = 3 ∨ c = 4 ∨ c = 5 ∨ c = 7 ∨ c = 9 ∨ c = 10 := by simp [mIsa] at h; omega
theorem xSub_3 {c : Nat} (h : mIsa c 3 = true) : c = 3 ∨ c = 10 := by simp [mIsa] at h; omega
theorem xSub_5 {c : Nat} (h : mIsa c 5 = true) : c = 5 ∨ c = 4 := by simp [mIsa] at h; omega
theorem xSub_9 {c : Nat} (h : mIsa c 9 = true) : c = 9 ∨ c = 7 := by simp [mIsa] at h; omega
theorem xSub_o {c b : Nat} (h : mIsa c b = true) (h1 : b ≠ 1) (h3 : b ≠ 3) (h5 : b ≠ 5) (h9 : b ≠ 9) : c = b := by simp [mIsa, h1, h3, h5, h9] at h; exact h
/-- field (own, idx) is place k of class b and of those under it -/
def FlOk (own idx k b : Nat) : Prop := ∀ ci, mIsa ci b = true → ∃ C T N, vwCl[ci]? = some (C, T, N) ∧ k < N ∧ ∃ ref, Cond.fieldLink (xCn own) idx ref (T k).2.1 (T k).2.2.1 ∈ BW ∧ ((T k).1 = ref ∨ Cond.sameField ref (T k).1 (T k).2.1 (T k).2.2.1 ∈ BW)
def FpOk (own idx k b : Nat) (ini : Bool) : Prop := ∀ ci, mIsa ci b = true → ∃ C T N, vwCl[ci]? = some (C, T, N) ∧ k < N ∧ ((T k).2.2.2 = false ∨ (ini = true ∧ (T k).2.2.2 = true ∧ (T k).1 = xCn own))
theorem fl_0_9 : FlOk 0 9 1 0 := fun ci h => by
  obtain rfl := xSub_o h (by decide) (by decide) (by decide) (by decide)
  exact ⟨_, _, _, rfl, by decide, "java/util/ArrayList", (bw w_0_100 rfl), Or.inl rfl⟩
theorem fl_0_48 : FlOk 0 48 2 0 := fun ci h => by
  obtain rfl := xSub_o h (by decide) (by decide) (by decide) (by decide)
  exact ⟨_, _, _, rfl, by decide, "java/util/ArrayList", (bw w_0_101 rfl), Or.inl rfl⟩
theorem fl_0_63 : FlOk 0 63 0 0 := fun ci h => by
  obtain rfl := xSub_o h (by decide) (by decide) (by decide) (by decide)
  exact ⟨_, _, _, rfl, by decide, "java/util/ArrayList", (bw w_0_103 rfl), Or.inr (bw w_0_104 rfl)⟩
theorem fl_1_10 : FlOk 1 10 3 1 := fun ci h => by
  rcases xSub_1 h with rfl | rfl | rfl | rfl | rfl | rfl | rfl
  · exact ⟨_, _, _, rfl, by decide, "LaidQuarrel$Bottle", (bw w_1_153 rfl), Or.inl rfl⟩
  · exact ⟨_, _, _, rfl, by decide, "LaidQuarrel$Bottle", (bw w_1_153 rfl), Or.inl rfl⟩
  · exact ⟨_, _, _, rfl, by decide, "LaidQuarrel$Bottle", (bw w_1_153 rfl), Or.inl rfl⟩
  · exact ⟨_, _, _, rfl, by decide, "LaidQuarrel$Bottle", (bw w_1_153 rfl), Or.inl rfl⟩
  · exact ⟨_, _, _, rfl, by decide, "LaidQuarrel$Bottle", (bw w_1_153 rfl), Or.inl rfl⟩
  · exact ⟨_, _, _, rfl, by decide, "LaidQuarrel$Bottle", (bw w_1_153 rfl), Or.inl rfl⟩
  · exact ⟨_, _, _, rfl, by decide, "LaidQuarrel$Bottle", (bw w_1_153 rfl), Or.inl rfl⟩
theorem fl_1_16 : FlOk 1 16 4 1 := fun ci h => by
  rcases xSub_1 h with rfl | rfl | rfl | rfl | rfl | rfl | rfl
  · exact ⟨_, _, _, rfl, by decide, "LaidQuarrel$Bottle", (bw w_1_157 rfl), Or.inl rfl⟩
  · exact ⟨_, _, _, rfl, by decide, "LaidQuarrel$Bottle", (bw w_1_157 rfl), Or.inl rfl⟩
  · exact ⟨_, _, _, rfl, by decide, "LaidQuarrel$Bottle", (bw w_1_157 rfl), Or.inl rfl⟩
  · exact ⟨_, _, _, rfl, by decide, "LaidQuarrel$Bottle", (bw w_1_157 rfl), Or.inl rfl⟩
  · exact ⟨_, _, _, rfl, by decide, "LaidQuarrel$Bottle", (bw w_1_157 rfl), Or.inl rfl⟩
  · exact ⟨_, _, _, rfl, by decide, "LaidQuarrel$Bottle", (bw w_1_157 rfl), Or.inl rfl⟩
  · exact ⟨_, _, _, rfl, by decide, "LaidQuarrel$Bottle", (bw w_1_157 rfl), Or.inl rfl⟩
theorem fl_1_19 : FlOk 1 19 5 1 := fun ci h => by
  rcases xSub_1 h with rfl | rfl | rfl | rfl | rfl | rfl | rfl
  · exact ⟨_, _, _, rfl, by decide, "LaidQuarrel$Bottle", (bw w_1_158 rfl), Or.inl rfl⟩
  · exact ⟨_, _, _, rfl, by decide, "LaidQuarrel$Bottle", (bw w_1_158 rfl), Or.inl rfl⟩
  · exact ⟨_, _, _, rfl, by decide, "LaidQuarrel$Bottle", (bw w_1_158 rfl), Or.inl rfl⟩
  · exact ⟨_, _, _, rfl, by decide, "LaidQuarrel$Bottle", (bw w_1_158 rfl), Or.inl rfl⟩
  · exact ⟨_, _, _, rfl, by decide, "LaidQuarrel$Bottle", (bw w_1_158 rfl), Or.inl rfl⟩
  · exact ⟨_, _, _, rfl, by decide, "LaidQuarrel$Bottle", (bw w_1_158 rfl), Or.inl rfl⟩
  · exact ⟨_, _, _, rfl, by decide, "LaidQuarrel$Bottle", (bw w_1_158 rfl), Or.inl rfl⟩
theorem fl_1_22 : FlOk 1 22 0 1 := fun ci h => by
  rcases xSub_1 h with rfl | rfl | rfl | rfl | rfl | rfl | rfl
  · exact ⟨_, _, _, rfl, by decide, "LaidQuarrel$Bottle", (bw w_1_132 rfl), Or.inl rfl⟩
  · exact ⟨_, _, _, rfl, by decide, "LaidQuarrel$Bottle", (bw w_1_132 rfl), Or.inl rfl⟩
  · exact ⟨_, _, _, rfl, by decide, "LaidQuarrel$Bottle", (bw w_1_132 rfl), Or.inl rfl⟩
  · exact ⟨_, _, _, rfl, by decide, "LaidQuarrel$Bottle", (bw w_1_132 rfl), Or.inl rfl⟩
  · exact ⟨_, _, _, rfl, by decide, "LaidQuarrel$Bottle", (bw w_1_132 rfl), Or.inl rfl⟩
  · exact ⟨_, _, _, rfl, by decide, "LaidQuarrel$Bottle", (bw w_1_132 rfl), Or.inl rfl⟩
  · exact ⟨_, _, _, rfl, by decide, "LaidQuarrel$Bottle", (bw w_1_132 rfl), Or.inl rfl⟩
theorem fl_1_26 : FlOk 1 26 1 1 := fun ci h => by
  rcases xSub_1 h with rfl | rfl | rfl | rfl | rfl | rfl | rfl
  · exact ⟨_, _, _, rfl, by decide, "LaidQuarrel$Bottle", (bw w_1_135 rfl), Or.inl rfl⟩
  · exact ⟨_, _, _, rfl, by decide, "LaidQuarrel$Bottle", (bw w_1_135 rfl), Or.inl rfl⟩
  · exact ⟨_, _, _, rfl, by decide, "LaidQuarrel$Bottle", (bw w_1_135 rfl), Or.inl rfl⟩
  · exact ⟨_, _, _, rfl, by decide, "LaidQuarrel$Bottle", (bw w_1_135 rfl), Or.inl rfl⟩
  · exact ⟨_, _, _, rfl, by decide, "LaidQuarrel$Bottle", (bw w_1_135 rfl), Or.inl rfl⟩
  · exact ⟨_, _, _, rfl, by decide, "LaidQuarrel$Bottle", (bw w_1_135 rfl), Or.inl rfl⟩
  · exact ⟨_, _, _, rfl, by decide, "LaidQuarrel$Bottle", (bw w_1_135 rfl), Or.inl rfl⟩
theorem fl_1_29 : FlOk 1 29 2 1 := fun ci h => by
  rcases xSub_1 h with rfl | rfl | rfl | rfl | rfl | rfl | rfl
  · exact ⟨_, _, _, rfl, by decide, "LaidQuarrel$Bottle", (bw w_1_140 rfl), Or.inl rfl⟩
  · exact ⟨_, _, _, rfl, by decide, "LaidQuarrel$Bottle", (bw w_1_140 rfl), Or.inl rfl⟩
  · exact ⟨_, _, _, rfl, by decide, "LaidQuarrel$Bottle", (bw w_1_140 rfl), Or.inl rfl⟩
  · exact ⟨_, _, _, rfl, by decide, "LaidQuarrel$Bottle", (bw w_1_140 rfl), Or.inl rfl⟩
  · exact ⟨_, _, _, rfl, by decide, "LaidQuarrel$Bottle", (bw w_1_140 rfl), Or.inl rfl⟩
  · exact ⟨_, _, _, rfl, by decide, "LaidQuarrel$Bottle", (bw w_1_140 rfl), Or.inl rfl⟩
  · exact ⟨_, _, _, rfl, by decide, "LaidQuarrel$Bottle", (bw w_1_140 rfl), Or.inl rfl⟩
theorem fl_1_41 : FlOk 1 41 2 6 := fun ci h => by
  obtain rfl := xSub_o h (by decide) (by decide) (by decide) (by decide)
  exact ⟨_, _, _, rfl, by decide, "LaidQuarrel$Laid", (bw w_1_106 rfl), Or.inl rfl⟩
theorem fl_1_60 : FlOk 1 60 1 6 := fun ci h => by
  obtain rfl := xSub_o h (by decide) (by decide) (by decide) (by decide)
  exact ⟨_, _, _, rfl, by decide, "LaidQuarrel$Laid", (bw w_1_99 rfl), Or.inl rfl⟩
theorem fl_2_14 : FlOk 2 14 1 2 := fun ci h => by
  obtain rfl := xSub_o h (by decide) (by decide) (by decide) (by decide)
  exact ⟨_, _, _, rfl, by decide, "LaidQuarrel$Cellar", (bw w_0_71 rfl), Or.inl rfl⟩
theorem fl_2_20 : FlOk 2 20 2 2 := fun ci h => by
  obtain rfl := xSub_o h (by decide) (by decide) (by decide) (by decide)
  exact ⟨_, _, _, rfl, by decide, "LaidQuarrel$Cellar", (bw w_0_72 rfl), Or.inl rfl⟩
theorem fl_2_23 : FlOk 2 23 0 2 := fun ci h => by
  obtain rfl := xSub_o h (by decide) (by decide) (by decide) (by decide)
  exact ⟨_, _, _, rfl, by decide, "LaidQuarrel$Cellar", (bw w_0_70 rfl), Or.inl rfl⟩
theorem fl_2_40 : FlOk 2 40 3 8 := fun ci h => by
  obtain rfl := xSub_o h (by decide) (by decide) (by decide) (by decide)
  exact ⟨_, _, _, rfl, by decide, "LaidQuarrel$Shelf", (bw w_0_48 rfl), Or.inl rfl⟩
theorem fl_2_51 : FlOk 2 51 3 6 := fun ci h => by
  obtain rfl := xSub_o h (by decide) (by decide) (by decide) (by decide)
  exact ⟨_, _, _, rfl, by decide, "LaidQuarrel$Laid", (bw w_1_112 rfl), Or.inl rfl⟩
theorem fl_2_69 : FlOk 2 69 1 1 := fun ci h => by
  rcases xSub_1 h with rfl | rfl | rfl | rfl | rfl | rfl | rfl
  · exact ⟨_, _, _, rfl, by decide, "LaidQuarrel$Bottle", (bw w_1_139 rfl), Or.inl rfl⟩
  · exact ⟨_, _, _, rfl, by decide, "LaidQuarrel$Bottle", (bw w_1_139 rfl), Or.inl rfl⟩
  · exact ⟨_, _, _, rfl, by decide, "LaidQuarrel$Bottle", (bw w_1_139 rfl), Or.inl rfl⟩
  · exact ⟨_, _, _, rfl, by decide, "LaidQuarrel$Bottle", (bw w_1_139 rfl), Or.inl rfl⟩
  · exact ⟨_, _, _, rfl, by decide, "LaidQuarrel$Bottle", (bw w_1_139 rfl), Or.inl rfl⟩
  · exact ⟨_, _, _, rfl, by decide, "LaidQuarrel$Bottle", (bw w_1_139 rfl), Or.inl rfl⟩
  · exact ⟨_, _, _, rfl, by decide, "LaidQuarrel$Bottle", (bw w_1_139 rfl), Or.inl rfl⟩
theorem fl_2_74 : FlOk 2 74 0 1 := fun ci h => by
  rcases xSub_1 h with rfl | rfl | rfl | rfl | rfl | rfl | rfl
  · exact ⟨_, _, _, rfl, by decide, "LaidQuarrel$Bottle", (bw w_1_134 rfl), Or.inl rfl⟩
  · exact ⟨_, _, _, rfl, by decide, "LaidQuarrel$Bottle", (bw w_1_134 rfl), Or.inl rfl⟩
  · exact ⟨_, _, _, rfl, by decide, "LaidQuarrel$Bottle", (bw w_1_134 rfl), Or.inl rfl⟩
  · exact ⟨_, _, _, rfl, by decide, "LaidQuarrel$Bottle", (bw w_1_134 rfl), Or.inl rfl⟩
  · exact ⟨_, _, _, rfl, by decide, "LaidQuarrel$Bottle", (bw w_1_134 rfl), Or.inl rfl⟩
  · exact ⟨_, _, _, rfl, by decide, "LaidQuarrel$Bottle", (bw w_1_134 rfl), Or.inl rfl⟩
  · exact ⟨_, _, _, rfl, by decide, "LaidQuarrel$Bottle", (bw w_1_134 rfl), Or.inl rfl⟩
theorem fl_2_77 : FlOk 2 77 1 6 := fun ci h => by
  obtain rfl := xSub_o h (by decide) (by decide) (by decide) (by decide)
  exact ⟨_, _, _, rfl, by decide, "LaidQuarrel$Laid", (bw w_1_100 rfl), Or.inl rfl⟩
theorem fl_2_80 : FlOk 2 80 4 6 := fun ci h => by
  obtain rfl := xSub_o h (by decide) (by decide) (by decide) (by decide)
  exact ⟨_, _, _, rfl, by decide, "LaidQuarrel$Laid", (bw w_1_116 rfl), Or.inl rfl⟩
theorem fl_2_83 : FlOk 2 83 2 6 := fun ci h => by
  obtain rfl := xSub_o h (by decide) (by decide) (by decide) (by decide)
  exact ⟨_, _, _, rfl, by decide, "LaidQuarrel$Laid", (bw w_1_107 rfl), Or.inl rfl⟩
theorem fl_2_93 : FlOk 2 93 3 2 := fun ci h => by
  obtain rfl := xSub_o h (by decide) (by decide) (by decide) (by decide)
  exact ⟨_, _, _, rfl, by decide, "LaidQuarrel$Cellar", (bw w_0_73 rfl), Or.inl rfl⟩
theorem fl_2_113 : FlOk 2 113 4 2 := fun ci h => by
  obtain rfl := xSub_o h (by decide) (by decide) (by decide) (by decide)
  exact ⟨_, _, _, rfl, by decide, "LaidQuarrel$Cellar", (bw w_0_74 rfl), Or.inl rfl⟩
theorem fl_3_11 : FlOk 3 11 4 6 := fun ci h => by
  obtain rfl := xSub_o h (by decide) (by decide) (by decide) (by decide)
  exact ⟨_, _, _, rfl, by decide, "LaidQuarrel$Laid", (bw w_1_113 rfl), Or.inl rfl⟩
theorem fl_3_17 : FlOk 3 17 2 3 := fun ci h => by
  rcases xSub_3 h with rfl | rfl
  · exact ⟨_, _, _, rfl, by decide, "LaidQuarrel$Corked", (bw w_1_149 rfl), Or.inr (bw w_1_150 rfl)⟩
  · exact ⟨_, _, _, rfl, by decide, "LaidQuarrel$Corked", (bw w_1_149 rfl), Or.inr (bw w_1_150 rfl)⟩
theorem fl_4_11 : FlOk 4 11 3 6 := fun ci h => by
  obtain rfl := xSub_o h (by decide) (by decide) (by decide) (by decide)
  exact ⟨_, _, _, rfl, by decide, "LaidQuarrel$Laid", (bw w_1_108 rfl), Or.inl rfl⟩
theorem fl_4_17 : FlOk 4 17 1 6 := fun ci h => by
  obtain rfl := xSub_o h (by decide) (by decide) (by decide) (by decide)
  exact ⟨_, _, _, rfl, by decide, "LaidQuarrel$Laid", (bw w_1_95 rfl), Or.inl rfl⟩
theorem fl_4_20 : FlOk 4 20 2 4 := fun ci h => by
  obtain rfl := xSub_o h (by decide) (by decide) (by decide) (by decide)
  exact ⟨_, _, _, rfl, by decide, "LaidQuarrel$Feud", (bw w_1_151 rfl), Or.inr (bw w_1_152 rfl)⟩
theorem fl_5_7 : FlOk 5 7 2 6 := fun ci h => by
  obtain rfl := xSub_o h (by decide) (by decide) (by decide) (by decide)
  exact ⟨_, _, _, rfl, by decide, "LaidQuarrel$Laid", (bw w_1_101 rfl), Or.inl rfl⟩
theorem fl_5_19 : FlOk 5 19 2 5 := fun ci h => by
  rcases xSub_5 h with rfl | rfl
  · exact ⟨_, _, _, rfl, by decide, "LaidQuarrel$Hard", (bw w_1_141 rfl), Or.inr (bw w_1_142 rfl)⟩
  · exact ⟨_, _, _, rfl, by decide, "LaidQuarrel$Hard", (bw w_1_141 rfl), Or.inr (bw w_1_142 rfl)⟩
theorem fl_6_9 : FlOk 6 9 0 6 := fun ci h => by
  obtain rfl := xSub_o h (by decide) (by decide) (by decide) (by decide)
  exact ⟨_, _, _, rfl, by decide, "LaidQuarrel$Laid", (bw w_1_93 rfl), Or.inl rfl⟩
theorem fl_6_15 : FlOk 6 15 1 6 := fun ci h => by
  obtain rfl := xSub_o h (by decide) (by decide) (by decide) (by decide)
  exact ⟨_, _, _, rfl, by decide, "LaidQuarrel$Laid", (bw w_1_94 rfl), Or.inl rfl⟩
theorem fl_6_19 : FlOk 6 19 2 6 := fun ci h => by
  obtain rfl := xSub_o h (by decide) (by decide) (by decide) (by decide)
  exact ⟨_, _, _, rfl, by decide, "LaidQuarrel$Laid", (bw w_1_104 rfl), Or.inl rfl⟩
theorem fl_6_22 : FlOk 6 22 3 6 := fun ci h => by
  obtain rfl := xSub_o h (by decide) (by decide) (by decide) (by decide)
  exact ⟨_, _, _, rfl, by decide, "LaidQuarrel$Laid", (bw w_1_110 rfl), Or.inl rfl⟩
theorem fl_6_25 : FlOk 6 25 4 6 := fun ci h => by
  obtain rfl := xSub_o h (by decide) (by decide) (by decide) (by decide)
  exact ⟨_, _, _, rfl, by decide, "LaidQuarrel$Laid", (bw w_1_114 rfl), Or.inl rfl⟩
theorem fl_6_28 : FlOk 6 28 5 6 := fun ci h => by
  obtain rfl := xSub_o h (by decide) (by decide) (by decide) (by decide)
  exact ⟨_, _, _, rfl, by decide, "LaidQuarrel$Laid", (bw w_1_117 rfl), Or.inl rfl⟩
theorem fl_7_11 : FlOk 7 11 2 6 := fun ci h => by
  obtain rfl := xSub_o h (by decide) (by decide) (by decide) (by decide)
  exact ⟨_, _, _, rfl, by decide, "LaidQuarrel$Laid", (bw w_1_103 rfl), Or.inl rfl⟩
theorem fl_7_17 : FlOk 7 17 3 6 := fun ci h => by
  obtain rfl := xSub_o h (by decide) (by decide) (by decide) (by decide)
  exact ⟨_, _, _, rfl, by decide, "LaidQuarrel$Laid", (bw w_1_109 rfl), Or.inl rfl⟩
theorem fl_7_20 : FlOk 7 20 1 6 := fun ci h => by
  obtain rfl := xSub_o h (by decide) (by decide) (by decide) (by decide)
  exact ⟨_, _, _, rfl, by decide, "LaidQuarrel$Laid", (bw w_1_96 rfl), Or.inl rfl⟩
theorem fl_7_23 : FlOk 7 23 2 7 := fun ci h => by
  obtain rfl := xSub_o h (by decide) (by decide) (by decide) (by decide)
  exact ⟨_, _, _, rfl, by decide, "LaidQuarrel$Love", (bw w_1_143 rfl), Or.inr (bw w_1_144 rfl)⟩
theorem fl_7_39 : FlOk 7 39 1 7 := fun ci h => by
  obtain rfl := xSub_o h (by decide) (by decide) (by decide) (by decide)
  exact ⟨_, _, _, rfl, by decide, "LaidQuarrel$Love", (bw w_1_136 rfl), Or.inr (bw w_1_137 rfl)⟩
theorem fl_8_7 : FlOk 8 7 0 8 := fun ci h => by
  obtain rfl := xSub_o h (by decide) (by decide) (by decide) (by decide)
  exact ⟨_, _, _, rfl, by decide, "LaidQuarrel$Shelf", (bw w_0_43 rfl), Or.inl rfl⟩
theorem fl_8_19 : FlOk 8 19 1 8 := fun ci h => by
  obtain rfl := xSub_o h (by decide) (by decide) (by decide) (by decide)
  exact ⟨_, _, _, rfl, by decide, "LaidQuarrel$Shelf", (bw w_0_44 rfl), Or.inl rfl⟩
theorem fl_8_23 : FlOk 8 23 2 8 := fun ci h => by
  obtain rfl := xSub_o h (by decide) (by decide) (by decide) (by decide)
  exact ⟨_, _, _, rfl, by decide, "LaidQuarrel$Shelf", (bw w_0_45 rfl), Or.inl rfl⟩
theorem fl_8_26 : FlOk 8 26 3 8 := fun ci h => by
  obtain rfl := xSub_o h (by decide) (by decide) (by decide) (by decide)
  exact ⟨_, _, _, rfl, by decide, "LaidQuarrel$Shelf", (bw w_0_46 rfl), Or.inl rfl⟩
theorem fl_8_33 : FlOk 8 33 4 8 := fun ci h => by
  obtain rfl := xSub_o h (by decide) (by decide) (by decide) (by decide)
  exact ⟨_, _, _, rfl, by decide, "LaidQuarrel$Shelf", (bw w_0_49 rfl), Or.inl rfl⟩
theorem fl_9_7 : FlOk 9 7 2 6 := fun ci h => by
  obtain rfl := xSub_o h (by decide) (by decide) (by decide) (by decide)
  exact ⟨_, _, _, rfl, by decide, "LaidQuarrel$Laid", (bw w_1_102 rfl), Or.inl rfl⟩
theorem fl_9_19 : FlOk 9 19 2 9 := fun ci h => by
  rcases xSub_9 h with rfl | rfl
  · exact ⟨_, _, _, rfl, by decide, "LaidQuarrel$Sweet", (bw w_1_145 rfl), Or.inr (bw w_1_146 rfl)⟩
  · exact ⟨_, _, _, rfl, by decide, "LaidQuarrel$Sweet", (bw w_1_145 rfl), Or.inr (bw w_1_146 rfl)⟩
theorem fl_10_17 : FlOk 10 17 2 10 := fun ci h => by
  obtain rfl := xSub_o h (by decide) (by decide) (by decide) (by decide)
  exact ⟨_, _, _, rfl, by decide, "LaidQuarrel$Told", (bw w_1_147 rfl), Or.inr (bw w_1_148 rfl)⟩
theorem fl_10_33 : FlOk 10 33 3 10 := fun ci h => by
  obtain rfl := xSub_o h (by decide) (by decide) (by decide) (by decide)
  exact ⟨_, _, _, rfl, by decide, "LaidQuarrel$Told", (bw w_1_154 rfl), Or.inr (bw w_1_155 rfl)⟩
theorem fl_10_37 : FlOk 10 37 1 6 := fun ci h => by
  obtain rfl := xSub_o h (by decide) (by decide) (by decide) (by decide)
  exact ⟨_, _, _, rfl, by decide, "LaidQuarrel$Laid", (bw w_1_97 rfl), Or.inl rfl⟩
theorem fl_11_16 : FlOk 11 16 0 11 := fun ci h => by
  obtain rfl := xSub_o h (by decide) (by decide) (by decide) (by decide)
  exact ⟨_, _, _, rfl, by decide, "LaidQuarrel", (bw w_0_112 rfl), Or.inl rfl⟩
theorem fl_11_20 : FlOk 11 20 1 11 := fun ci h => by
  obtain rfl := xSub_o h (by decide) (by decide) (by decide) (by decide)
  exact ⟨_, _, _, rfl, by decide, "LaidQuarrel", (bw w_0_113 rfl), Or.inl rfl⟩
theorem fl_11_23 : FlOk 11 23 2 11 := fun ci h => by
  obtain rfl := xSub_o h (by decide) (by decide) (by decide) (by decide)
  exact ⟨_, _, _, rfl, by decide, "LaidQuarrel", (bw w_0_114 rfl), Or.inl rfl⟩
theorem fl_11_26 : FlOk 11 26 3 11 := fun ci h => by
  obtain rfl := xSub_o h (by decide) (by decide) (by decide) (by decide)
  exact ⟨_, _, _, rfl, by decide, "LaidQuarrel", (bw w_0_115 rfl), Or.inl rfl⟩
theorem fl_11_29 : FlOk 11 29 4 11 := fun ci h => by
  obtain rfl := xSub_o h (by decide) (by decide) (by decide) (by decide)
  exact ⟨_, _, _, rfl, by decide, "LaidQuarrel", (bw w_0_116 rfl), Or.inl rfl⟩
theorem fl_11_32 : FlOk 11 32 5 11 := fun ci h => by
  obtain rfl := xSub_o h (by decide) (by decide) (by decide) (by decide)
  exact ⟨_, _, _, rfl, by decide, "LaidQuarrel", (bw w_0_117 rfl), Or.inl rfl⟩
theorem fl_11_35 : FlOk 11 35 6 11 := fun ci h => by
  obtain rfl := xSub_o h (by decide) (by decide) (by decide) (by decide)
  exact ⟨_, _, _, rfl, by decide, "LaidQuarrel", (bw w_0_118 rfl), Or.inl rfl⟩
theorem fl_11_38 : FlOk 11 38 7 11 := fun ci h => by
  obtain rfl := xSub_o h (by decide) (by decide) (by decide) (by decide)
  exact ⟨_, _, _, rfl, by decide, "LaidQuarrel", (bw w_0_119 rfl), Or.inl rfl⟩
theorem fl_11_41 : FlOk 11 41 8 11 := fun ci h => by
  obtain rfl := xSub_o h (by decide) (by decide) (by decide) (by decide)
  exact ⟨_, _, _, rfl, by decide, "LaidQuarrel", (bw w_0_120 rfl), Or.inl rfl⟩
theorem fl_11_49 : FlOk 11 49 9 11 := fun ci h => by
  obtain rfl := xSub_o h (by decide) (by decide) (by decide) (by decide)
  exact ⟨_, _, _, rfl, by decide, "LaidQuarrel", (bw w_0_121 rfl), Or.inl rfl⟩
theorem fl_11_53 : FlOk 11 53 10 11 := fun ci h => by
  obtain rfl := xSub_o h (by decide) (by decide) (by decide) (by decide)
  exact ⟨_, _, _, rfl, by decide, "LaidQuarrel", (bw w_0_122 rfl), Or.inl rfl⟩
theorem fl_11_59 : FlOk 11 59 11 11 := fun ci h => by
  obtain rfl := xSub_o h (by decide) (by decide) (by decide) (by decide)
  exact ⟨_, _, _, rfl, by decide, "LaidQuarrel", (bw w_0_123 rfl), Or.inl rfl⟩
theorem fl_11_63 : FlOk 11 63 14 11 := fun ci h => by
  obtain rfl := xSub_o h (by decide) (by decide) (by decide) (by decide)
  exact ⟨_, _, _, rfl, by decide, "LaidQuarrel", (bw w_0_126 rfl), Or.inl rfl⟩
theorem fl_11_75 : FlOk 11 75 12 11 := fun ci h => by
  obtain rfl := xSub_o h (by decide) (by decide) (by decide) (by decide)
  exact ⟨_, _, _, rfl, by decide, "LaidQuarrel", (bw w_0_124 rfl), Or.inl rfl⟩
theorem fl_11_98 : FlOk 11 98 3 1 := fun ci h => by
  rcases xSub_1 h with rfl | rfl | rfl | rfl | rfl | rfl | rfl
  · exact ⟨_, _, _, rfl, by decide, "LaidQuarrel$Bottle", (bw w_1_156 rfl), Or.inl rfl⟩
  · exact ⟨_, _, _, rfl, by decide, "LaidQuarrel$Bottle", (bw w_1_156 rfl), Or.inl rfl⟩
  · exact ⟨_, _, _, rfl, by decide, "LaidQuarrel$Bottle", (bw w_1_156 rfl), Or.inl rfl⟩
  · exact ⟨_, _, _, rfl, by decide, "LaidQuarrel$Bottle", (bw w_1_156 rfl), Or.inl rfl⟩
  · exact ⟨_, _, _, rfl, by decide, "LaidQuarrel$Bottle", (bw w_1_156 rfl), Or.inl rfl⟩
  · exact ⟨_, _, _, rfl, by decide, "LaidQuarrel$Bottle", (bw w_1_156 rfl), Or.inl rfl⟩
  · exact ⟨_, _, _, rfl, by decide, "LaidQuarrel$Bottle", (bw w_1_156 rfl), Or.inl rfl⟩
theorem fl_11_104 : FlOk 11 104 1 6 := fun ci h => by
  obtain rfl := xSub_o h (by decide) (by decide) (by decide) (by decide)
  exact ⟨_, _, _, rfl, by decide, "LaidQuarrel$Laid", (bw w_1_98 rfl), Or.inl rfl⟩
theorem fl_11_109 : FlOk 11 109 2 6 := fun ci h => by
  obtain rfl := xSub_o h (by decide) (by decide) (by decide) (by decide)
  exact ⟨_, _, _, rfl, by decide, "LaidQuarrel$Laid", (bw w_1_105 rfl), Or.inl rfl⟩
theorem fl_11_116 : FlOk 11 116 1 1 := fun ci h => by
  rcases xSub_1 h with rfl | rfl | rfl | rfl | rfl | rfl | rfl
  · exact ⟨_, _, _, rfl, by decide, "LaidQuarrel$Bottle", (bw w_1_138 rfl), Or.inl rfl⟩
  · exact ⟨_, _, _, rfl, by decide, "LaidQuarrel$Bottle", (bw w_1_138 rfl), Or.inl rfl⟩
  · exact ⟨_, _, _, rfl, by decide, "LaidQuarrel$Bottle", (bw w_1_138 rfl), Or.inl rfl⟩
  · exact ⟨_, _, _, rfl, by decide, "LaidQuarrel$Bottle", (bw w_1_138 rfl), Or.inl rfl⟩
  · exact ⟨_, _, _, rfl, by decide, "LaidQuarrel$Bottle", (bw w_1_138 rfl), Or.inl rfl⟩
  · exact ⟨_, _, _, rfl, by decide, "LaidQuarrel$Bottle", (bw w_1_138 rfl), Or.inl rfl⟩
  · exact ⟨_, _, _, rfl, by decide, "LaidQuarrel$Bottle", (bw w_1_138 rfl), Or.inl rfl⟩
theorem fl_11_121 : FlOk 11 121 3 8 := fun ci h => by
  obtain rfl := xSub_o h (by decide) (by decide) (by decide) (by decide)
  exact ⟨_, _, _, rfl, by decide, "LaidQuarrel$Shelf", (bw w_0_47 rfl), Or.inl rfl⟩
theorem fl_11_127 : FlOk 11 127 0 1 := fun ci h => by
  rcases xSub_1 h with rfl | rfl | rfl | rfl | rfl | rfl | rfl
  · exact ⟨_, _, _, rfl, by decide, "LaidQuarrel$Bottle", (bw w_1_133 rfl), Or.inl rfl⟩
  · exact ⟨_, _, _, rfl, by decide, "LaidQuarrel$Bottle", (bw w_1_133 rfl), Or.inl rfl⟩
  · exact ⟨_, _, _, rfl, by decide, "LaidQuarrel$Bottle", (bw w_1_133 rfl), Or.inl rfl⟩
  · exact ⟨_, _, _, rfl, by decide, "LaidQuarrel$Bottle", (bw w_1_133 rfl), Or.inl rfl⟩
  · exact ⟨_, _, _, rfl, by decide, "LaidQuarrel$Bottle", (bw w_1_133 rfl), Or.inl rfl⟩
  · exact ⟨_, _, _, rfl, by decide, "LaidQuarrel$Bottle", (bw w_1_133 rfl), Or.inl rfl⟩
  · exact ⟨_, _, _, rfl, by decide, "LaidQuarrel$Bottle", (bw w_1_133 rfl), Or.inl rfl⟩
theorem fl_11_130 : FlOk 11 130 3 6 := fun ci h => by
  obtain rfl := xSub_o h (by decide) (by decide) (by decide) (by decide)
  exact ⟨_, _, _, rfl, by decide, "LaidQuarrel$Laid", (bw w_1_111 rfl), Or.inl rfl⟩
theorem fl_11_133 : FlOk 11 133 4 6 := fun ci h => by
  obtain rfl := xSub_o h (by decide) (by decide) (by decide) (by decide)
  exact ⟨_, _, _, rfl, by decide, "LaidQuarrel$Laid", (bw w_1_115 rfl), Or.inl rfl⟩
theorem fl_11_136 : FlOk 11 136 5 6 := fun ci h => by
  obtain rfl := xSub_o h (by decide) (by decide) (by decide) (by decide)
  exact ⟨_, _, _, rfl, by decide, "LaidQuarrel$Laid", (bw w_1_118 rfl), Or.inl rfl⟩
theorem fl_11_158 : FlOk 11 158 13 11 := fun ci h => by
  obtain rfl := xSub_o h (by decide) (by decide) (by decide) (by decide)
  exact ⟨_, _, _, rfl, by decide, "LaidQuarrel", (bw w_0_125 rfl), Or.inl rfl⟩
theorem fl_11_272 : FlOk 11 272 15 11 := fun ci h => by
  obtain rfl := xSub_o h (by decide) (by decide) (by decide) (by decide)
  exact ⟨_, _, _, rfl, by decide, "LaidQuarrel", (bw w_0_127 rfl), Or.inl rfl⟩
theorem fl_11_275 : FlOk 11 275 16 11 := fun ci h => by
  obtain rfl := xSub_o h (by decide) (by decide) (by decide) (by decide)
  exact ⟨_, _, _, rfl, by decide, "LaidQuarrel", (bw w_0_128 rfl), Or.inl rfl⟩
theorem fl_11_332 : FlOk 11 332 5 1 := fun ci h => by
  rcases xSub_1 h with rfl | rfl | rfl | rfl | rfl | rfl | rfl
  · exact ⟨_, _, _, rfl, by decide, "LaidQuarrel$Bottle", (bw w_1_159 rfl), Or.inl rfl⟩
  · exact ⟨_, _, _, rfl, by decide, "LaidQuarrel$Bottle", (bw w_1_159 rfl), Or.inl rfl⟩
  · exact ⟨_, _, _, rfl, by decide, "LaidQuarrel$Bottle", (bw w_1_159 rfl), Or.inl rfl⟩
  · exact ⟨_, _, _, rfl, by decide, "LaidQuarrel$Bottle", (bw w_1_159 rfl), Or.inl rfl⟩
  · exact ⟨_, _, _, rfl, by decide, "LaidQuarrel$Bottle", (bw w_1_159 rfl), Or.inl rfl⟩
  · exact ⟨_, _, _, rfl, by decide, "LaidQuarrel$Bottle", (bw w_1_159 rfl), Or.inl rfl⟩
  · exact ⟨_, _, _, rfl, by decide, "LaidQuarrel$Bottle", (bw w_1_159 rfl), Or.inl rfl⟩
theorem fl_12_9 : FlOk 12 9 1 12 := fun ci h => by
  obtain rfl := xSub_o h (by decide) (by decide) (by decide) (by decide)
  exact ⟨_, _, _, rfl, by decide, "LaidQuarrelModel", (bw w_4_83 rfl), Or.inl rfl⟩
theorem fl_12_15 : FlOk 12 15 2 12 := fun ci h => by
  obtain rfl := xSub_o h (by decide) (by decide) (by decide) (by decide)
  exact ⟨_, _, _, rfl, by decide, "LaidQuarrelModel", (bw w_4_84 rfl), Or.inl rfl⟩
theorem fl_12_18 : FlOk 12 18 3 12 := fun ci h => by
  obtain rfl := xSub_o h (by decide) (by decide) (by decide) (by decide)
  exact ⟨_, _, _, rfl, by decide, "LaidQuarrelModel", (bw w_4_85 rfl), Or.inl rfl⟩
theorem fl_12_21 : FlOk 12 21 10 12 := fun ci h => by
  obtain rfl := xSub_o h (by decide) (by decide) (by decide) (by decide)
  exact ⟨_, _, _, rfl, by decide, "LaidQuarrelModel", (bw w_4_92 rfl), Or.inl rfl⟩
theorem fl_12_24 : FlOk 12 24 11 12 := fun ci h => by
  obtain rfl := xSub_o h (by decide) (by decide) (by decide) (by decide)
  exact ⟨_, _, _, rfl, by decide, "LaidQuarrelModel", (bw w_4_93 rfl), Or.inl rfl⟩
theorem fl_12_28 : FlOk 12 28 12 12 := fun ci h => by
  obtain rfl := xSub_o h (by decide) (by decide) (by decide) (by decide)
  exact ⟨_, _, _, rfl, by decide, "LaidQuarrelModel", (bw w_4_94 rfl), Or.inl rfl⟩
theorem fl_12_31 : FlOk 12 31 13 12 := fun ci h => by
  obtain rfl := xSub_o h (by decide) (by decide) (by decide) (by decide)
  exact ⟨_, _, _, rfl, by decide, "LaidQuarrelModel", (bw w_4_95 rfl), Or.inl rfl⟩
theorem fl_12_34 : FlOk 12 34 14 12 := fun ci h => by
  obtain rfl := xSub_o h (by decide) (by decide) (by decide) (by decide)
  exact ⟨_, _, _, rfl, by decide, "LaidQuarrelModel", (bw w_4_96 rfl), Or.inl rfl⟩
theorem fl_12_37 : FlOk 12 37 16 12 := fun ci h => by
  obtain rfl := xSub_o h (by decide) (by decide) (by decide) (by decide)
  exact ⟨_, _, _, rfl, by decide, "LaidQuarrelModel", (bw w_4_98 rfl), Or.inl rfl⟩
theorem fl_12_40 : FlOk 12 40 17 12 := fun ci h => by
  obtain rfl := xSub_o h (by decide) (by decide) (by decide) (by decide)
  exact ⟨_, _, _, rfl, by decide, "LaidQuarrelModel", (bw w_4_99 rfl), Or.inl rfl⟩
theorem fl_12_43 : FlOk 12 43 19 12 := fun ci h => by
  obtain rfl := xSub_o h (by decide) (by decide) (by decide) (by decide)
  exact ⟨_, _, _, rfl, by decide, "LaidQuarrelModel", (bw w_4_101 rfl), Or.inl rfl⟩
theorem fl_12_58 : FlOk 12 58 6 12 := fun ci h => by
  obtain rfl := xSub_o h (by decide) (by decide) (by decide) (by decide)
  exact ⟨_, _, _, rfl, by decide, "LaidQuarrelModel", (bw w_4_88 rfl), Or.inl rfl⟩
theorem fl_12_61 : FlOk 12 61 7 12 := fun ci h => by
  obtain rfl := xSub_o h (by decide) (by decide) (by decide) (by decide)
  exact ⟨_, _, _, rfl, by decide, "LaidQuarrelModel", (bw w_4_89 rfl), Or.inl rfl⟩
theorem fl_12_64 : FlOk 12 64 8 12 := fun ci h => by
  obtain rfl := xSub_o h (by decide) (by decide) (by decide) (by decide)
  exact ⟨_, _, _, rfl, by decide, "LaidQuarrelModel", (bw w_4_90 rfl), Or.inl rfl⟩
theorem fl_12_85 : FlOk 12 85 5 12 := fun ci h => by
  obtain rfl := xSub_o h (by decide) (by decide) (by decide) (by decide)
  exact ⟨_, _, _, rfl, by decide, "LaidQuarrelModel", (bw w_4_87 rfl), Or.inl rfl⟩
theorem fl_12_88 : FlOk 12 88 9 12 := fun ci h => by
  obtain rfl := xSub_o h (by decide) (by decide) (by decide) (by decide)
  exact ⟨_, _, _, rfl, by decide, "LaidQuarrelModel", (bw w_4_91 rfl), Or.inl rfl⟩
theorem fl_12_207 : FlOk 12 207 15 12 := fun ci h => by
  obtain rfl := xSub_o h (by decide) (by decide) (by decide) (by decide)
  exact ⟨_, _, _, rfl, by decide, "LaidQuarrelModel", (bw w_4_97 rfl), Or.inl rfl⟩
theorem fl_12_214 : FlOk 12 214 18 12 := fun ci h => by
  obtain rfl := xSub_o h (by decide) (by decide) (by decide) (by decide)
  exact ⟨_, _, _, rfl, by decide, "LaidQuarrelModel", (bw w_4_100 rfl), Or.inl rfl⟩
theorem fl_12_239 : FlOk 12 239 20 12 := fun ci h => by
  obtain rfl := xSub_o h (by decide) (by decide) (by decide) (by decide)
  exact ⟨_, _, _, rfl, by decide, "LaidQuarrelModel", (bw w_4_102 rfl), Or.inl rfl⟩
theorem fl_12_245 : FlOk 12 245 22 12 := fun ci h => by
  obtain rfl := xSub_o h (by decide) (by decide) (by decide) (by decide)
  exact ⟨_, _, _, rfl, by decide, "LaidQuarrelModel", (bw w_4_104 rfl), Or.inl rfl⟩
theorem fl_12_248 : FlOk 12 248 21 12 := fun ci h => by
  obtain rfl := xSub_o h (by decide) (by decide) (by decide) (by decide)
  exact ⟨_, _, _, rfl, by decide, "LaidQuarrelModel", (bw w_4_103 rfl), Or.inl rfl⟩
theorem fl_12_261 : FlOk 12 261 23 12 := fun ci h => by
  obtain rfl := xSub_o h (by decide) (by decide) (by decide) (by decide)
  exact ⟨_, _, _, rfl, by decide, "LaidQuarrelModel", (bw w_4_105 rfl), Or.inl rfl⟩
theorem fl_12_276 : FlOk 12 276 4 12 := fun ci h => by
  obtain rfl := xSub_o h (by decide) (by decide) (by decide) (by decide)
  exact ⟨_, _, _, rfl, by decide, "LaidQuarrelModel", (bw w_4_86 rfl), Or.inl rfl⟩
theorem fl_17_7 : FlOk 17 7 0 0 := fun ci h => by
  obtain rfl := xSub_o h (by decide) (by decide) (by decide) (by decide)
  exact ⟨_, _, _, rfl, by decide, "java/util/AbstractList", (bw w_0_102 rfl), Or.inl rfl⟩
theorem fp0_0_9 : FpOk 0 9 1 0 false := fun ci h => by
  obtain rfl := xSub_o h (by decide) (by decide) (by decide) (by decide)
  exact ⟨_, _, _, rfl, by decide, Or.inl rfl⟩
theorem fp0_0_48 : FpOk 0 48 2 0 false := fun ci h => by
  obtain rfl := xSub_o h (by decide) (by decide) (by decide) (by decide)
  exact ⟨_, _, _, rfl, by decide, Or.inl rfl⟩
theorem fp0_0_63 : FpOk 0 63 0 0 false := fun ci h => by
  obtain rfl := xSub_o h (by decide) (by decide) (by decide) (by decide)
  exact ⟨_, _, _, rfl, by decide, Or.inl rfl⟩
theorem fp0_2_93 : FpOk 2 93 3 2 false := fun ci h => by
  obtain rfl := xSub_o h (by decide) (by decide) (by decide) (by decide)
  exact ⟨_, _, _, rfl, by decide, Or.inl rfl⟩
theorem fp0_2_113 : FpOk 2 113 4 2 false := fun ci h => by
  obtain rfl := xSub_o h (by decide) (by decide) (by decide) (by decide)
  exact ⟨_, _, _, rfl, by decide, Or.inl rfl⟩
theorem fp0_6_15 : FpOk 6 15 1 6 false := fun ci h => by
  obtain rfl := xSub_o h (by decide) (by decide) (by decide) (by decide)
  exact ⟨_, _, _, rfl, by decide, Or.inl rfl⟩
theorem fp0_6_19 : FpOk 6 19 2 6 false := fun ci h => by
  obtain rfl := xSub_o h (by decide) (by decide) (by decide) (by decide)
  exact ⟨_, _, _, rfl, by decide, Or.inl rfl⟩
theorem fp0_6_22 : FpOk 6 22 3 6 false := fun ci h => by
  obtain rfl := xSub_o h (by decide) (by decide) (by decide) (by decide)
  exact ⟨_, _, _, rfl, by decide, Or.inl rfl⟩
theorem fp0_6_25 : FpOk 6 25 4 6 false := fun ci h => by
  obtain rfl := xSub_o h (by decide) (by decide) (by decide) (by decide)
  exact ⟨_, _, _, rfl, by decide, Or.inl rfl⟩
theorem fp0_6_28 : FpOk 6 28 5 6 false := fun ci h => by
  obtain rfl := xSub_o h (by decide) (by decide) (by decide) (by decide)
  exact ⟨_, _, _, rfl, by decide, Or.inl rfl⟩
theorem fp0_8_26 : FpOk 8 26 3 8 false := fun ci h => by
  obtain rfl := xSub_o h (by decide) (by decide) (by decide) (by decide)
  exact ⟨_, _, _, rfl, by decide, Or.inl rfl⟩
theorem fp0_8_33 : FpOk 8 33 4 8 false := fun ci h => by
  obtain rfl := xSub_o h (by decide) (by decide) (by decide) (by decide)
  exact ⟨_, _, _, rfl, by decide, Or.inl rfl⟩
theorem fp0_11_63 : FpOk 11 63 14 11 false := fun ci h => by
  obtain rfl := xSub_o h (by decide) (by decide) (by decide) (by decide)
  exact ⟨_, _, _, rfl, by decide, Or.inl rfl⟩
theorem fp0_11_75 : FpOk 11 75 12 11 false := fun ci h => by
  obtain rfl := xSub_o h (by decide) (by decide) (by decide) (by decide)
  exact ⟨_, _, _, rfl, by decide, Or.inl rfl⟩
theorem fp0_11_104 : FpOk 11 104 1 6 false := fun ci h => by
  obtain rfl := xSub_o h (by decide) (by decide) (by decide) (by decide)
  exact ⟨_, _, _, rfl, by decide, Or.inl rfl⟩
theorem fp0_11_109 : FpOk 11 109 2 6 false := fun ci h => by
  obtain rfl := xSub_o h (by decide) (by decide) (by decide) (by decide)
  exact ⟨_, _, _, rfl, by decide, Or.inl rfl⟩
theorem fp0_11_130 : FpOk 11 130 3 6 false := fun ci h => by
  obtain rfl := xSub_o h (by decide) (by decide) (by decide) (by decide)
  exact ⟨_, _, _, rfl, by decide, Or.inl rfl⟩
theorem fp0_11_133 : FpOk 11 133 4 6 false := fun ci h => by
  obtain rfl := xSub_o h (by decide) (by decide) (by decide) (by decide)
  exact ⟨_, _, _, rfl, by decide, Or.inl rfl⟩
theorem fp0_11_136 : FpOk 11 136 5 6 false := fun ci h => by
  obtain rfl := xSub_o h (by decide) (by decide) (by decide) (by decide)
  exact ⟨_, _, _, rfl, by decide, Or.inl rfl⟩
theorem fp0_11_158 : FpOk 11 158 13 11 false := fun ci h => by
  obtain rfl := xSub_o h (by decide) (by decide) (by decide) (by decide)
  exact ⟨_, _, _, rfl, by decide, Or.inl rfl⟩
theorem fp0_11_272 : FpOk 11 272 15 11 false := fun ci h => by
  obtain rfl := xSub_o h (by decide) (by decide) (by decide) (by decide)
  exact ⟨_, _, _, rfl, by decide, Or.inl rfl⟩
theorem fp0_11_275 : FpOk 11 275 16 11 false := fun ci h => by
  obtain rfl := xSub_o h (by decide) (by decide) (by decide) (by decide)
  exact ⟨_, _, _, rfl, by decide, Or.inl rfl⟩
theorem fp0_12_58 : FpOk 12 58 6 12 false := fun ci h => by
  obtain rfl := xSub_o h (by decide) (by decide) (by decide) (by decide)
  exact ⟨_, _, _, rfl, by decide, Or.inl rfl⟩
theorem fp0_12_61 : FpOk 12 61 7 12 false := fun ci h => by
  obtain rfl := xSub_o h (by decide) (by decide) (by decide) (by decide)
  exact ⟨_, _, _, rfl, by decide, Or.inl rfl⟩
theorem fp0_12_64 : FpOk 12 64 8 12 false := fun ci h => by
  obtain rfl := xSub_o h (by decide) (by decide) (by decide) (by decide)
  exact ⟨_, _, _, rfl, by decide, Or.inl rfl⟩
theorem fp0_12_85 : FpOk 12 85 5 12 false := fun ci h => by
  obtain rfl := xSub_o h (by decide) (by decide) (by decide) (by decide)
  exact ⟨_, _, _, rfl, by decide, Or.inl rfl⟩
theorem fp0_12_88 : FpOk 12 88 9 12 false := fun ci h => by
  obtain rfl := xSub_o h (by decide) (by decide) (by decide) (by decide)
  exact ⟨_, _, _, rfl, by decide, Or.inl rfl⟩
theorem fp0_12_207 : FpOk 12 207 15 12 false := fun ci h => by
  obtain rfl := xSub_o h (by decide) (by decide) (by decide) (by decide)
  exact ⟨_, _, _, rfl, by decide, Or.inl rfl⟩
theorem fp0_12_214 : FpOk 12 214 18 12 false := fun ci h => by
  obtain rfl := xSub_o h (by decide) (by decide) (by decide) (by decide)
  exact ⟨_, _, _, rfl, by decide, Or.inl rfl⟩
theorem fp0_12_239 : FpOk 12 239 20 12 false := fun ci h => by
  obtain rfl := xSub_o h (by decide) (by decide) (by decide) (by decide)
  exact ⟨_, _, _, rfl, by decide, Or.inl rfl⟩
theorem fp0_12_245 : FpOk 12 245 22 12 false := fun ci h => by
  obtain rfl := xSub_o h (by decide) (by decide) (by decide) (by decide)
  exact ⟨_, _, _, rfl, by decide, Or.inl rfl⟩
theorem fp0_12_248 : FpOk 12 248 21 12 false := fun ci h => by
  obtain rfl := xSub_o h (by decide) (by decide) (by decide) (by decide)
  exact ⟨_, _, _, rfl, by decide, Or.inl rfl⟩
theorem fp0_12_261 : FpOk 12 261 23 12 false := fun ci h => by
  obtain rfl := xSub_o h (by decide) (by decide) (by decide) (by decide)
  exact ⟨_, _, _, rfl, by decide, Or.inl rfl⟩
theorem fp0_12_276 : FpOk 12 276 4 12 false := fun ci h => by
  obtain rfl := xSub_o h (by decide) (by decide) (by decide) (by decide)
  exact ⟨_, _, _, rfl, by decide, Or.inl rfl⟩
theorem fp1_0_9 : FpOk 0 9 1 0 true := fun ci h => by
  obtain rfl := xSub_o h (by decide) (by decide) (by decide) (by decide)
  exact ⟨_, _, _, rfl, by decide, Or.inl rfl⟩
theorem fp1_1_10 : FpOk 1 10 3 1 true := fun ci h => by
  rcases xSub_1 h with rfl | rfl | rfl | rfl | rfl | rfl | rfl
  · exact ⟨_, _, _, rfl, by decide, Or.inr ⟨rfl, rfl, rfl⟩⟩
  · exact ⟨_, _, _, rfl, by decide, Or.inr ⟨rfl, rfl, rfl⟩⟩
  · exact ⟨_, _, _, rfl, by decide, Or.inr ⟨rfl, rfl, rfl⟩⟩
  · exact ⟨_, _, _, rfl, by decide, Or.inr ⟨rfl, rfl, rfl⟩⟩
  · exact ⟨_, _, _, rfl, by decide, Or.inr ⟨rfl, rfl, rfl⟩⟩
  · exact ⟨_, _, _, rfl, by decide, Or.inr ⟨rfl, rfl, rfl⟩⟩
  · exact ⟨_, _, _, rfl, by decide, Or.inr ⟨rfl, rfl, rfl⟩⟩
theorem fp1_1_16 : FpOk 1 16 4 1 true := fun ci h => by
  rcases xSub_1 h with rfl | rfl | rfl | rfl | rfl | rfl | rfl
  · exact ⟨_, _, _, rfl, by decide, Or.inr ⟨rfl, rfl, rfl⟩⟩
  · exact ⟨_, _, _, rfl, by decide, Or.inr ⟨rfl, rfl, rfl⟩⟩
  · exact ⟨_, _, _, rfl, by decide, Or.inr ⟨rfl, rfl, rfl⟩⟩
  · exact ⟨_, _, _, rfl, by decide, Or.inr ⟨rfl, rfl, rfl⟩⟩
  · exact ⟨_, _, _, rfl, by decide, Or.inr ⟨rfl, rfl, rfl⟩⟩
  · exact ⟨_, _, _, rfl, by decide, Or.inr ⟨rfl, rfl, rfl⟩⟩
  · exact ⟨_, _, _, rfl, by decide, Or.inr ⟨rfl, rfl, rfl⟩⟩
theorem fp1_1_19 : FpOk 1 19 5 1 true := fun ci h => by
  rcases xSub_1 h with rfl | rfl | rfl | rfl | rfl | rfl | rfl
  · exact ⟨_, _, _, rfl, by decide, Or.inr ⟨rfl, rfl, rfl⟩⟩
  · exact ⟨_, _, _, rfl, by decide, Or.inr ⟨rfl, rfl, rfl⟩⟩
  · exact ⟨_, _, _, rfl, by decide, Or.inr ⟨rfl, rfl, rfl⟩⟩
  · exact ⟨_, _, _, rfl, by decide, Or.inr ⟨rfl, rfl, rfl⟩⟩
  · exact ⟨_, _, _, rfl, by decide, Or.inr ⟨rfl, rfl, rfl⟩⟩
  · exact ⟨_, _, _, rfl, by decide, Or.inr ⟨rfl, rfl, rfl⟩⟩
  · exact ⟨_, _, _, rfl, by decide, Or.inr ⟨rfl, rfl, rfl⟩⟩
theorem fp1_1_22 : FpOk 1 22 0 1 true := fun ci h => by
  rcases xSub_1 h with rfl | rfl | rfl | rfl | rfl | rfl | rfl
  · exact ⟨_, _, _, rfl, by decide, Or.inr ⟨rfl, rfl, rfl⟩⟩
  · exact ⟨_, _, _, rfl, by decide, Or.inr ⟨rfl, rfl, rfl⟩⟩
  · exact ⟨_, _, _, rfl, by decide, Or.inr ⟨rfl, rfl, rfl⟩⟩
  · exact ⟨_, _, _, rfl, by decide, Or.inr ⟨rfl, rfl, rfl⟩⟩
  · exact ⟨_, _, _, rfl, by decide, Or.inr ⟨rfl, rfl, rfl⟩⟩
  · exact ⟨_, _, _, rfl, by decide, Or.inr ⟨rfl, rfl, rfl⟩⟩
  · exact ⟨_, _, _, rfl, by decide, Or.inr ⟨rfl, rfl, rfl⟩⟩
theorem fp1_1_26 : FpOk 1 26 1 1 true := fun ci h => by
  rcases xSub_1 h with rfl | rfl | rfl | rfl | rfl | rfl | rfl
  · exact ⟨_, _, _, rfl, by decide, Or.inr ⟨rfl, rfl, rfl⟩⟩
  · exact ⟨_, _, _, rfl, by decide, Or.inr ⟨rfl, rfl, rfl⟩⟩
  · exact ⟨_, _, _, rfl, by decide, Or.inr ⟨rfl, rfl, rfl⟩⟩
  · exact ⟨_, _, _, rfl, by decide, Or.inr ⟨rfl, rfl, rfl⟩⟩
  · exact ⟨_, _, _, rfl, by decide, Or.inr ⟨rfl, rfl, rfl⟩⟩
  · exact ⟨_, _, _, rfl, by decide, Or.inr ⟨rfl, rfl, rfl⟩⟩
  · exact ⟨_, _, _, rfl, by decide, Or.inr ⟨rfl, rfl, rfl⟩⟩
theorem fp1_1_29 : FpOk 1 29 2 1 true := fun ci h => by
  rcases xSub_1 h with rfl | rfl | rfl | rfl | rfl | rfl | rfl
  · exact ⟨_, _, _, rfl, by decide, Or.inr ⟨rfl, rfl, rfl⟩⟩
  · exact ⟨_, _, _, rfl, by decide, Or.inr ⟨rfl, rfl, rfl⟩⟩
  · exact ⟨_, _, _, rfl, by decide, Or.inr ⟨rfl, rfl, rfl⟩⟩
  · exact ⟨_, _, _, rfl, by decide, Or.inr ⟨rfl, rfl, rfl⟩⟩
  · exact ⟨_, _, _, rfl, by decide, Or.inr ⟨rfl, rfl, rfl⟩⟩
  · exact ⟨_, _, _, rfl, by decide, Or.inr ⟨rfl, rfl, rfl⟩⟩
  · exact ⟨_, _, _, rfl, by decide, Or.inr ⟨rfl, rfl, rfl⟩⟩
theorem fp1_2_14 : FpOk 2 14 1 2 true := fun ci h => by
  obtain rfl := xSub_o h (by decide) (by decide) (by decide) (by decide)
  exact ⟨_, _, _, rfl, by decide, Or.inr ⟨rfl, rfl, rfl⟩⟩
theorem fp1_2_20 : FpOk 2 20 2 2 true := fun ci h => by
  obtain rfl := xSub_o h (by decide) (by decide) (by decide) (by decide)
  exact ⟨_, _, _, rfl, by decide, Or.inr ⟨rfl, rfl, rfl⟩⟩
theorem fp1_2_23 : FpOk 2 23 0 2 true := fun ci h => by
  obtain rfl := xSub_o h (by decide) (by decide) (by decide) (by decide)
  exact ⟨_, _, _, rfl, by decide, Or.inr ⟨rfl, rfl, rfl⟩⟩
theorem fp1_6_9 : FpOk 6 9 0 6 true := fun ci h => by
  obtain rfl := xSub_o h (by decide) (by decide) (by decide) (by decide)
  exact ⟨_, _, _, rfl, by decide, Or.inr ⟨rfl, rfl, rfl⟩⟩
theorem fp1_8_7 : FpOk 8 7 0 8 true := fun ci h => by
  obtain rfl := xSub_o h (by decide) (by decide) (by decide) (by decide)
  exact ⟨_, _, _, rfl, by decide, Or.inr ⟨rfl, rfl, rfl⟩⟩
theorem fp1_8_19 : FpOk 8 19 1 8 true := fun ci h => by
  obtain rfl := xSub_o h (by decide) (by decide) (by decide) (by decide)
  exact ⟨_, _, _, rfl, by decide, Or.inr ⟨rfl, rfl, rfl⟩⟩
theorem fp1_8_23 : FpOk 8 23 2 8 true := fun ci h => by
  obtain rfl := xSub_o h (by decide) (by decide) (by decide) (by decide)
  exact ⟨_, _, _, rfl, by decide, Or.inr ⟨rfl, rfl, rfl⟩⟩
theorem fp1_11_16 : FpOk 11 16 0 11 true := fun ci h => by
  obtain rfl := xSub_o h (by decide) (by decide) (by decide) (by decide)
  exact ⟨_, _, _, rfl, by decide, Or.inr ⟨rfl, rfl, rfl⟩⟩
theorem fp1_11_20 : FpOk 11 20 1 11 true := fun ci h => by
  obtain rfl := xSub_o h (by decide) (by decide) (by decide) (by decide)
  exact ⟨_, _, _, rfl, by decide, Or.inr ⟨rfl, rfl, rfl⟩⟩
theorem fp1_11_23 : FpOk 11 23 2 11 true := fun ci h => by
  obtain rfl := xSub_o h (by decide) (by decide) (by decide) (by decide)
  exact ⟨_, _, _, rfl, by decide, Or.inr ⟨rfl, rfl, rfl⟩⟩
theorem fp1_11_26 : FpOk 11 26 3 11 true := fun ci h => by
  obtain rfl := xSub_o h (by decide) (by decide) (by decide) (by decide)
  exact ⟨_, _, _, rfl, by decide, Or.inr ⟨rfl, rfl, rfl⟩⟩
theorem fp1_11_29 : FpOk 11 29 4 11 true := fun ci h => by
  obtain rfl := xSub_o h (by decide) (by decide) (by decide) (by decide)
  exact ⟨_, _, _, rfl, by decide, Or.inr ⟨rfl, rfl, rfl⟩⟩
theorem fp1_11_32 : FpOk 11 32 5 11 true := fun ci h => by
  obtain rfl := xSub_o h (by decide) (by decide) (by decide) (by decide)
  exact ⟨_, _, _, rfl, by decide, Or.inr ⟨rfl, rfl, rfl⟩⟩
theorem fp1_11_35 : FpOk 11 35 6 11 true := fun ci h => by
  obtain rfl := xSub_o h (by decide) (by decide) (by decide) (by decide)
  exact ⟨_, _, _, rfl, by decide, Or.inr ⟨rfl, rfl, rfl⟩⟩
theorem fp1_11_38 : FpOk 11 38 7 11 true := fun ci h => by
  obtain rfl := xSub_o h (by decide) (by decide) (by decide) (by decide)
  exact ⟨_, _, _, rfl, by decide, Or.inr ⟨rfl, rfl, rfl⟩⟩
theorem fp1_11_41 : FpOk 11 41 8 11 true := fun ci h => by
  obtain rfl := xSub_o h (by decide) (by decide) (by decide) (by decide)
  exact ⟨_, _, _, rfl, by decide, Or.inr ⟨rfl, rfl, rfl⟩⟩
theorem fp1_11_49 : FpOk 11 49 9 11 true := fun ci h => by
  obtain rfl := xSub_o h (by decide) (by decide) (by decide) (by decide)
  exact ⟨_, _, _, rfl, by decide, Or.inr ⟨rfl, rfl, rfl⟩⟩
theorem fp1_11_53 : FpOk 11 53 10 11 true := fun ci h => by
  obtain rfl := xSub_o h (by decide) (by decide) (by decide) (by decide)
  exact ⟨_, _, _, rfl, by decide, Or.inr ⟨rfl, rfl, rfl⟩⟩
theorem fp1_11_59 : FpOk 11 59 11 11 true := fun ci h => by
  obtain rfl := xSub_o h (by decide) (by decide) (by decide) (by decide)
  exact ⟨_, _, _, rfl, by decide, Or.inr ⟨rfl, rfl, rfl⟩⟩
theorem fp1_11_63 : FpOk 11 63 14 11 true := fun ci h => by
  obtain rfl := xSub_o h (by decide) (by decide) (by decide) (by decide)
  exact ⟨_, _, _, rfl, by decide, Or.inl rfl⟩
theorem fp1_12_9 : FpOk 12 9 1 12 true := fun ci h => by
  obtain rfl := xSub_o h (by decide) (by decide) (by decide) (by decide)
  exact ⟨_, _, _, rfl, by decide, Or.inr ⟨rfl, rfl, rfl⟩⟩
theorem fp1_12_15 : FpOk 12 15 2 12 true := fun ci h => by
  obtain rfl := xSub_o h (by decide) (by decide) (by decide) (by decide)
  exact ⟨_, _, _, rfl, by decide, Or.inr ⟨rfl, rfl, rfl⟩⟩
theorem fp1_12_18 : FpOk 12 18 3 12 true := fun ci h => by
  obtain rfl := xSub_o h (by decide) (by decide) (by decide) (by decide)
  exact ⟨_, _, _, rfl, by decide, Or.inr ⟨rfl, rfl, rfl⟩⟩
theorem fp1_12_21 : FpOk 12 21 10 12 true := fun ci h => by
  obtain rfl := xSub_o h (by decide) (by decide) (by decide) (by decide)
  exact ⟨_, _, _, rfl, by decide, Or.inr ⟨rfl, rfl, rfl⟩⟩
theorem fp1_12_24 : FpOk 12 24 11 12 true := fun ci h => by
  obtain rfl := xSub_o h (by decide) (by decide) (by decide) (by decide)
  exact ⟨_, _, _, rfl, by decide, Or.inr ⟨rfl, rfl, rfl⟩⟩
theorem fp1_12_28 : FpOk 12 28 12 12 true := fun ci h => by
  obtain rfl := xSub_o h (by decide) (by decide) (by decide) (by decide)
  exact ⟨_, _, _, rfl, by decide, Or.inr ⟨rfl, rfl, rfl⟩⟩
theorem fp1_12_31 : FpOk 12 31 13 12 true := fun ci h => by
  obtain rfl := xSub_o h (by decide) (by decide) (by decide) (by decide)
  exact ⟨_, _, _, rfl, by decide, Or.inr ⟨rfl, rfl, rfl⟩⟩
theorem fp1_12_34 : FpOk 12 34 14 12 true := fun ci h => by
  obtain rfl := xSub_o h (by decide) (by decide) (by decide) (by decide)
  exact ⟨_, _, _, rfl, by decide, Or.inr ⟨rfl, rfl, rfl⟩⟩
theorem fp1_12_37 : FpOk 12 37 16 12 true := fun ci h => by
  obtain rfl := xSub_o h (by decide) (by decide) (by decide) (by decide)
  exact ⟨_, _, _, rfl, by decide, Or.inr ⟨rfl, rfl, rfl⟩⟩
theorem fp1_12_40 : FpOk 12 40 17 12 true := fun ci h => by
  obtain rfl := xSub_o h (by decide) (by decide) (by decide) (by decide)
  exact ⟨_, _, _, rfl, by decide, Or.inr ⟨rfl, rfl, rfl⟩⟩
theorem fp1_12_43 : FpOk 12 43 19 12 true := fun ci h => by
  obtain rfl := xSub_o h (by decide) (by decide) (by decide) (by decide)
  exact ⟨_, _, _, rfl, by decide, Or.inr ⟨rfl, rfl, rfl⟩⟩
theorem fp1_17_7 : FpOk 17 7 0 0 true := fun ci h => by
  obtain rfl := xSub_o h (by decide) (by decide) (by decide) (by decide)
  exact ⟨_, _, _, rfl, by decide, Or.inl rfl⟩
def xLP0 : List ((Nat × Nat) × (Nat × Nat)) := [((0, 9), (1, 0)), ((0, 48), (2, 0)), ((0, 63), (0, 0)), ((2, 93), (3, 2)), ((2, 113), (4, 2)), ((6, 15), (1, 6)), ((6, 19), (2, 6)), ((6, 22), (3, 6)), ((6, 25), (4, 6)), ((6, 28), (5, 6)), ((8, 26), (3, 8)), ((8, 33), (4, 8)), ((11, 63), (14, 11)), ((11, 75), (12, 11)), ((11, 104), (1, 6)), ((11, 109), (2, 6)), ((11, 130), (3, 6)), ((11, 133), (4, 6)), ((11, 136), (5, 6)), ((11, 158), (13, 11)), ((11, 272), (15, 11)), ((11, 275), (16, 11)), ((12, 58), (6, 12)), ((12, 61), (7, 12)), ((12, 64), (8, 12)), ((12, 85), (5, 12)), ((12, 88), (9, 12)), ((12, 207), (15, 12)), ((12, 214), (18, 12)), ((12, 239), (20, 12)), ((12, 245), (22, 12)), ((12, 248), (21, 12)), ((12, 261), (23, 12)), ((12, 276), (4, 12))]
def xLP1 : List ((Nat × Nat) × (Nat × Nat)) := [((0, 9), (1, 0)), ((1, 10), (3, 1)), ((1, 16), (4, 1)), ((1, 19), (5, 1)), ((1, 22), (0, 1)), ((1, 26), (1, 1)), ((1, 29), (2, 1)), ((2, 14), (1, 2)), ((2, 20), (2, 2)), ((2, 23), (0, 2)), ((6, 9), (0, 6)), ((8, 7), (0, 8)), ((8, 19), (1, 8)), ((8, 23), (2, 8)), ((11, 16), (0, 11)), ((11, 20), (1, 11)), ((11, 23), (2, 11)), ((11, 26), (3, 11)), ((11, 29), (4, 11)), ((11, 32), (5, 11)), ((11, 35), (6, 11)), ((11, 38), (7, 11)), ((11, 41), (8, 11)), ((11, 49), (9, 11)), ((11, 53), (10, 11)), ((11, 59), (11, 11)), ((11, 63), (14, 11)), ((12, 9), (1, 12)), ((12, 15), (2, 12)), ((12, 18), (3, 12)), ((12, 21), (10, 12)), ((12, 24), (11, 12)), ((12, 28), (12, 12)), ((12, 31), (13, 12)), ((12, 34), (14, 12)), ((12, 37), (16, 12)), ((12, 40), (17, 12)), ((12, 43), (19, 12)), ((17, 7), (0, 0))]
set_option maxRecDepth 20000 in
theorem xLF_ok : ∀ q ∈ xLF, FlOk q.1.1 q.1.2 q.2.1 q.2.2 := List.forall_mem_cons.mpr ⟨fl_0_9, List.forall_mem_cons.mpr ⟨fl_0_48, List.forall_mem_cons.mpr ⟨fl_0_63, List.forall_mem_cons.mpr ⟨fl_1_10, List.forall_mem_cons.mpr ⟨fl_1_16, List.forall_mem_cons.mpr ⟨fl_1_19, List.forall_mem_cons.mpr ⟨fl_1_22, List.forall_mem_cons.mpr ⟨fl_1_26, List.forall_mem_cons.mpr ⟨fl_1_29, List.forall_mem_cons.mpr ⟨fl_1_41, List.forall_mem_cons.mpr ⟨fl_1_60, List.forall_mem_cons.mpr ⟨fl_2_14, List.forall_mem_cons.mpr ⟨fl_2_20, List.forall_mem_cons.mpr ⟨fl_2_23, List.forall_mem_cons.mpr ⟨fl_2_40, List.forall_mem_cons.mpr ⟨fl_2_51, List.forall_mem_cons.mpr ⟨fl_2_69, List.forall_mem_cons.mpr ⟨fl_2_74, List.forall_mem_cons.mpr ⟨fl_2_77, List.forall_mem_cons.mpr ⟨fl_2_80, List.forall_mem_cons.mpr ⟨fl_2_83, List.forall_mem_cons.mpr ⟨fl_2_93, List.forall_mem_cons.mpr ⟨fl_2_113, List.forall_mem_cons.mpr ⟨fl_3_11, List.forall_mem_cons.mpr ⟨fl_3_17, List.forall_mem_cons.mpr ⟨fl_4_11, List.forall_mem_cons.mpr ⟨fl_4_17, List.forall_mem_cons.mpr ⟨fl_4_20, List.forall_mem_cons.mpr ⟨fl_5_7, List.forall_mem_cons.mpr ⟨fl_5_19, List.forall_mem_cons.mpr ⟨fl_6_9, List.forall_mem_cons.mpr ⟨fl_6_15, List.forall_mem_cons.mpr ⟨fl_6_19, List.forall_mem_cons.mpr ⟨fl_6_22, List.forall_mem_cons.mpr ⟨fl_6_25, List.forall_mem_cons.mpr ⟨fl_6_28, List.forall_mem_cons.mpr ⟨fl_7_11, List.forall_mem_cons.mpr ⟨fl_7_17, List.forall_mem_cons.mpr ⟨fl_7_20, List.forall_mem_cons.mpr ⟨fl_7_23, List.forall_mem_cons.mpr ⟨fl_7_39, List.forall_mem_cons.mpr ⟨fl_8_7, List.forall_mem_cons.mpr ⟨fl_8_19, List.forall_mem_cons.mpr ⟨fl_8_23, List.forall_mem_cons.mpr ⟨fl_8_26, List.forall_mem_cons.mpr ⟨fl_8_33, List.forall_mem_cons.mpr ⟨fl_9_7, List.forall_mem_cons.mpr ⟨fl_9_19, List.forall_mem_cons.mpr ⟨fl_10_17, List.forall_mem_cons.mpr ⟨fl_10_33, List.forall_mem_cons.mpr ⟨fl_10_37, List.forall_mem_cons.mpr ⟨fl_11_16, List.forall_mem_cons.mpr ⟨fl_11_20, List.forall_mem_cons.mpr ⟨fl_11_23, List.forall_mem_cons.mpr ⟨fl_11_26, List.forall_mem_cons.mpr ⟨fl_11_29, List.forall_mem_cons.mpr ⟨fl_11_32, List.forall_mem_cons.mpr ⟨fl_11_35, List.forall_mem_cons.mpr ⟨fl_11_38, List.forall_mem_cons.mpr ⟨fl_11_41, List.forall_mem_cons.mpr ⟨fl_11_49, List.forall_mem_cons.mpr ⟨fl_11_53, List.forall_mem_cons.mpr ⟨fl_11_59, List.forall_mem_cons.mpr ⟨fl_11_63, List.forall_mem_cons.mpr ⟨fl_11_75, List.forall_mem_cons.mpr ⟨fl_11_98, List.forall_mem_cons.mpr ⟨fl_11_104, List.forall_mem_cons.mpr ⟨fl_11_109, List.forall_mem_cons.mpr ⟨fl_11_116, List.forall_mem_cons.mpr ⟨fl_11_121, List.forall_mem_cons.mpr ⟨fl_11_127, List.forall_mem_cons.mpr ⟨fl_11_130, List.forall_mem_cons.mpr ⟨fl_11_133, List.forall_mem_cons.mpr ⟨fl_11_136, List.forall_mem_cons.mpr ⟨fl_11_158, List.forall_mem_cons.mpr ⟨fl_11_272, List.forall_mem_cons.mpr ⟨fl_11_275, List.forall_mem_cons.mpr ⟨fl_11_332, List.forall_mem_cons.mpr ⟨fl_12_9, List.forall_mem_cons.mpr ⟨fl_12_15, List.forall_mem_cons.mpr ⟨fl_12_18, List.forall_mem_cons.mpr ⟨fl_12_21, List.forall_mem_cons.mpr ⟨fl_12_24, List.forall_mem_cons.mpr ⟨fl_12_28, List.forall_mem_cons.mpr ⟨fl_12_31, List.forall_mem_cons.mpr ⟨fl_12_34, List.forall_mem_cons.mpr ⟨fl_12_37, List.forall_mem_cons.mpr ⟨fl_12_40, List.forall_mem_cons.mpr ⟨fl_12_43, List.forall_mem_cons.mpr ⟨fl_12_58, List.forall_mem_cons.mpr ⟨fl_12_61, List.forall_mem_cons.mpr ⟨fl_12_64, List.forall_mem_cons.mpr ⟨fl_12_85, List.forall_mem_cons.mpr ⟨fl_12_88, List.forall_mem_cons.mpr ⟨fl_12_207, List.forall_mem_cons.mpr ⟨fl_12_214, List.forall_mem_cons.mpr ⟨fl_12_239, List.forall_mem_cons.mpr ⟨fl_12_245, List.forall_mem_cons.mpr ⟨fl_12_248, List.forall_mem_cons.mpr ⟨fl_12_261, List.forall_mem_cons.mpr ⟨fl_12_276, List.forall_mem_cons.mpr ⟨fl_17_7, fun _ h => absurd h List.not_mem_nil⟩⟩⟩⟩⟩⟩⟩⟩⟩⟩⟩⟩⟩⟩⟩⟩⟩⟩⟩⟩⟩⟩⟩⟩⟩⟩⟩⟩⟩⟩⟩⟩⟩⟩⟩⟩⟩⟩⟩⟩⟩⟩⟩⟩⟩⟩⟩⟩⟩⟩⟩⟩⟩⟩⟩⟩⟩⟩⟩⟩⟩⟩⟩⟩⟩⟩⟩⟩⟩⟩⟩⟩⟩⟩⟩⟩⟩⟩⟩⟩⟩⟩⟩⟩⟩⟩⟩⟩⟩⟩⟩⟩⟩⟩⟩⟩⟩⟩⟩⟩⟩⟩
set_option maxRecDepth 20000 in
theorem xLP0_ok : ∀ q ∈ xLP0, FlOk q.1.1 q.1.2 q.2.1 q.2.2 ∧ FpOk q.1.1 q.1.2 q.2.1 q.2.2 false := List.forall_mem_cons.mpr ⟨⟨fl_0_9, fp0_0_9⟩, List.forall_mem_cons.mpr ⟨⟨fl_0_48, fp0_0_48⟩, List.forall_mem_cons.mpr ⟨⟨fl_0_63, fp0_0_63⟩, List.forall_mem_cons.mpr ⟨⟨fl_2_93, fp0_2_93⟩, List.forall_mem_cons.mpr ⟨⟨fl_2_113, fp0_2_113⟩, List.forall_mem_cons.mpr ⟨⟨fl_6_15, fp0_6_15⟩, List.forall_mem_cons.mpr ⟨⟨fl_6_19, fp0_6_19⟩, List.forall_mem_cons.mpr ⟨⟨fl_6_22, fp0_6_22⟩, List.forall_mem_cons.mpr ⟨⟨fl_6_25, fp0_6_25⟩, List.forall_mem_cons.mpr ⟨⟨fl_6_28, fp0_6_28⟩, List.forall_mem_cons.mpr ⟨⟨fl_8_26, fp0_8_26⟩, List.forall_mem_cons.mpr ⟨⟨fl_8_33, fp0_8_33⟩, List.forall_mem_cons.mpr ⟨⟨fl_11_63, fp0_11_63⟩, List.forall_mem_cons.mpr ⟨⟨fl_11_75, fp0_11_75⟩, List.forall_mem_cons.mpr ⟨⟨fl_11_104, fp0_11_104⟩, List.forall_mem_cons.mpr ⟨⟨fl_11_109, fp0_11_109⟩, List.forall_mem_cons.mpr ⟨⟨fl_11_130, fp0_11_130⟩, List.forall_mem_cons.mpr ⟨⟨fl_11_133, fp0_11_133⟩, List.forall_mem_cons.mpr ⟨⟨fl_11_136, fp0_11_136⟩, List.forall_mem_cons.mpr ⟨⟨fl_11_158, fp0_11_158⟩, List.forall_mem_cons.mpr ⟨⟨fl_11_272, fp0_11_272⟩, List.forall_mem_cons.mpr ⟨⟨fl_11_275, fp0_11_275⟩, List.forall_mem_cons.mpr ⟨⟨fl_12_58, fp0_12_58⟩, List.forall_mem_cons.mpr ⟨⟨fl_12_61, fp0_12_61⟩, List.forall_mem_cons.mpr ⟨⟨fl_12_64, fp0_12_64⟩, List.forall_mem_cons.mpr ⟨⟨fl_12_85, fp0_12_85⟩, List.forall_mem_cons.mpr ⟨⟨fl_12_88, fp0_12_88⟩, List.forall_mem_cons.mpr ⟨⟨fl_12_207, fp0_12_207⟩, List.forall_mem_cons.mpr ⟨⟨fl_12_214, fp0_12_214⟩, List.forall_mem_cons.mpr ⟨⟨fl_12_239, fp0_12_239⟩, List.forall_mem_cons.mpr ⟨⟨fl_12_245, fp0_12_245⟩, List.forall_mem_cons.mpr ⟨⟨fl_12_248, fp0_12_248⟩, List.forall_mem_cons.mpr ⟨⟨fl_12_261, fp0_12_261⟩, List.forall_mem_cons.mpr ⟨⟨fl_12_276, fp0_12_276⟩, fun _ h => absurd h List.not_mem_nil⟩⟩⟩⟩⟩⟩⟩⟩⟩⟩⟩⟩⟩⟩⟩⟩⟩⟩⟩⟩⟩⟩⟩⟩⟩⟩⟩⟩⟩⟩⟩⟩⟩⟩
theorem xLP1_ok : ∀ q ∈ xLP1, FlOk q.1.1 q.1.2 q.2.1 q.2.2 ∧ FpOk q.1.1 q.1.2 q.2.1 q.2.2 true := List.forall_mem_cons.mpr ⟨⟨fl_0_9, fp1_0_9⟩, List.forall_mem_cons.mpr ⟨⟨fl_1_10, fp1_1_10⟩, List.forall_mem_cons.mpr ⟨⟨fl_1_16, fp1_1_16⟩, List.forall_mem_cons.mpr ⟨⟨fl_1_19, fp1_1_19⟩, List.forall_mem_cons.mpr ⟨⟨fl_1_22, fp1_1_22⟩, List.forall_mem_cons.mpr ⟨⟨fl_1_26, fp1_1_26⟩, List.forall_mem_cons.mpr ⟨⟨fl_1_29, fp1_1_29⟩, List.forall_mem_cons.mpr ⟨⟨fl_2_14, fp1_2_14⟩, List.forall_mem_cons.mpr ⟨⟨fl_2_20, fp1_2_20⟩, List.forall_mem_cons.mpr ⟨⟨fl_2_23, fp1_2_23⟩, List.forall_mem_cons.mpr ⟨⟨fl_6_9, fp1_6_9⟩, List.forall_mem_cons.mpr ⟨⟨fl_8_7, fp1_8_7⟩, List.forall_mem_cons.mpr ⟨⟨fl_8_19, fp1_8_19⟩, List.forall_mem_cons.mpr ⟨⟨fl_8_23, fp1_8_23⟩, List.forall_mem_cons.mpr ⟨⟨fl_11_16, fp1_11_16⟩, List.forall_mem_cons.mpr ⟨⟨fl_11_20, fp1_11_20⟩, List.forall_mem_cons.mpr ⟨⟨fl_11_23, fp1_11_23⟩, List.forall_mem_cons.mpr ⟨⟨fl_11_26, fp1_11_26⟩, List.forall_mem_cons.mpr ⟨⟨fl_11_29, fp1_11_29⟩, List.forall_mem_cons.mpr ⟨⟨fl_11_32, fp1_11_32⟩, List.forall_mem_cons.mpr ⟨⟨fl_11_35, fp1_11_35⟩, List.forall_mem_cons.mpr ⟨⟨fl_11_38, fp1_11_38⟩, List.forall_mem_cons.mpr ⟨⟨fl_11_41, fp1_11_41⟩, List.forall_mem_cons.mpr ⟨⟨fl_11_49, fp1_11_49⟩, List.forall_mem_cons.mpr ⟨⟨fl_11_53, fp1_11_53⟩, List.forall_mem_cons.mpr ⟨⟨fl_11_59, fp1_11_59⟩, List.forall_mem_cons.mpr ⟨⟨fl_11_63, fp1_11_63⟩, List.forall_mem_cons.mpr ⟨⟨fl_12_9, fp1_12_9⟩, List.forall_mem_cons.mpr ⟨⟨fl_12_15, fp1_12_15⟩, List.forall_mem_cons.mpr ⟨⟨fl_12_18, fp1_12_18⟩, List.forall_mem_cons.mpr ⟨⟨fl_12_21, fp1_12_21⟩, List.forall_mem_cons.mpr ⟨⟨fl_12_24, fp1_12_24⟩, List.forall_mem_cons.mpr ⟨⟨fl_12_28, fp1_12_28⟩, List.forall_mem_cons.mpr ⟨⟨fl_12_31, fp1_12_31⟩, List.forall_mem_cons.mpr ⟨⟨fl_12_34, fp1_12_34⟩, List.forall_mem_cons.mpr ⟨⟨fl_12_37, fp1_12_37⟩, List.forall_mem_cons.mpr ⟨⟨fl_12_40, fp1_12_40⟩, List.forall_mem_cons.mpr ⟨⟨fl_12_43, fp1_12_43⟩, List.forall_mem_cons.mpr ⟨⟨fl_17_7, fp1_17_7⟩, fun _ h => absurd h List.not_mem_nil⟩⟩⟩⟩⟩⟩⟩⟩⟩⟩⟩⟩⟩⟩⟩⟩⟩⟩⟩⟩⟩⟩⟩⟩⟩⟩⟩⟩⟩⟩⟩⟩⟩⟩⟩⟩⟩⟩⟩
theorem xLC_ok : ∀ q ∈ xLC, Cond.constant (xCn q.1.1) q.1.2 (Int32.ofInt q.2) ∈ BW := List.forall_mem_cons.mpr ⟨(bw w_5_107 rfl), List.forall_mem_cons.mpr ⟨(bw w_3_93 rfl), List.forall_mem_cons.mpr ⟨(bw w_3_57 rfl), List.forall_mem_cons.mpr ⟨(bw w_3_58 rfl), List.forall_mem_cons.mpr ⟨(bw w_3_59 rfl), fun _ h => absurd h List.not_mem_nil⟩⟩⟩⟩⟩
theorem xLL_ok : ∀ q ∈ xLL, Cond.constantLong (xCn q.1.1) q.1.2 (Int64.ofInt q.2) ∈ BW := List.forall_mem_cons.mpr ⟨(bw w_3_134 rfl), List.forall_mem_cons.mpr ⟨(bw w_5_186 rfl), fun _ h => absurd h List.not_mem_nil⟩⟩
theorem xLN_ok : ∀ q ∈ xLN, ∃ C T N ty, xClOk q.2 C T N ty ∧ Cond.classLink (xCn q.1.1) q.1.2 C ∈ BW ∧ Cond.instantiable C N ∈ BW ∧ Cond.initialized C ∈ BW := List.forall_mem_cons.mpr ⟨⟨_, _, _, _, xCl_6, (bw w_1_87 rfl), (bw w_1_88 rfl), (bw w_0_15 rfl)⟩, List.forall_mem_cons.mpr ⟨⟨_, _, _, _, xCl_8, (bw w_0_68 rfl), (bw w_0_35 rfl), (bw w_0_2 rfl)⟩, List.forall_mem_cons.mpr ⟨⟨_, _, _, _, xCl_8, (bw w_0_34 rfl), (bw w_0_35 rfl), (bw w_0_2 rfl)⟩, List.forall_mem_cons.mpr ⟨⟨_, _, _, _, xCl_2, (bw w_0_62 rfl), (bw w_0_63 rfl), (bw w_0_4 rfl)⟩, List.forall_mem_cons.mpr ⟨⟨_, _, _, _, xCl_0, (bw w_0_86 rfl), (bw w_0_87 rfl), (bw w_0_7 rfl)⟩, List.forall_mem_cons.mpr ⟨⟨_, _, _, _, xCl_1, (bw w_1_238 rfl), (bw w_1_239 rfl), (bw w_0_13 rfl)⟩, List.forall_mem_cons.mpr ⟨⟨_, _, _, _, xCl_5, (bw w_1_78 rfl), (bw w_1_79 rfl), (bw w_0_14 rfl)⟩, List.forall_mem_cons.mpr ⟨⟨_, _, _, _, xCl_9, (bw w_1_173 rfl), (bw w_1_174 rfl), (bw w_0_16 rfl)⟩, List.forall_mem_cons.mpr ⟨⟨_, _, _, _, xCl_3, (bw w_1_186 rfl), (bw w_1_187 rfl), (bw w_0_17 rfl)⟩, List.forall_mem_cons.mpr ⟨⟨_, _, _, _, xCl_4, (bw w_1_199 rfl), (bw w_1_200 rfl), (bw w_0_18 rfl)⟩, List.forall_mem_cons.mpr ⟨⟨_, _, _, _, xCl_7, (bw w_1_212 rfl), (bw w_1_213 rfl), (bw w_0_19 rfl)⟩, List.forall_mem_cons.mpr ⟨⟨_, _, _, _, xCl_10, (bw w_1_225 rfl), (bw w_1_226 rfl), (bw w_0_20 rfl)⟩, List.forall_mem_cons.mpr ⟨⟨_, _, _, _, xCl_11, (bw w_0_26 rfl), (bw w_0_27 rfl), (bw w_0_1 rfl)⟩, List.forall_mem_cons.mpr ⟨⟨_, _, _, _, xCl_12, (bw w_4_77 rfl), (bw w_4_78 rfl), (bw w_0_8 rfl)⟩, fun _ h => absurd h List.not_mem_nil⟩⟩⟩⟩⟩⟩⟩⟩⟩⟩⟩⟩⟩⟩
theorem xLA_ok : ∀ q ∈ xLA, Cond.classLink (xCn q.1.1) q.1.2 "java/lang/Object" ∈ BW := List.forall_mem_cons.mpr ⟨(bw w_2_70 rfl), fun _ h => absurd h List.not_mem_nil⟩
theorem xLK_ok : ∀ q ∈ xLK, q.2 = 1 ∧ Cond.classLink (xCn q.1.1) q.1.2 "LaidQuarrel$Bottle" ∈ BW := List.forall_mem_cons.mpr ⟨⟨rfl, (bw w_1_238 rfl)⟩, fun _ h => absurd h List.not_mem_nil⟩
theorem xLG_ok : ∀ q ∈ xLG, Cond.fieldLink (xCn q.1.1) q.1.2 "java/util/ArrayList" "DEFAULTCAPACITY_EMPTY_ELEMENTDATA" "[Ljava/lang/Object;" ∈ BW := List.forall_mem_cons.mpr ⟨(bw w_0_98 rfl), fun _ h => absurd h List.not_mem_nil⟩
theorem xArr_int : Cond.arrayClass .int ∈ BW := bw w_0_61 rfl
theorem xArr_boolean : Cond.arrayClass .boolean ∈ BW := bw w_4_155 rfl
