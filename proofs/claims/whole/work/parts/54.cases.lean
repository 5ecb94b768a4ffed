theorem prv {α : Type} {F : (Nat → Nat → Int) → α} {I I1 : Nat → Nat → Int} (h0 : F I = F (pr I)) (hr : ∀ a, 24 ≤ a → a < 52 → I1 a = I a) (h1 : F (pr I1) = F I1) : F I = F I1 := by rw [h0, ← pr_eq hr]; exact h1
theorem lgc_same {x y : Int64} (h : x = y) : lg_cmp x y = 0 := by
  subst h
  unfold lg_cmp
  rw [if_neg (Int64.lt_irrefl), if_pos rfl]
section LCs
variable {l : Launch} {E : zEnv} {n : Nat} {sh : Nat → Nat × Nat} {I : Nat → Nat → Int} {P : Nat → Nat → Option Nat} {c cells slots b : Nat} {nm : String}
set_option maxHeartbeats 4000000 in
set_option maxRecDepth 100000 in
theorem lc_join (hI : LI n sh I P c cells slots) (h6 : 6 * c + 6 ≤ zxL E) (hc : c + 1 ≤ 512) (hout : ∀ n' sh' I' P' cells' slots', LI n' sh' I' P' (c + 1) cells' slots' → Z l E (jLw nm) room_1 (kLw E b) cells' slots' (zw E n' sh' I' P') 869 [(0, .ref (zs E 3)), (1, .ref (zb E + 0)), (2, .ref (zb E + 24)), (3, .int (iI ((6 * c : Nat) : Int)))] []) : Z l E (jLw nm) room_1 (kLw E b) cells slots (zw E n sh I P) 128 [(0, .ref (zs E 3)), (1, .ref (zb E + 0)), (2, .ref (zb E + 24)), (3, .int (iI ((6 * c : Nat) : Int)))] [] := by
  obtain ⟨hB, hM, t, mc, rc, pc, bc, ma, pa, Ls, r, rl, hO, hC, hb1, hb2⟩ := hI
  have hb5 := hO.2.1
  have hL5 := hC.2.2.2.2.2.2.2.2.2.1.2.2.1
  have hb3 : slots ≤ 1000000 := by split at hb2 <;> omega
  refine z_aload_n dL_law_128 rfl ?_
  refine z_aload_n dL_law_129 rfl ?_
  refine z_iload_n dL_law_130 rfl ?_
  refine z_iconst dL_law_131 ?_
  refine z_iadd dL_law_132 ?_
  refine z_sld 3 dL_law_133 (by decide) (by show 0 ≤ _ ∧ _ < ((zxL E : Nat) : Int); omega) (by omega) ?_
  refine z_topi (iI (aX E (6 * c + 1))) (aX_of (by omega)) ?_
  refine z_aload_n dL_law_134 rfl ?_
  refine z_iload_n dL_law_135 rfl ?_
  refine z_iconst dL_law_136 ?_
  refine z_iadd dL_law_137 ?_
  refine z_sld 3 dL_law_138 (by decide) (by show 0 ≤ _ ∧ _ < ((zxL E : Nat) : Int); omega) (by omega) ?_
  refine z_topi (iI (aX E (6 * c + 2))) (aX_of (by omega)) ?_
  refine y_callV dL_law_139 kL_13 (c_X6_join hB hO hC (aX_rng E _) (aX_rng E _)) (hB.lt (by decide)) (hB.2.1 0 (by decide)) rfl rfl rfl (Nat.le_of_ble_eq_true rfl) ⟨⟨Nat.le_of_ble_eq_true rfl, Nat.le_of_ble_eq_true rfl⟩, by show cells + 4 ≤ 600000; omega, by show slots + 912 ≤ 7302250; omega⟩ (fun v139 n139 sh139 I139 P139 hp139 => ?_)
  obtain ⟨rfl, ⟨hB1, hr1, h24⟩, hC1⟩ := hp139
  have hM1 := hM.nx hB1 h24
  have hO1 := hO.mv hr1
  generalize I139 = I1 at *
  refine z_aload_n dL_law_142 rfl ?_
  refine z_aload_n dL_law_143 rfl ?_
  refine z_iload_n dL_law_144 rfl ?_
  refine z_iconst dL_law_145 ?_
  refine z_iadd dL_law_146 ?_
  refine z_sld 3 dL_law_147 (by decide) (by show 0 ≤ _ ∧ _ < ((zxL E : Nat) : Int); omega) (by omega) ?_
  refine z_topi (iI (aX E (6 * c + 1))) (aX_of (by omega)) ?_
  refine z_aload_n dL_law_148 rfl ?_
  refine z_iload_n dL_law_149 rfl ?_
  refine z_iconst dL_law_150 ?_
  refine z_iadd dL_law_151 ?_
  refine z_sld 3 dL_law_152 (by decide) (by show 0 ≤ _ ∧ _ < ((zxL E : Nat) : Int); omega) (by omega) ?_
  refine z_topi (iI (aX E (6 * c + 2))) (aX_of (by omega)) ?_
  refine y_callV dL_law_153 kL_17 (c_X7_join hM1 hO1.1.1 (by omega) hO1.1.2.1 (by omega) (aX_rng E _) (aX_rng E _)) (hM1.lt (by decide)) (hM1.2.1 24 (by decide)) rfl rfl rfl (Nat.le_of_ble_eq_true rfl) ⟨⟨Nat.le_of_ble_eq_true rfl, Nat.le_of_ble_eq_true rfl⟩, by show cells + 4 + 0 ≤ 600000; omega, by show slots + 912 + 0 ≤ 7302250; omega⟩ (fun v153 n153 sh153 I153 P153 hp153 => ?_)
  obtain ⟨rfl, rfl, rfl, rfl, rfl⟩ := hp153
  refine z_same 869 dL_law_156 (by decide) (rfl) ?_
  by_cases hk : mc < 40 ∧ (16 ≤ (aX E (6 * c + 1)) ∧ (aX E (6 * c + 1)) ≤ 60) ∧ (0 ≤ (aX E (6 * c + 2)) ∧ (aX E (6 * c + 2)) ≤ 3)
  · rw [if_pos hk, if_pos hk] at hC1
    rw [if_pos hk]
    exact hout _ _ _ _ _ _ (LI.of (c := c + 1) hB1 hM1 ((hO.up hc).join hk.1 hk.2.1 hk.2.2) hC1 (fun a b h => by rw [mJoin_lo h]) (((mJoin_rg (rgS.rf hr1) _ _ _ _)).eq _) (by show cells + 4 + 0 ≤ _; omega) (by show slots + 912 + 0 ≤ _; omega))
  · rw [if_neg hk, if_neg hk] at hC1
    rw [if_neg hk]
    exact hout _ _ _ _ _ _ (LI.of (c := c + 1) hB1 hM1 (hO.up hc) hC1 (fun _ _ _ => rfl) (((rgS.rf hr1)).eq _) (by show cells + 4 + 0 ≤ _; omega) (by show slots + 912 + 0 ≤ _; omega))
set_option maxHeartbeats 4000000 in
set_option maxRecDepth 100000 in
theorem lc_pay (hI : LI n sh I P c cells slots) (h6 : 6 * c + 6 ≤ zxL E) (hc : c + 1 ≤ 512) (hout : ∀ n' sh' I' P' cells' slots', LI n' sh' I' P' (c + 1) cells' slots' → Z l E (jLw nm) room_1 (kLw E b) cells' slots' (zw E n' sh' I' P') 869 [(0, .ref (zs E 3)), (1, .ref (zb E + 0)), (2, .ref (zb E + 24)), (3, .int (iI ((6 * c : Nat) : Int)))] []) : Z l E (jLw nm) room_1 (kLw E b) cells slots (zw E n sh I P) 161 [(0, .ref (zs E 3)), (1, .ref (zb E + 0)), (2, .ref (zb E + 24)), (3, .int (iI ((6 * c : Nat) : Int)))] [] := by
  obtain ⟨hB, hM, t, mc, rc, pc, bc, ma, pa, Ls, r, rl, hO, hC, hb1, hb2⟩ := hI
  have hb5 := hO.2.1
  have hL5 := hC.2.2.2.2.2.2.2.2.2.1.2.2.1
  have hb3 : slots ≤ 1000000 := by split at hb2 <;> omega
  refine z_aload_n dL_law_161 rfl ?_
  refine z_aload_n dL_law_162 rfl ?_
  refine z_iload_n dL_law_163 rfl ?_
  refine z_iconst dL_law_164 ?_
  refine z_iadd dL_law_165 ?_
  refine z_sld 3 dL_law_166 (by decide) (by show 0 ≤ _ ∧ _ < ((zxL E : Nat) : Int); omega) (by omega) ?_
  refine z_topi (iI (aX E (6 * c + 1))) (aX_of (by omega)) ?_
  refine z_aload_n dL_law_167 rfl ?_
  refine z_iload_n dL_law_168 rfl ?_
  refine z_iconst dL_law_169 ?_
  refine z_iadd dL_law_170 ?_
  refine z_sld 3 dL_law_171 (by decide) (by show 0 ≤ _ ∧ _ < ((zxL E : Nat) : Int); omega) (by omega) ?_
  refine z_topi (iI (aX E (6 * c + 2))) (aX_of (by omega)) ?_
  refine y_callV dL_law_172 kL_18 (c_X6_pay hB hO hC hc (aX_rng E _) (aX_rng E _)) (hB.lt (by decide)) (hB.2.1 0 (by decide)) rfl rfl rfl (Nat.le_of_ble_eq_true rfl) ⟨⟨Nat.le_of_ble_eq_true rfl, Nat.le_of_ble_eq_true rfl⟩, by show cells + 0 ≤ 600000; omega, by show slots + 0 ≤ 7302250; omega⟩ (fun v172 n172 sh172 I172 P172 hp172 => ?_)
  obtain ⟨rfl, ⟨hB1, hr1, h24⟩, hC1⟩ := hp172
  have hM1 := hM.nx hB1 h24
  have hO1 := hO.mv hr1
  generalize I172 = I1 at *
  refine z_aload_n dL_law_175 rfl ?_
  refine z_aload_n dL_law_176 rfl ?_
  refine z_iload_n dL_law_177 rfl ?_
  refine z_iconst dL_law_178 ?_
  refine z_iadd dL_law_179 ?_
  refine z_sld 3 dL_law_180 (by decide) (by show 0 ≤ _ ∧ _ < ((zxL E : Nat) : Int); omega) (by omega) ?_
  refine z_topi (iI (aX E (6 * c + 1))) (aX_of (by omega)) ?_
  refine z_aload_n dL_law_181 rfl ?_
  refine z_iload_n dL_law_182 rfl ?_
  refine z_iconst dL_law_183 ?_
  refine z_iadd dL_law_184 ?_
  refine z_sld 3 dL_law_185 (by decide) (by show 0 ≤ _ ∧ _ < ((zxL E : Nat) : Int); omega) (by omega) ?_
  refine z_topi (iI (aX E (6 * c + 2))) (aX_of (by omega)) ?_
  refine y_callV dL_law_186 kL_21 (c_X7_pay hM1 hO1.1.1 hO1.2.1.1 hO1.1.2.1 hO1.2.1.2.1 hO1.1.2.2.1 hO1.2.1.2.2.1 hO1.1.2.2.2.1 hO1.2.1.2.2.2.1 hO1.2.2.1.1 hO1.pap hO1.jo hO1.2.2.2.2.2.1.1 hO1.ps (aX_rng E _) (aX_rng E _)) (hM1.lt (by decide)) (hM1.2.1 24 (by decide)) rfl rfl rfl (Nat.le_of_ble_eq_true rfl) ⟨⟨Nat.le_of_ble_eq_true rfl, Nat.le_of_ble_eq_true rfl⟩, by show cells + 0 + 0 ≤ 600000; omega, by show slots + 0 + 0 ≤ 7302250; omega⟩ (fun v186 n186 sh186 I186 P186 hp186 => ?_)
  obtain ⟨rfl, rfl, rfl, rfl, hsc⟩ := hp186
  refine z_same 869 dL_law_189 (by decide) (prv (F := fun J => iI (if ((0 ≤ (aX E (6 * c + 1)) ∧ (aX E (6 * c + 1)) < (mc : Int)) ∧ (1 ≤ (aX E (6 * c + 2)) ∧ (aX E (6 * c + 2)) ≤ 1000)) then arr (vF J t rc 0) (pd (mPy J ((aX E (6 * c + 1))).toNat t (aX E (6 * c + 2))) ((aX E (6 * c + 1))).toNat) (jn J ((aX E (6 * c + 1))).toNat) t t else -1000000)) rfl hr1 rfl) ?_
  by_cases hk : (0 ≤ (aX E (6 * c + 1)) ∧ (aX E (6 * c + 1)) < (mc : Int)) ∧ (1 ≤ (aX E (6 * c + 2)) ∧ (aX E (6 * c + 2)) ≤ 1000)
  · rw [if_pos hk] at hC1
    rw [if_pos hk] at hsc
    exact hout _ _ _ _ _ _ (LI.of (c := c + 1) hB1 hM1 (hO.pay (by omega) hk.2 hc) hC1 (fun a b h => (hsc.lo h).trans ((fun a b h => by rw [mPy_ne (by omega)]) a b h)) (((mPy_rg (rgS.rf hr1) _ _ _)).sc hsc) (by show cells + 0 + 0 ≤ _; omega) (by show slots + 0 + 0 ≤ _; omega))
  · rw [if_neg hk] at hC1
    rw [if_neg hk] at hsc
    exact hout _ _ _ _ _ _ (LI.of (c := c + 1) hB1 hM1 (hO.up hc) hC1 (fun a b h => (hsc.lo h).trans ((fun _ _ _ => rfl) a b h)) (((rgS.rf hr1)).sc hsc) (by show cells + 0 + 0 ≤ _; omega) (by show slots + 0 + 0 ≤ _; omega))
set_option maxHeartbeats 4000000 in
set_option maxRecDepth 100000 in
theorem lc_rule (hI : LI n sh I P c cells slots) (h6 : 6 * c + 6 ≤ zxL E) (hc : c + 1 ≤ 512) (hout : ∀ n' sh' I' P' cells' slots', LI n' sh' I' P' (c + 1) cells' slots' → Z l E (jLw nm) room_1 (kLw E b) cells' slots' (zw E n' sh' I' P') 869 [(0, .ref (zs E 3)), (1, .ref (zb E + 0)), (2, .ref (zb E + 24)), (3, .int (iI ((6 * c : Nat) : Int)))] []) : Z l E (jLw nm) room_1 (kLw E b) cells slots (zw E n sh I P) 194 [(0, .ref (zs E 3)), (1, .ref (zb E + 0)), (2, .ref (zb E + 24)), (3, .int (iI ((6 * c : Nat) : Int)))] [] := by
  obtain ⟨hB, hM, t, mc, rc, pc, bc, ma, pa, Ls, r, rl, hO, hC, hb1, hb2⟩ := hI
  have hb5 := hO.2.1
  have hL5 := hC.2.2.2.2.2.2.2.2.2.1.2.2.1
  have hb3 : slots ≤ 1000000 := by split at hb2 <;> omega
  refine z_aload_n dL_law_194 rfl ?_
  refine z_aload_n dL_law_195 rfl ?_
  refine z_iload_n dL_law_196 rfl ?_
  refine z_iconst dL_law_197 ?_
  refine z_iadd dL_law_198 ?_
  refine z_sld 3 dL_law_199 (by decide) (by show 0 ≤ _ ∧ _ < ((zxL E : Nat) : Int); omega) (by omega) ?_
  refine z_topi (iI (aX E (6 * c + 1))) (aX_of (by omega)) ?_
  refine z_aload_n dL_law_200 rfl ?_
  refine z_iload_n dL_law_201 rfl ?_
  refine z_iconst dL_law_202 ?_
  refine z_iadd dL_law_203 ?_
  refine z_sld 3 dL_law_204 (by decide) (by show 0 ≤ _ ∧ _ < ((zxL E : Nat) : Int); omega) (by omega) ?_
  refine z_topi (iI (aX E (6 * c + 2))) (aX_of (by omega)) ?_
  refine z_aload_n dL_law_205 rfl ?_
  refine z_iload_n dL_law_206 rfl ?_
  refine z_iconst dL_law_207 ?_
  refine z_iadd dL_law_208 ?_
  refine z_sld 3 dL_law_209 (by decide) (by show 0 ≤ _ ∧ _ < ((zxL E : Nat) : Int); omega) (by omega) ?_
  refine z_topi (iI (aX E (6 * c + 3))) (aX_of (by omega)) ?_
  refine y_callV dL_law_210 kL_22 (c_X6_rule hB hO hC (aX_rng E _) (aX_rng E _) (aX_rng E _)) (hB.lt (by decide)) (hB.2.1 0 (by decide)) rfl rfl rfl (Nat.le_of_ble_eq_true rfl) ⟨⟨Nat.le_of_ble_eq_true rfl, Nat.le_of_ble_eq_true rfl⟩, by show cells + 0 ≤ 600000; omega, by show slots + 0 ≤ 7302250; omega⟩ (fun v210 n210 sh210 I210 P210 hp210 => ?_)
  obtain ⟨rfl, ⟨hB1, hr1, h24⟩, hC1⟩ := hp210
  have hM1 := hM.nx hB1 h24
  have hO1 := hO.mv hr1
  generalize I210 = I1 at *
  refine z_aload_n dL_law_213 rfl ?_
  refine z_aload_n dL_law_214 rfl ?_
  refine z_iload_n dL_law_215 rfl ?_
  refine z_iconst dL_law_216 ?_
  refine z_iadd dL_law_217 ?_
  refine z_sld 3 dL_law_218 (by decide) (by show 0 ≤ _ ∧ _ < ((zxL E : Nat) : Int); omega) (by omega) ?_
  refine z_topi (iI (aX E (6 * c + 1))) (aX_of (by omega)) ?_
  refine z_aload_n dL_law_219 rfl ?_
  refine z_iload_n dL_law_220 rfl ?_
  refine z_iconst dL_law_221 ?_
  refine z_iadd dL_law_222 ?_
  refine z_sld 3 dL_law_223 (by decide) (by show 0 ≤ _ ∧ _ < ((zxL E : Nat) : Int); omega) (by omega) ?_
  refine z_topi (iI (aX E (6 * c + 2))) (aX_of (by omega)) ?_
  refine z_aload_n dL_law_224 rfl ?_
  refine z_iload_n dL_law_225 rfl ?_
  refine z_iconst dL_law_226 ?_
  refine z_iadd dL_law_227 ?_
  refine z_sld 3 dL_law_228 (by decide) (by show 0 ≤ _ ∧ _ < ((zxL E : Nat) : Int); omega) (by omega) ?_
  refine z_topi (iI (aX E (6 * c + 3))) (aX_of (by omega)) ?_
  refine y_callV dL_law_229 kL_26 (c_X7_rule hM1 hO1.1.1 (by omega) hO1.1.2.2.1 (by omega) (aX_rng E _) (aX_rng E _) (aX_rng E _)) (hM1.lt (by decide)) (hM1.2.1 24 (by decide)) rfl rfl rfl (Nat.le_of_ble_eq_true rfl) ⟨⟨Nat.le_of_ble_eq_true rfl, Nat.le_of_ble_eq_true rfl⟩, by show cells + 0 + 0 ≤ 600000; omega, by show slots + 0 + 0 ≤ 7302250; omega⟩ (fun v229 n229 sh229 I229 P229 hp229 => ?_)
  obtain ⟨rfl, rfl, rfl, rfl, rfl⟩ := hp229
  refine z_same 869 dL_law_232 (by decide) (rfl) ?_
  by_cases hk : sRule (aX E (6 * c + 1)) (aX E (6 * c + 2)) (aX E (6 * c + 3)) ∧ rc < 200
  · rw [if_pos hk, if_pos hk] at hC1
    rw [if_pos hk]
    exact hout _ _ _ _ _ _ (LI.of (c := c + 1) hB1 hM1 ((hO.up hc).rule hk.1 hk.2) hC1 (fun a b h => by show mRu I1 rc _ _ _ _ a b = _; rw [mRu_ne (by omega) (by omega)]) (((mRu_rg (rgS.rf hr1) _ _ _ _ _)).eq _) (by show cells + 0 + 0 ≤ _; omega) (by show slots + 0 + 0 ≤ _; omega))
  · rw [if_neg hk, if_neg hk] at hC1
    rw [if_neg hk]
    exact hout _ _ _ _ _ _ (LI.of (c := c + 1) hB1 hM1 (hO.up hc) hC1 (fun _ _ _ => rfl) (((rgS.rf hr1)).eq _) (by show cells + 0 + 0 ≤ _; omega) (by show slots + 0 + 0 ≤ _; omega))
set_option maxHeartbeats 4000000 in
set_option maxRecDepth 100000 in
theorem lc_paper (hI : LI n sh I P c cells slots) (h6 : 6 * c + 6 ≤ zxL E) (hc : c + 1 ≤ 512) (hout : ∀ n' sh' I' P' cells' slots', LI n' sh' I' P' (c + 1) cells' slots' → Z l E (jLw nm) room_1 (kLw E b) cells' slots' (zw E n' sh' I' P') 869 [(0, .ref (zs E 3)), (1, .ref (zb E + 0)), (2, .ref (zb E + 24)), (3, .int (iI ((6 * c : Nat) : Int)))] []) : Z l E (jLw nm) room_1 (kLw E b) cells slots (zw E n sh I P) 237 [(0, .ref (zs E 3)), (1, .ref (zb E + 0)), (2, .ref (zb E + 24)), (3, .int (iI ((6 * c : Nat) : Int)))] [] := by
  obtain ⟨hB, hM, t, mc, rc, pc, bc, ma, pa, Ls, r, rl, hO, hC, hb1, hb2⟩ := hI
  have hb5 := hO.2.1
  have hL5 := hC.2.2.2.2.2.2.2.2.2.1.2.2.1
  have hb3 : slots ≤ 1000000 := by split at hb2 <;> omega
  refine z_aload_n dL_law_237 rfl ?_
  refine z_aload_n dL_law_238 rfl ?_
  refine z_iload_n dL_law_239 rfl ?_
  refine z_iconst dL_law_240 ?_
  refine z_iadd dL_law_241 ?_
  refine z_sld 3 dL_law_242 (by decide) (by show 0 ≤ _ ∧ _ < ((zxL E : Nat) : Int); omega) (by omega) ?_
  refine z_topi (iI (aX E (6 * c + 1))) (aX_of (by omega)) ?_
  refine z_aload_n dL_law_243 rfl ?_
  refine z_iload_n dL_law_244 rfl ?_
  refine z_iconst dL_law_245 ?_
  refine z_iadd dL_law_246 ?_
  refine z_sld 3 dL_law_247 (by decide) (by show 0 ≤ _ ∧ _ < ((zxL E : Nat) : Int); omega) (by omega) ?_
  refine z_topi (iI (aX E (6 * c + 2))) (aX_of (by omega)) ?_
  refine z_aload_n dL_law_248 rfl ?_
  refine z_iload_n dL_law_249 rfl ?_
  refine z_iconst dL_law_250 ?_
  refine z_iadd dL_law_251 ?_
  refine z_sld 3 dL_law_252 (by decide) (by show 0 ≤ _ ∧ _ < ((zxL E : Nat) : Int); omega) (by omega) ?_
  refine z_topi (iI (aX E (6 * c + 3))) (aX_of (by omega)) ?_
  refine y_callV dL_law_253 kL_27 (c_X6_paper hB hO hC (aX_rng E _) (aX_rng E _) (aX_rng E _)) (hB.lt (by decide)) (hB.2.1 0 (by decide)) rfl rfl rfl (Nat.le_of_ble_eq_true rfl) ⟨⟨Nat.le_of_ble_eq_true rfl, Nat.le_of_ble_eq_true rfl⟩, by show cells + 1 ≤ 600000; omega, by show slots + 6 ≤ 7302250; omega⟩ (fun v253 n253 sh253 I253 P253 hp253 => ?_)
  obtain ⟨rfl, ⟨hB1, hr1, h24⟩, hC1⟩ := hp253
  have hM1 := hM.nx hB1 h24
  have hO1 := hO.mv hr1
  generalize I253 = I1 at *
  refine z_aload_n dL_law_256 rfl ?_
  refine z_aload_n dL_law_257 rfl ?_
  refine z_iload_n dL_law_258 rfl ?_
  refine z_iconst dL_law_259 ?_
  refine z_iadd dL_law_260 ?_
  refine z_sld 3 dL_law_261 (by decide) (by show 0 ≤ _ ∧ _ < ((zxL E : Nat) : Int); omega) (by omega) ?_
  refine z_topi (iI (aX E (6 * c + 1))) (aX_of (by omega)) ?_
  refine z_aload_n dL_law_262 rfl ?_
  refine z_iload_n dL_law_263 rfl ?_
  refine z_iconst dL_law_264 ?_
  refine z_iadd dL_law_265 ?_
  refine z_sld 3 dL_law_266 (by decide) (by show 0 ≤ _ ∧ _ < ((zxL E : Nat) : Int); omega) (by omega) ?_
  refine z_topi (iI (aX E (6 * c + 2))) (aX_of (by omega)) ?_
  refine z_aload_n dL_law_267 rfl ?_
  refine z_iload_n dL_law_268 rfl ?_
  refine z_iconst dL_law_269 ?_
  refine z_iadd dL_law_270 ?_
  refine z_sld 3 dL_law_271 (by decide) (by show 0 ≤ _ ∧ _ < ((zxL E : Nat) : Int); omega) (by omega) ?_
  refine z_topi (iI (aX E (6 * c + 3))) (aX_of (by omega)) ?_
  refine y_callV dL_law_272 kL_30 (c_X7_paper hM1 hO1.1.1 (by omega) hO1.1.2.1 (by omega) hO1.1.2.2.2.1 (by omega) (fun i hi => by have := hO1.jo i hi; omega) (aX_rng E _) (aX_rng E _) (aX_rng E _)) (hM1.lt (by decide)) (hM1.2.1 24 (by decide)) rfl rfl rfl (Nat.le_of_ble_eq_true rfl) ⟨⟨Nat.le_of_ble_eq_true rfl, Nat.le_of_ble_eq_true rfl⟩, by show cells + 1 + 0 ≤ 600000; omega, by show slots + 6 + 0 ≤ 7302250; omega⟩ (fun v272 n272 sh272 I272 P272 hp272 => ?_)
  obtain ⟨rfl, rfl, rfl, rfl, rfl⟩ := hp272
  refine z_same 869 dL_law_275 (by decide) (prv (F := fun J => iI (if ((0 ≤ (aX E (6 * c + 1)) ∧ (aX E (6 * c + 1)) < (mc : Int)) ∧ (aX E (6 * c + 2)) ≤ (aX E (6 * c + 3)) ∧ 7 * J 27 ((aX E (6 * c + 1))).toNat ≤ (aX E (6 * c + 2)) ∧ (aX E (6 * c + 3)) ≤ 7 * (t : Int) + 6 ∧ (aX E (6 * c + 3)) - (aX E (6 * c + 2)) < 400 ∧ pc < 200) then (pc : Int) else -1)) rfl hr1 rfl) ?_
  by_cases hk : (0 ≤ (aX E (6 * c + 1)) ∧ (aX E (6 * c + 1)) < (mc : Int)) ∧ (aX E (6 * c + 2)) ≤ (aX E (6 * c + 3)) ∧ 7 * I 27 ((aX E (6 * c + 1))).toNat ≤ (aX E (6 * c + 2)) ∧ (aX E (6 * c + 3)) ≤ 7 * (t : Int) + 6 ∧ (aX E (6 * c + 3)) - (aX E (6 * c + 2)) < 400 ∧ pc < 200
  · have hk1 : (0 ≤ (aX E (6 * c + 1)) ∧ (aX E (6 * c + 1)) < (mc : Int)) ∧ (aX E (6 * c + 2)) ≤ (aX E (6 * c + 3)) ∧ 7 * I1 27 ((aX E (6 * c + 1))).toNat ≤ (aX E (6 * c + 2)) ∧ (aX E (6 * c + 3)) ≤ 7 * (t : Int) + 6 ∧ (aX E (6 * c + 3)) - (aX E (6 * c + 2)) < 400 ∧ pc < 200 := by rw [hr1 27 (by omega) (by omega)]; exact hk
    rw [if_pos hk, if_pos hk] at hC1
    rw [if_pos hk1]
    obtain ⟨m0, hm0⟩ : ∃ m0 : Nat, (aX E (6 * c + 1)) = (m0 : Int) := ⟨((aX E (6 * c + 1))).toNat, by omega⟩
    have hj0 := hO.jo m0 (by omega)
    rw [hm0] at hC1 ⊢
    have hOp := (hO.up hc).paper (m := m0) (f := (aX E (6 * c + 2))) (a := (aX E (6 * c + 3))) (by omega) hk.2.2.2.2.2 ⟨by have h9 := hk.2.2.1; rw [hm0, Int.toNat_natCast] at h9; omega, hk.2.1, hk.2.2.2.1⟩
    exact hout _ _ _ _ _ _ (LI.of (c := c + 1) hB1 hM1 (hOp) hC1 (fun a b h => by rw [mPa_ne (by omega)]) (((mPa_rg (rgS.rf hr1) _ _ _ _ _)).eq _) (by show cells + 1 + 0 ≤ _; omega) (by show slots + 6 + 0 ≤ _; omega))
  · have hk1 : ¬ ((0 ≤ (aX E (6 * c + 1)) ∧ (aX E (6 * c + 1)) < (mc : Int)) ∧ (aX E (6 * c + 2)) ≤ (aX E (6 * c + 3)) ∧ 7 * I1 27 ((aX E (6 * c + 1))).toNat ≤ (aX E (6 * c + 2)) ∧ (aX E (6 * c + 3)) ≤ 7 * (t : Int) + 6 ∧ (aX E (6 * c + 3)) - (aX E (6 * c + 2)) < 400 ∧ pc < 200) := by rw [hr1 27 (by omega) (by omega)]; exact hk
    rw [if_neg hk, if_neg hk] at hC1
    rw [if_neg hk1]
    exact hout _ _ _ _ _ _ (LI.of (c := c + 1) hB1 hM1 (hO.up hc) hC1 (fun _ _ _ => rfl) (((rgS.rf hr1)).eq _) (by show cells + 1 + 0 ≤ _; omega) (by show slots + 6 + 0 ≤ _; omega))
set_option maxHeartbeats 4000000 in
set_option maxRecDepth 100000 in
theorem lc_back (hI : LI n sh I P c cells slots) (h6 : 6 * c + 6 ≤ zxL E) (hc : c + 1 ≤ 512) (hout : ∀ n' sh' I' P' cells' slots', LI n' sh' I' P' (c + 1) cells' slots' → Z l E (jLw nm) room_1 (kLw E b) cells' slots' (zw E n' sh' I' P') 869 [(0, .ref (zs E 3)), (1, .ref (zb E + 0)), (2, .ref (zb E + 24)), (3, .int (iI ((6 * c : Nat) : Int)))] []) : Z l E (jLw nm) room_1 (kLw E b) cells slots (zw E n sh I P) 280 [(0, .ref (zs E 3)), (1, .ref (zb E + 0)), (2, .ref (zb E + 24)), (3, .int (iI ((6 * c : Nat) : Int)))] [] := by
  obtain ⟨hB, hM, t, mc, rc, pc, bc, ma, pa, Ls, r, rl, hO, hC, hb1, hb2⟩ := hI
  have hb5 := hO.2.1
  have hL5 := hC.2.2.2.2.2.2.2.2.2.1.2.2.1
  have hb3 : slots ≤ 1000000 := by split at hb2 <;> omega
  refine z_aload_n dL_law_280 rfl ?_
  refine z_aload_n dL_law_281 rfl ?_
  refine z_iload_n dL_law_282 rfl ?_
  refine z_iconst dL_law_283 ?_
  refine z_iadd dL_law_284 ?_
  refine z_sld 3 dL_law_285 (by decide) (by show 0 ≤ _ ∧ _ < ((zxL E : Nat) : Int); omega) (by omega) ?_
  refine z_topi (iI (aX E (6 * c + 1))) (aX_of (by omega)) ?_
  refine y_callV dL_law_286 kL_31 (c_X6_back hB hO hC (aX_rng E _)) (hB.lt (by decide)) (hB.2.1 0 (by decide)) rfl rfl rfl (Nat.le_of_ble_eq_true rfl) ⟨⟨Nat.le_of_ble_eq_true rfl, Nat.le_of_ble_eq_true rfl⟩, by show cells + 0 ≤ 600000; omega, by show slots + 0 ≤ 7302250; omega⟩ (fun v286 n286 sh286 I286 P286 hp286 => ?_)
  obtain ⟨rfl, ⟨hB1, hr1, h24⟩, hC1⟩ := hp286
  have hM1 := hM.nx hB1 h24
  have hO1 := hO.mv hr1
  generalize I286 = I1 at *
  refine z_aload_n dL_law_289 rfl ?_
  refine z_aload_n dL_law_290 rfl ?_
  refine z_iload_n dL_law_291 rfl ?_
  refine z_iconst dL_law_292 ?_
  refine z_iadd dL_law_293 ?_
  refine z_sld 3 dL_law_294 (by decide) (by show 0 ≤ _ ∧ _ < ((zxL E : Nat) : Int); omega) (by omega) ?_
  refine z_topi (iI (aX E (6 * c + 1))) (aX_of (by omega)) ?_
  refine y_callV dL_law_295 kL_35 (c_X7_back hM1 hO1.1.1 (by omega) hO1.1.2.2.2.1 (by omega) (fun i hi => by have := (hO1.2.2.2.1 i hi).2.2.2; omega) (aX_rng E _)) (hM1.lt (by decide)) (hM1.2.1 24 (by decide)) rfl rfl rfl (Nat.le_of_ble_eq_true rfl) ⟨⟨Nat.le_of_ble_eq_true rfl, Nat.le_of_ble_eq_true rfl⟩, by show cells + 0 + 0 ≤ 600000; omega, by show slots + 0 + 0 ≤ 7302250; omega⟩ (fun v295 n295 sh295 I295 P295 hp295 => ?_)
  obtain ⟨rfl, rfl, rfl, rfl, rfl⟩ := hp295
  refine z_same 869 dL_law_298 (by decide) (prv (F := fun J => iI (bI ((0 ≤ (aX E (6 * c + 1)) ∧ (aX E (6 * c + 1)) < (pc : Int)) ∧ J 37 ((aX E (6 * c + 1))).toNat = -1))) rfl hr1 rfl) ?_
  by_cases hk : (0 ≤ (aX E (6 * c + 1)) ∧ (aX E (6 * c + 1)) < (pc : Int)) ∧ I 37 ((aX E (6 * c + 1))).toNat = -1
  · have hk1 : (0 ≤ (aX E (6 * c + 1)) ∧ (aX E (6 * c + 1)) < (pc : Int)) ∧ I1 37 ((aX E (6 * c + 1))).toNat = -1 := by rw [hr1 37 (by omega) (by omega)]; exact hk
    rw [if_pos hk] at hC1
    rw [if_pos hk1]
    exact hout _ _ _ _ _ _ (LI.of (c := c + 1) hB1 hM1 ((hO.up hc).back) hC1 (fun a b h => by rw [zup_ne (by omega)]) ((((rgS.rf hr1).up _ _ _)).eq _) (by show cells + 0 + 0 ≤ _; omega) (by show slots + 0 + 0 ≤ _; omega))
  · have hk1 : ¬ ((0 ≤ (aX E (6 * c + 1)) ∧ (aX E (6 * c + 1)) < (pc : Int)) ∧ I1 37 ((aX E (6 * c + 1))).toNat = -1) := by rw [hr1 37 (by omega) (by omega)]; exact hk
    rw [if_neg hk] at hC1
    rw [if_neg hk1]
    exact hout _ _ _ _ _ _ (LI.of (c := c + 1) hB1 hM1 (hO.up hc) hC1 (fun _ _ _ => rfl) (((rgS.rf hr1)).eq _) (by show cells + 0 + 0 ≤ _; omega) (by show slots + 0 + 0 ≤ _; omega))
set_option maxHeartbeats 4000000 in
set_option maxRecDepth 100000 in
theorem lc_week (hI : LI n sh I P c cells slots) (h6 : 6 * c + 6 ≤ zxL E) (hc : c + 1 ≤ 512) (hout : ∀ n' sh' I' P' cells' slots', LI n' sh' I' P' (c + 1) cells' slots' → Z l E (jLw nm) room_1 (kLw E b) cells' slots' (zw E n' sh' I' P') 869 [(0, .ref (zs E 3)), (1, .ref (zb E + 0)), (2, .ref (zb E + 24)), (3, .int (iI ((6 * c : Nat) : Int)))] []) : Z l E (jLw nm) room_1 (kLw E b) cells slots (zw E n sh I P) 303 [(0, .ref (zs E 3)), (1, .ref (zb E + 0)), (2, .ref (zb E + 24)), (3, .int (iI ((6 * c : Nat) : Int)))] [] := by
  obtain ⟨hB, hM, t, mc, rc, pc, bc, ma, pa, Ls, r, rl, hO, hC, hb1, hb2⟩ := hI
  have hb5 := hO.2.1
  have hL5 := hC.2.2.2.2.2.2.2.2.2.1.2.2.1
  have hb3 : slots ≤ 1000000 := by split at hb2 <;> omega
  have hwS : (if (t < 300 ∧ (bc : Int) + dn2 I t rc pc mc ≤ 20000) then wkS rl (bc + (dn2 I t rc pc mc).toNat) else 0) ≤ 80000 := by
    split
    · rename_i hz
      unfold wkS
      split
      · have := wkL_ok hL5.1 hL5.2.1 hL5.2.2.1 (b := bc + (dn2 I t rc pc mc).toNat) (by omega)
        unfold wkL at this
        rw [if_pos (by assumption)] at this
        omega
      · omega
    · omega
  refine z_aload_n dL_law_303 rfl ?_
  refine y_callV dL_law_304 kL_36 (c_X6_week hB hO hC) (hB.lt (by decide)) (hB.2.1 0 (by decide)) rfl rfl rfl (Nat.le_of_ble_eq_true rfl) ⟨⟨Nat.le_of_ble_eq_true rfl, Nat.le_of_ble_eq_true rfl⟩, by show cells + 1 ≤ 600000; omega, by show slots + (if (t < 300 ∧ (bc : Int) + dn2 I t rc pc mc ≤ 20000) then wkS rl (bc + (dn2 I t rc pc mc).toNat) else 0) ≤ 7302250; omega⟩ (fun v304 n304 sh304 I304 P304 hp304 => ?_)
  obtain ⟨rfl, ⟨hB1, hr1, h24⟩, hC1⟩ := hp304
  have hM1 := hM.nx hB1 h24
  have hO1 := hO.mv hr1
  generalize I304 = I1 at *
  refine z_aload_n dL_law_307 rfl ?_
  refine y_callV dL_law_308 kL_40 (c_X7_week hM1 hO1.1.1 hO1.2.1.1 hO1.1.2.1 hO1.2.1.2.1 hO1.1.2.2.1 hO1.2.1.2.2.1 hO1.1.2.2.2.1 hO1.2.1.2.2.2.1 hO1.2.2.1.1 hO1.pap hO1.jo hO1.2.2.2.2.2.1.1 hO1.ps hO1.1.2.2.2.2 hO1.2.1.2.2.2.2.1 (fun i => by have := hO1.2.2.2.2.2.2.1.1 i; omega)) (hM1.lt (by decide)) (hM1.2.1 24 (by decide)) rfl rfl rfl (Nat.le_of_ble_eq_true rfl) ⟨⟨Nat.le_of_ble_eq_true rfl, Nat.le_of_ble_eq_true rfl⟩, by show cells + 1 + 0 ≤ 600000; omega, by show slots + (if (t < 300 ∧ (bc : Int) + dn2 I t rc pc mc ≤ 20000) then wkS rl (bc + (dn2 I t rc pc mc).toNat) else 0) + 0 ≤ 7302250; omega⟩ (fun v308 n308 sh308 I308 P308 hp308 => ?_)
  obtain ⟨rfl, rfl, rfl, rfl, hsc⟩ := hp308
  refine z_same 869 dL_law_311 (by decide) (by rw [dn2_rg hr1]) ?_
  by_cases hk : t < 300 ∧ (bc : Int) + dn2 I t rc pc mc ≤ 20000
  · have hk1 : t < 300 ∧ (bc : Int) + dn2 I1 t rc pc mc ≤ 20000 := by rw [dn2_rg hr1]; exact hk
    rw [if_pos hk, if_pos hk, if_pos hk, if_pos hk] at hC1
    rw [if_pos hk1] at hsc
    have hdr := dn2_rng I t rc pc mc
    have hws := wk_slots (b := bc + (dn2 I t rc pc mc).toNat) (c := c) hL5.1 hL5.2.1 (by omega) hb2
    have hn4 : mB2 I (t : Int) (dfm I t rc pc) mc (t + 1) 24 4 = ((bc + (dn2 I t rc pc mc).toNat : Nat) : Int) := by
      rw [mB2_n (by rw [hO.1.2.2.2.2]; omega), hO.1.2.2.2.2, show sm (fun w => bzm (dfm I t rc pc) w mc) (t + 1) = dn2 I t rc pc mc from sm_swap (fun w m => bI (¬ dfm I t rc pc m w = 0)) mc (t + 1)]
      omega
    exact hout _ _ _ _ _ _ (LI.of (c := c + 1) hB1 hM1 ((hO.up hc).books hk.1 (Nat.le_refl _) hn4 (by omega)) hC1 (fun a b h => (hsc.lo h).trans ((fun a b h => by rw [mWe_lo h]) a b h)) (((mWe_rg hr1 _ _ _ _)).sc hsc) (by show cells + 1 + 0 ≤ _; omega) (by show slots + (if (t < 300 ∧ (bc : Int) + dn2 I t rc pc mc ≤ 20000) then wkS rl (bc + (dn2 I t rc pc mc).toNat) else 0) + 0 ≤ _; rw [if_pos hk]; omega))
  · have hk1 : ¬ (t < 300 ∧ (bc : Int) + dn2 I1 t rc pc mc ≤ 20000) := by rw [dn2_rg hr1]; exact hk
    rw [if_neg hk, if_neg hk, if_neg hk, if_neg hk] at hC1
    rw [if_neg hk1] at hsc
    exact hout _ _ _ _ _ _ (LI.of (c := c + 1) hB1 hM1 (hO.up hc) hC1 (fun a b h => (hsc.lo h).trans ((fun _ _ _ => rfl) a b h)) (((rgS.rf hr1)).sc hsc) (by show cells + 1 + 0 ≤ _; omega) (by show slots + (if (t < 300 ∧ (bc : Int) + dn2 I t rc pc mc ≤ 20000) then wkS rl (bc + (dn2 I t rc pc mc).toNat) else 0) + 0 ≤ _; rw [if_neg hk]; omega))
set_option maxHeartbeats 4000000 in
set_option maxRecDepth 100000 in
theorem lc_table (hI : LI n sh I P c cells slots) (h6 : 6 * c + 6 ≤ zxL E) (hc : c + 1 ≤ 512) (hout : ∀ n' sh' I' P' cells' slots', LI n' sh' I' P' (c + 1) cells' slots' → Z l E (jLw nm) room_1 (kLw E b) cells' slots' (zw E n' sh' I' P') 869 [(0, .ref (zs E 3)), (1, .ref (zb E + 0)), (2, .ref (zb E + 24)), (3, .int (iI ((6 * c : Nat) : Int)))] []) : Z l E (jLw nm) room_1 (kLw E b) cells slots (zw E n sh I P) 316 [(0, .ref (zs E 3)), (1, .ref (zb E + 0)), (2, .ref (zb E + 24)), (3, .int (iI ((6 * c : Nat) : Int)))] [] := by
  obtain ⟨hB, hM, t, mc, rc, pc, bc, ma, pa, Ls, r, rl, hO, hC, hb1, hb2⟩ := hI
  have hb5 := hO.2.1
  have hL5 := hC.2.2.2.2.2.2.2.2.2.1.2.2.1
  have hb3 : slots ≤ 1000000 := by split at hb2 <;> omega
  refine z_aload_n dL_law_316 rfl ?_
  refine z_aload_n dL_law_317 rfl ?_
  refine z_iload_n dL_law_318 rfl ?_
  refine z_iconst dL_law_319 ?_
  refine z_iadd dL_law_320 ?_
  refine z_sld 3 dL_law_321 (by decide) (by show 0 ≤ _ ∧ _ < ((zxL E : Nat) : Int); omega) (by omega) ?_
  refine z_topi (iI (aX E (6 * c + 1))) (aX_of (by omega)) ?_
  refine z_aload_n dL_law_322 rfl ?_
  refine z_iload_n dL_law_323 rfl ?_
  refine z_iconst dL_law_324 ?_
  refine z_iadd dL_law_325 ?_
  refine z_sld 3 dL_law_326 (by decide) (by show 0 ≤ _ ∧ _ < ((zxL E : Nat) : Int); omega) (by omega) ?_
  refine z_topi (iI (aX E (6 * c + 2))) (aX_of (by omega)) ?_
  refine z_aload_n dL_law_327 rfl ?_
  refine z_iload_n dL_law_328 rfl ?_
  refine z_iconst dL_law_329 ?_
  refine z_iadd dL_law_330 ?_
  refine z_sld 3 dL_law_331 (by decide) (by show 0 ≤ _ ∧ _ < ((zxL E : Nat) : Int); omega) (by omega) ?_
  refine z_topi (iI (aX E (6 * c + 3))) (aX_of (by omega)) ?_
  refine y_callV dL_law_332 kL_41 (c_X6_table hB hO hC (aX_rng E _) (aX_rng E _) (aX_rng E _)) (hB.lt (by decide)) (hB.2.1 0 (by decide)) rfl rfl rfl (Nat.le_of_ble_eq_true rfl) ⟨⟨Nat.le_of_ble_eq_true rfl, Nat.le_of_ble_eq_true rfl⟩, by show cells + 0 ≤ 600000; omega, by show slots + 0 ≤ 7302250; omega⟩ (fun v332 n332 sh332 I332 P332 hp332 => ?_)
  obtain ⟨rfl, ⟨hB1, hr1, h24⟩, hC1⟩ := hp332
  have hM1 := hM.nx hB1 h24
  have hO1 := hO.mv hr1
  generalize I332 = I1 at *
  refine z_aload_n dL_law_335 rfl ?_
  refine z_aload_n dL_law_336 rfl ?_
  refine z_iload_n dL_law_337 rfl ?_
  refine z_iconst dL_law_338 ?_
  refine z_iadd dL_law_339 ?_
  refine z_sld 3 dL_law_340 (by decide) (by show 0 ≤ _ ∧ _ < ((zxL E : Nat) : Int); omega) (by omega) ?_
  refine z_topi (iI (aX E (6 * c + 1))) (aX_of (by omega)) ?_
  refine z_aload_n dL_law_341 rfl ?_
  refine z_iload_n dL_law_342 rfl ?_
  refine z_iconst dL_law_343 ?_
  refine z_iadd dL_law_344 ?_
  refine z_sld 3 dL_law_345 (by decide) (by show 0 ≤ _ ∧ _ < ((zxL E : Nat) : Int); omega) (by omega) ?_
  refine z_topi (iI (aX E (6 * c + 2))) (aX_of (by omega)) ?_
  refine z_aload_n dL_law_346 rfl ?_
  refine z_iload_n dL_law_347 rfl ?_
  refine z_iconst dL_law_348 ?_
  refine z_iadd dL_law_349 ?_
  refine z_sld 3 dL_law_350 (by decide) (by show 0 ≤ _ ∧ _ < ((zxL E : Nat) : Int); omega) (by omega) ?_
  refine z_topi (iI (aX E (6 * c + 3))) (aX_of (by omega)) ?_
  refine y_callV dL_law_351 kL_45 (c_X7_table hM1 (aX_rng E _) (aX_rng E _) (aX_rng E _)) (hM1.lt (by decide)) (hM1.2.1 24 (by decide)) rfl rfl rfl (Nat.le_of_ble_eq_true rfl) ⟨⟨Nat.le_of_ble_eq_true rfl, Nat.le_of_ble_eq_true rfl⟩, by show cells + 0 + 0 ≤ 600000; omega, by show slots + 0 + 0 ≤ 7302250; omega⟩ (fun v351 n351 sh351 I351 P351 hp351 => ?_)
  obtain ⟨rfl, rfl, rfl, rfl, rfl⟩ := hp351
  refine z_same 869 dL_law_354 (by decide) (rfl) ?_
  by_cases hk : (0 ≤ (aX E (6 * c + 1)) ∧ (aX E (6 * c + 1)) ≤ 99) ∧ (0 ≤ (aX E (6 * c + 2)) ∧ (aX E (6 * c + 2)) ≤ 1000) ∧ (0 ≤ (aX E (6 * c + 3)) ∧ (aX E (6 * c + 3)) ≤ 365)
  · rw [if_pos hk] at hC1
    rw [if_pos hk]
    exact hout _ _ _ _ _ _ (LI.of (c := c + 1) hB1 hM1 ((hO.up hc).table hk.2.1 hk.2.2) hC1 (fun a b h => by rw [zup_ne (by omega), zup_ne (by omega)]) (((((rgS.rf hr1).up _ _ _).up _ _ _)).eq _) (by show cells + 0 + 0 ≤ _; omega) (by show slots + 0 + 0 ≤ _; omega))
  · rw [if_neg hk] at hC1
    rw [if_neg hk]
    exact hout _ _ _ _ _ _ (LI.of (c := c + 1) hB1 hM1 (hO.up hc) hC1 (fun _ _ _ => rfl) (((rgS.rf hr1)).eq _) (by show cells + 0 + 0 ≤ _; omega) (by show slots + 0 + 0 ≤ _; omega))
set_option maxHeartbeats 4000000 in
set_option maxRecDepth 100000 in
theorem lc_force (hI : LI n sh I P c cells slots) (h6 : 6 * c + 6 ≤ zxL E) (hc : c + 1 ≤ 512) (hout : ∀ n' sh' I' P' cells' slots', LI n' sh' I' P' (c + 1) cells' slots' → Z l E (jLw nm) room_1 (kLw E b) cells' slots' (zw E n' sh' I' P') 869 [(0, .ref (zs E 3)), (1, .ref (zb E + 0)), (2, .ref (zb E + 24)), (3, .int (iI ((6 * c : Nat) : Int)))] []) : Z l E (jLw nm) room_1 (kLw E b) cells slots (zw E n sh I P) 359 [(0, .ref (zs E 3)), (1, .ref (zb E + 0)), (2, .ref (zb E + 24)), (3, .int (iI ((6 * c : Nat) : Int)))] [] := by
  obtain ⟨hB, hM, t, mc, rc, pc, bc, ma, pa, Ls, r, rl, hO, hC, hb1, hb2⟩ := hI
  have hb5 := hO.2.1
  have hL5 := hC.2.2.2.2.2.2.2.2.2.1.2.2.1
  have hb3 : slots ≤ 1000000 := by split at hb2 <;> omega
  refine z_aload_n dL_law_359 rfl ?_
  refine z_aload_n dL_law_360 rfl ?_
  refine z_iload_n dL_law_361 rfl ?_
  refine z_iconst dL_law_362 ?_
  refine z_iadd dL_law_363 ?_
  refine z_sld 3 dL_law_364 (by decide) (by show 0 ≤ _ ∧ _ < ((zxL E : Nat) : Int); omega) (by omega) ?_
  refine z_topi (iI (aX E (6 * c + 1))) (aX_of (by omega)) ?_
  refine z_aload_n dL_law_365 rfl ?_
  refine z_iload_n dL_law_366 rfl ?_
  refine z_iconst dL_law_367 ?_
  refine z_iadd dL_law_368 ?_
  refine z_sld 3 dL_law_369 (by decide) (by show 0 ≤ _ ∧ _ < ((zxL E : Nat) : Int); omega) (by omega) ?_
  refine z_topi (iI (aX E (6 * c + 2))) (aX_of (by omega)) ?_
  refine z_aload_n dL_law_370 rfl ?_
  refine z_iload_n dL_law_371 rfl ?_
  refine z_iconst dL_law_372 ?_
  refine z_iadd dL_law_373 ?_
  refine z_sld 3 dL_law_374 (by decide) (by show 0 ≤ _ ∧ _ < ((zxL E : Nat) : Int); omega) (by omega) ?_
  refine z_topi (iI (aX E (6 * c + 3))) (aX_of (by omega)) ?_
  refine y_callV dL_law_375 kL_46 (c_X6_force hB hO hC (aX_rng E _) (aX_rng E _) (aX_rng E _)) (hB.lt (by decide)) (hB.2.1 0 (by decide)) rfl rfl rfl (Nat.le_of_ble_eq_true rfl) ⟨⟨Nat.le_of_ble_eq_true rfl, Nat.le_of_ble_eq_true rfl⟩, by show cells + 0 ≤ 600000; omega, by show slots + 0 ≤ 7302250; omega⟩ (fun v375 n375 sh375 I375 P375 hp375 => ?_)
  obtain ⟨rfl, ⟨hB1, hr1, h24⟩, hC1⟩ := hp375
  have hM1 := hM.nx hB1 h24
  have hO1 := hO.mv hr1
  generalize I375 = I1 at *
  refine z_aload_n dL_law_378 rfl ?_
  refine z_aload_n dL_law_379 rfl ?_
  refine z_iload_n dL_law_380 rfl ?_
  refine z_iconst dL_law_381 ?_
  refine z_iadd dL_law_382 ?_
  refine z_sld 3 dL_law_383 (by decide) (by show 0 ≤ _ ∧ _ < ((zxL E : Nat) : Int); omega) (by omega) ?_
  refine z_topi (iI (aX E (6 * c + 1))) (aX_of (by omega)) ?_
  refine z_aload_n dL_law_384 rfl ?_
  refine z_iload_n dL_law_385 rfl ?_
  refine z_iconst dL_law_386 ?_
  refine z_iadd dL_law_387 ?_
  refine z_sld 3 dL_law_388 (by decide) (by show 0 ≤ _ ∧ _ < ((zxL E : Nat) : Int); omega) (by omega) ?_
  refine z_topi (iI (aX E (6 * c + 2))) (aX_of (by omega)) ?_
  refine z_aload_n dL_law_389 rfl ?_
  refine z_iload_n dL_law_390 rfl ?_
  refine z_iconst dL_law_391 ?_
  refine z_iadd dL_law_392 ?_
  refine z_sld 3 dL_law_393 (by decide) (by show 0 ≤ _ ∧ _ < ((zxL E : Nat) : Int); omega) (by omega) ?_
  refine z_topi (iI (aX E (6 * c + 3))) (aX_of (by omega)) ?_
  refine y_callV dL_law_394 kL_49 (c_X7_force hM1 hO1.1.1 (by omega) hO1.1.2.2.1 (by omega) hO1.2.2.1.1 (aX_rng E _) (aX_rng E _) (aX_rng E _)) (hM1.lt (by decide)) (hM1.2.1 24 (by decide)) rfl rfl rfl (Nat.le_of_ble_eq_true rfl) ⟨⟨Nat.le_of_ble_eq_true rfl, Nat.le_of_ble_eq_true rfl⟩, by show cells + 0 + 0 ≤ 600000; omega, by show slots + 0 + 0 ≤ 7302250; omega⟩ (fun v394 n394 sh394 I394 P394 hp394 => ?_)
  obtain ⟨rfl, rfl, rfl, rfl, rfl⟩ := hp394
  refine z_same 869 dL_law_397 (by decide) (prv (F := fun J => iI (if ((0 ≤ (aX E (6 * c + 1)) ∧ (aX E (6 * c + 1)) ≤ 6) ∧ (0 ≤ (aX E (6 * c + 2)) ∧ (aX E (6 * c + 2)) ≤ 1000) ∧ (0 ≤ (aX E (6 * c + 3)) ∧ (aX E (6 * c + 3)) ≤ (t : Int))) then (sFI J 29 ((aX E (6 * c + 1))).toNat (aX E (6 * c + 2)) (aX E (6 * c + 3)) rc).2 else -1)) rfl hr1 rfl) ?_
  exact hout _ _ _ _ _ _ (LI.of (c := c + 1) hB1 hM1 (hO.up hc) hC1 (fun _ _ _ => rfl) (((rgS.rf hr1)).eq _) (by show cells + 0 + 0 ≤ _; omega) (by show slots + 0 + 0 ≤ _; omega))
set_option maxHeartbeats 4000000 in
set_option maxRecDepth 100000 in
theorem lc_grant (hI : LI n sh I P c cells slots) (h6 : 6 * c + 6 ≤ zxL E) (hc : c + 1 ≤ 512) (hout : ∀ n' sh' I' P' cells' slots', LI n' sh' I' P' (c + 1) cells' slots' → Z l E (jLw nm) room_1 (kLw E b) cells' slots' (zw E n' sh' I' P') 869 [(0, .ref (zs E 3)), (1, .ref (zb E + 0)), (2, .ref (zb E + 24)), (3, .int (iI ((6 * c : Nat) : Int)))] []) : Z l E (jLw nm) room_1 (kLw E b) cells slots (zw E n sh I P) 402 [(0, .ref (zs E 3)), (1, .ref (zb E + 0)), (2, .ref (zb E + 24)), (3, .int (iI ((6 * c : Nat) : Int)))] [] := by
  obtain ⟨hB, hM, t, mc, rc, pc, bc, ma, pa, Ls, r, rl, hO, hC, hb1, hb2⟩ := hI
  have hb5 := hO.2.1
  have hL5 := hC.2.2.2.2.2.2.2.2.2.1.2.2.1
  have hb3 : slots ≤ 1000000 := by split at hb2 <;> omega
  refine z_aload_n dL_law_402 rfl ?_
  refine z_aload_n dL_law_403 rfl ?_
  refine z_iload_n dL_law_404 rfl ?_
  refine z_iconst dL_law_405 ?_
  refine z_iadd dL_law_406 ?_
  refine z_sld 3 dL_law_407 (by decide) (by show 0 ≤ _ ∧ _ < ((zxL E : Nat) : Int); omega) (by omega) ?_
  refine z_topi (iI (aX E (6 * c + 1))) (aX_of (by omega)) ?_
  refine z_aload_n dL_law_408 rfl ?_
  refine z_iload_n dL_law_409 rfl ?_
  refine z_iconst dL_law_410 ?_
  refine z_iadd dL_law_411 ?_
  refine z_sld 3 dL_law_412 (by decide) (by show 0 ≤ _ ∧ _ < ((zxL E : Nat) : Int); omega) (by omega) ?_
  refine z_topi (iI (aX E (6 * c + 2))) (aX_of (by omega)) ?_
  refine z_aload_n dL_law_413 rfl ?_
  refine z_iload_n dL_law_414 rfl ?_
  refine z_iconst dL_law_415 ?_
  refine z_iadd dL_law_416 ?_
  refine z_sld 3 dL_law_417 (by decide) (by show 0 ≤ _ ∧ _ < ((zxL E : Nat) : Int); omega) (by omega) ?_
  refine z_topi (iI (aX E (6 * c + 3))) (aX_of (by omega)) ?_
  refine y_callV dL_law_418 kL_50 (c_X6_grant hB hO hC (aX_rng E _) (aX_rng E _) (aX_rng E _)) (hB.lt (by decide)) (hB.2.1 0 (by decide)) rfl rfl rfl (Nat.le_of_ble_eq_true rfl) ⟨⟨Nat.le_of_ble_eq_true rfl, Nat.le_of_ble_eq_true rfl⟩, by show cells + 0 ≤ 600000; omega, by show slots + 0 ≤ 7302250; omega⟩ (fun v418 n418 sh418 I418 P418 hp418 => ?_)
  obtain ⟨rfl, ⟨hB1, hr1, h24⟩, hC1⟩ := hp418
  have hM1 := hM.nx hB1 h24
  have hO1 := hO.mv hr1
  generalize I418 = I1 at *
  refine z_aload_n dL_law_421 rfl ?_
  refine z_aload_n dL_law_422 rfl ?_
  refine z_iload_n dL_law_423 rfl ?_
  refine z_iconst dL_law_424 ?_
  refine z_iadd dL_law_425 ?_
  refine z_sld 3 dL_law_426 (by decide) (by show 0 ≤ _ ∧ _ < ((zxL E : Nat) : Int); omega) (by omega) ?_
  refine z_topi (iI (aX E (6 * c + 1))) (aX_of (by omega)) ?_
  refine z_aload_n dL_law_427 rfl ?_
  refine z_iload_n dL_law_428 rfl ?_
  refine z_iconst dL_law_429 ?_
  refine z_iadd dL_law_430 ?_
  refine z_sld 3 dL_law_431 (by decide) (by show 0 ≤ _ ∧ _ < ((zxL E : Nat) : Int); omega) (by omega) ?_
  refine z_topi (iI (aX E (6 * c + 2))) (aX_of (by omega)) ?_
  refine z_aload_n dL_law_432 rfl ?_
  refine z_iload_n dL_law_433 rfl ?_
  refine z_iconst dL_law_434 ?_
  refine z_iadd dL_law_435 ?_
  refine z_sld 3 dL_law_436 (by decide) (by show 0 ≤ _ ∧ _ < ((zxL E : Nat) : Int); omega) (by omega) ?_
  refine z_topi (iI (aX E (6 * c + 3))) (aX_of (by omega)) ?_
  refine y_callV dL_law_437 kL_53 (c_X7_grant hM1 hO1.1.1 hO1.2.1.1 hO1.1.2.1 hO1.2.1.2.1 hO1.1.2.2.1 hO1.2.1.2.2.1 hO1.1.2.2.2.1 hO1.2.1.2.2.2.1 hO1.2.2.1.1 hO1.pap hO1.jo hO1.2.2.2.2.2.1.1 hO1.ps (aX_rng E _) (aX_rng E _) (aX_rng E _)) (hM1.lt (by decide)) (hM1.2.1 24 (by decide)) rfl rfl rfl (Nat.le_of_ble_eq_true rfl) ⟨⟨Nat.le_of_ble_eq_true rfl, Nat.le_of_ble_eq_true rfl⟩, by show cells + 0 + 0 ≤ 600000; omega, by show slots + 0 + 0 ≤ 7302250; omega⟩ (fun v437 n437 sh437 I437 P437 hp437 => ?_)
  obtain ⟨rfl, rfl, rfl, rfl, hsc⟩ := hp437
  refine z_same 869 dL_law_440 (by decide) (prv (F := fun J => iI (if ((0 ≤ (aX E (6 * c + 1)) ∧ (aX E (6 * c + 1)) < (mc : Int)) ∧ (0 ≤ (aX E (6 * c + 2)) ∧ (aX E (6 * c + 2)) ≤ (t : Int)) ∧ (0 ≤ (aX E (6 * c + 3)) ∧ (aX E (6 * c + 3)) ≤ (t : Int))) then GRm J ((aX E (6 * c + 1))).toNat ((aX E (6 * c + 3))).toNat pc rc ((aX E (6 * c + 2))).toNat (7 * t + 7) else -1)) rfl hr1 rfl) ?_
  exact hout _ _ _ _ _ _ (LI.of (c := c + 1) hB1 hM1 (hO.up hc) hC1 (fun a b h => (hsc.lo h).trans ((fun _ _ _ => rfl) a b h)) (((rgS.rf hr1)).sc hsc) (by show cells + 0 + 0 ≤ _; omega) (by show slots + 0 + 0 ≤ _; omega))
set_option maxHeartbeats 4000000 in
set_option maxRecDepth 100000 in
theorem lc_day (hI : LI n sh I P c cells slots) (h6 : 6 * c + 6 ≤ zxL E) (hc : c + 1 ≤ 512) (hout : ∀ n' sh' I' P' cells' slots', LI n' sh' I' P' (c + 1) cells' slots' → Z l E (jLw nm) room_1 (kLw E b) cells' slots' (zw E n' sh' I' P') 869 [(0, .ref (zs E 3)), (1, .ref (zb E + 0)), (2, .ref (zb E + 24)), (3, .int (iI ((6 * c : Nat) : Int)))] []) : Z l E (jLw nm) room_1 (kLw E b) cells slots (zw E n sh I P) 445 [(0, .ref (zs E 3)), (1, .ref (zb E + 0)), (2, .ref (zb E + 24)), (3, .int (iI ((6 * c : Nat) : Int)))] [] := by
  obtain ⟨hB, hM, t, mc, rc, pc, bc, ma, pa, Ls, r, rl, hO, hC, hb1, hb2⟩ := hI
  have hb5 := hO.2.1
  have hL5 := hC.2.2.2.2.2.2.2.2.2.1.2.2.1
  have hb3 : slots ≤ 1000000 := by split at hb2 <;> omega
  refine z_aload_n dL_law_445 rfl ?_
  refine z_aload_n dL_law_446 rfl ?_
  refine z_iload_n dL_law_447 rfl ?_
  refine z_iconst dL_law_448 ?_
  refine z_iadd dL_law_449 ?_
  refine z_sld 3 dL_law_450 (by decide) (by show 0 ≤ _ ∧ _ < ((zxL E : Nat) : Int); omega) (by omega) ?_
  refine z_topi (iI (aX E (6 * c + 1))) (aX_of (by omega)) ?_
  refine z_aload_n dL_law_451 rfl ?_
  refine z_iload_n dL_law_452 rfl ?_
  refine z_iconst dL_law_453 ?_
  refine z_iadd dL_law_454 ?_
  refine z_sld 3 dL_law_455 (by decide) (by show 0 ≤ _ ∧ _ < ((zxL E : Nat) : Int); omega) (by omega) ?_
  refine z_topi (iI (aX E (6 * c + 2))) (aX_of (by omega)) ?_
  refine z_aload_n dL_law_456 rfl ?_
  refine z_iload_n dL_law_457 rfl ?_
  refine z_iconst dL_law_458 ?_
  refine z_iadd dL_law_459 ?_
  refine z_sld 3 dL_law_460 (by decide) (by show 0 ≤ _ ∧ _ < ((zxL E : Nat) : Int); omega) (by omega) ?_
  refine z_topi (iI (aX E (6 * c + 3))) (aX_of (by omega)) ?_
  refine y_callV dL_law_461 kL_54 (c_X6_day hB hO hC (aX_rng E _) (aX_rng E _) (aX_rng E _)) (hB.lt (by decide)) (hB.2.1 0 (by decide)) rfl rfl rfl (Nat.le_of_ble_eq_true rfl) ⟨⟨Nat.le_of_ble_eq_true rfl, Nat.le_of_ble_eq_true rfl⟩, by show cells + 0 ≤ 600000; omega, by show slots + 0 ≤ 7302250; omega⟩ (fun v461 n461 sh461 I461 P461 hp461 => ?_)
  obtain ⟨rfl, ⟨hB1, hr1, h24⟩, hC1⟩ := hp461
  have hM1 := hM.nx hB1 h24
  have hO1 := hO.mv hr1
  generalize I461 = I1 at *
  refine z_aload_n dL_law_464 rfl ?_
  refine z_aload_n dL_law_465 rfl ?_
  refine z_iload_n dL_law_466 rfl ?_
  refine z_iconst dL_law_467 ?_
  refine z_iadd dL_law_468 ?_
  refine z_sld 3 dL_law_469 (by decide) (by show 0 ≤ _ ∧ _ < ((zxL E : Nat) : Int); omega) (by omega) ?_
  refine z_topi (iI (aX E (6 * c + 1))) (aX_of (by omega)) ?_
  refine z_aload_n dL_law_470 rfl ?_
  refine z_iload_n dL_law_471 rfl ?_
  refine z_iconst dL_law_472 ?_
  refine z_iadd dL_law_473 ?_
  refine z_sld 3 dL_law_474 (by decide) (by show 0 ≤ _ ∧ _ < ((zxL E : Nat) : Int); omega) (by omega) ?_
  refine z_topi (iI (aX E (6 * c + 2))) (aX_of (by omega)) ?_
  refine z_aload_n dL_law_475 rfl ?_
  refine z_iload_n dL_law_476 rfl ?_
  refine z_iconst dL_law_477 ?_
  refine z_iadd dL_law_478 ?_
  refine z_sld 3 dL_law_479 (by decide) (by show 0 ≤ _ ∧ _ < ((zxL E : Nat) : Int); omega) (by omega) ?_
  refine z_topi (iI (aX E (6 * c + 3))) (aX_of (by omega)) ?_
  refine y_callV dL_law_480 kL_57 (c_X7_day hM1 hO1.1.1 hO1.2.1.1 hO1.1.2.1 hO1.2.1.2.1 hO1.1.2.2.1 hO1.2.1.2.2.1 hO1.1.2.2.2.1 hO1.2.1.2.2.2.1 hO1.2.2.1.1 hO1.pap hO1.jo hO1.2.2.2.2.2.1.1 hO1.ps (aX_rng E _) (aX_rng E _) (aX_rng E _)) (hM1.lt (by decide)) (hM1.2.1 24 (by decide)) rfl rfl rfl (Nat.le_of_ble_eq_true rfl) ⟨⟨Nat.le_of_ble_eq_true rfl, Nat.le_of_ble_eq_true rfl⟩, by show cells + 0 + 0 ≤ 600000; omega, by show slots + 0 + 0 ≤ 7302250; omega⟩ (fun v480 n480 sh480 I480 P480 hp480 => ?_)
  obtain ⟨rfl, rfl, rfl, rfl, hsc⟩ := hp480
  refine z_same 869 dL_law_483 (by decide) (prv (F := fun J => iI (if ((0 ≤ (aX E (6 * c + 1)) ∧ (aX E (6 * c + 1)) < (mc : Int)) ∧ (0 ≤ (aX E (6 * c + 2)) ∧ (aX E (6 * c + 2)) ≤ 7 * (t : Int) + 6) ∧ (0 ≤ (aX E (6 * c + 3)) ∧ (aX E (6 * c + 3)) ≤ (t : Int))) then WHm J ((aX E (6 * c + 1))).toNat ((aX E (6 * c + 3))).toNat pc rc ((aX E (6 * c + 2))).toNat else -1)) rfl hr1 rfl) ?_
  exact hout _ _ _ _ _ _ (LI.of (c := c + 1) hB1 hM1 (hO.up hc) hC1 (fun a b h => (hsc.lo h).trans ((fun _ _ _ => rfl) a b h)) (((rgS.rf hr1)).sc hsc) (by show cells + 0 + 0 ≤ _; omega) (by show slots + 0 + 0 ≤ _; omega))
set_option maxHeartbeats 4000000 in
set_option maxRecDepth 100000 in
theorem lc_arrears (hI : LI n sh I P c cells slots) (h6 : 6 * c + 6 ≤ zxL E) (hc : c + 1 ≤ 512) (hout : ∀ n' sh' I' P' cells' slots', LI n' sh' I' P' (c + 1) cells' slots' → Z l E (jLw nm) room_1 (kLw E b) cells' slots' (zw E n' sh' I' P') 869 [(0, .ref (zs E 3)), (1, .ref (zb E + 0)), (2, .ref (zb E + 24)), (3, .int (iI ((6 * c : Nat) : Int)))] []) : Z l E (jLw nm) room_1 (kLw E b) cells slots (zw E n sh I P) 488 [(0, .ref (zs E 3)), (1, .ref (zb E + 0)), (2, .ref (zb E + 24)), (3, .int (iI ((6 * c : Nat) : Int)))] [] := by
  obtain ⟨hB, hM, t, mc, rc, pc, bc, ma, pa, Ls, r, rl, hO, hC, hb1, hb2⟩ := hI
  have hb5 := hO.2.1
  have hL5 := hC.2.2.2.2.2.2.2.2.2.1.2.2.1
  have hb3 : slots ≤ 1000000 := by split at hb2 <;> omega
  refine z_aload_n dL_law_488 rfl ?_
  refine z_aload_n dL_law_489 rfl ?_
  refine z_iload_n dL_law_490 rfl ?_
  refine z_iconst dL_law_491 ?_
  refine z_iadd dL_law_492 ?_
  refine z_sld 3 dL_law_493 (by decide) (by show 0 ≤ _ ∧ _ < ((zxL E : Nat) : Int); omega) (by omega) ?_
  refine z_topi (iI (aX E (6 * c + 1))) (aX_of (by omega)) ?_
  refine z_aload_n dL_law_494 rfl ?_
  refine z_iload_n dL_law_495 rfl ?_
  refine z_iconst dL_law_496 ?_
  refine z_iadd dL_law_497 ?_
  refine z_sld 3 dL_law_498 (by decide) (by show 0 ≤ _ ∧ _ < ((zxL E : Nat) : Int); omega) (by omega) ?_
  refine z_topi (iI (aX E (6 * c + 2))) (aX_of (by omega)) ?_
  refine z_aload_n dL_law_499 rfl ?_
  refine z_iload_n dL_law_500 rfl ?_
  refine z_iconst dL_law_501 ?_
  refine z_iadd dL_law_502 ?_
  refine z_sld 3 dL_law_503 (by decide) (by show 0 ≤ _ ∧ _ < ((zxL E : Nat) : Int); omega) (by omega) ?_
  refine z_topi (iI (aX E (6 * c + 3))) (aX_of (by omega)) ?_
  refine y_callV dL_law_504 kL_58 (c_X6_arrears hB hO hC (aX_rng E _) (aX_rng E _) (aX_rng E _)) (hB.lt (by decide)) (hB.2.1 0 (by decide)) rfl rfl rfl (Nat.le_of_ble_eq_true rfl) ⟨⟨Nat.le_of_ble_eq_true rfl, Nat.le_of_ble_eq_true rfl⟩, by show cells + 0 ≤ 600000; omega, by show slots + 0 ≤ 7302250; omega⟩ (fun v504 n504 sh504 I504 P504 hp504 => ?_)
  obtain ⟨rfl, ⟨hB1, hr1, h24⟩, hC1⟩ := hp504
  have hM1 := hM.nx hB1 h24
  have hO1 := hO.mv hr1
  generalize I504 = I1 at *
  refine z_aload_n dL_law_507 rfl ?_
  refine z_aload_n dL_law_508 rfl ?_
  refine z_iload_n dL_law_509 rfl ?_
  refine z_iconst dL_law_510 ?_
  refine z_iadd dL_law_511 ?_
  refine z_sld 3 dL_law_512 (by decide) (by show 0 ≤ _ ∧ _ < ((zxL E : Nat) : Int); omega) (by omega) ?_
  refine z_topi (iI (aX E (6 * c + 1))) (aX_of (by omega)) ?_
  refine z_aload_n dL_law_513 rfl ?_
  refine z_iload_n dL_law_514 rfl ?_
  refine z_iconst dL_law_515 ?_
  refine z_iadd dL_law_516 ?_
  refine z_sld 3 dL_law_517 (by decide) (by show 0 ≤ _ ∧ _ < ((zxL E : Nat) : Int); omega) (by omega) ?_
  refine z_topi (iI (aX E (6 * c + 2))) (aX_of (by omega)) ?_
  refine z_aload_n dL_law_518 rfl ?_
  refine z_iload_n dL_law_519 rfl ?_
  refine z_iconst dL_law_520 ?_
  refine z_iadd dL_law_521 ?_
  refine z_sld 3 dL_law_522 (by decide) (by show 0 ≤ _ ∧ _ < ((zxL E : Nat) : Int); omega) (by omega) ?_
  refine z_topi (iI (aX E (6 * c + 3))) (aX_of (by omega)) ?_
  refine y_callV dL_law_523 kL_61 (c_X7_arrears hM1 hO1.1.1 hO1.2.1.1 hO1.1.2.1 hO1.2.1.2.1 hO1.1.2.2.1 hO1.2.1.2.2.1 hO1.1.2.2.2.1 hO1.2.1.2.2.2.1 hO1.2.2.1.1 hO1.pap hO1.jo hO1.2.2.2.2.2.1.1 hO1.ps (aX_rng E _) (aX_rng E _) (aX_rng E _)) (hM1.lt (by decide)) (hM1.2.1 24 (by decide)) rfl rfl rfl (Nat.le_of_ble_eq_true rfl) ⟨⟨Nat.le_of_ble_eq_true rfl, Nat.le_of_ble_eq_true rfl⟩, by show cells + 0 + 0 ≤ 600000; omega, by show slots + 0 + 0 ≤ 7302250; omega⟩ (fun v523 n523 sh523 I523 P523 hp523 => ?_)
  obtain ⟨rfl, rfl, rfl, rfl, hsc⟩ := hp523
  refine z_same 869 dL_law_526 (by decide) (prv (F := fun J => iI (if ((0 ≤ (aX E (6 * c + 1)) ∧ (aX E (6 * c + 1)) < (mc : Int)) ∧ (0 ≤ (aX E (6 * c + 2)) ∧ (aX E (6 * c + 2)) ≤ (t : Int)) ∧ (0 ≤ (aX E (6 * c + 3)) ∧ (aX E (6 * c + 3)) ≤ (t : Int))) then arr (vF J (((aX E (6 * c + 3))).toNat : Nat) rc 0) (pd J ((aX E (6 * c + 1))).toNat) (jn J ((aX E (6 * c + 1))).toNat) ((aX E (6 * c + 2))).toNat ((aX E (6 * c + 3))).toNat else -1000000)) rfl hr1 rfl) ?_
  exact hout _ _ _ _ _ _ (LI.of (c := c + 1) hB1 hM1 (hO.up hc) hC1 (fun a b h => (hsc.lo h).trans ((fun _ _ _ => rfl) a b h)) (((rgS.rf hr1)).sc hsc) (by show cells + 0 + 0 ≤ _; omega) (by show slots + 0 + 0 ≤ _; omega))
set_option maxHeartbeats 4000000 in
set_option maxRecDepth 100000 in
theorem lc_out (hI : LI n sh I P c cells slots) (h6 : 6 * c + 6 ≤ zxL E) (hc : c + 1 ≤ 512) (hout : ∀ n' sh' I' P' cells' slots', LI n' sh' I' P' (c + 1) cells' slots' → Z l E (jLw nm) room_1 (kLw E b) cells' slots' (zw E n' sh' I' P') 869 [(0, .ref (zs E 3)), (1, .ref (zb E + 0)), (2, .ref (zb E + 24)), (3, .int (iI ((6 * c : Nat) : Int)))] []) : Z l E (jLw nm) room_1 (kLw E b) cells slots (zw E n sh I P) 531 [(0, .ref (zs E 3)), (1, .ref (zb E + 0)), (2, .ref (zb E + 24)), (3, .int (iI ((6 * c : Nat) : Int)))] [] := by
  obtain ⟨hB, hM, t, mc, rc, pc, bc, ma, pa, Ls, r, rl, hO, hC, hb1, hb2⟩ := hI
  have hb5 := hO.2.1
  have hL5 := hC.2.2.2.2.2.2.2.2.2.1.2.2.1
  have hb3 : slots ≤ 1000000 := by split at hb2 <;> omega
  refine z_aload_n dL_law_531 rfl ?_
  refine z_aload_n dL_law_532 rfl ?_
  refine z_iload_n dL_law_533 rfl ?_
  refine z_iconst dL_law_534 ?_
  refine z_iadd dL_law_535 ?_
  refine z_sld 3 dL_law_536 (by decide) (by show 0 ≤ _ ∧ _ < ((zxL E : Nat) : Int); omega) (by omega) ?_
  refine z_topi (iI (aX E (6 * c + 1))) (aX_of (by omega)) ?_
  refine z_aload_n dL_law_537 rfl ?_
  refine z_iload_n dL_law_538 rfl ?_
  refine z_iconst dL_law_539 ?_
  refine z_iadd dL_law_540 ?_
  refine z_sld 3 dL_law_541 (by decide) (by show 0 ≤ _ ∧ _ < ((zxL E : Nat) : Int); omega) (by omega) ?_
  refine z_topi (iI (aX E (6 * c + 2))) (aX_of (by omega)) ?_
  refine z_aload_n dL_law_542 rfl ?_
  refine z_iload_n dL_law_543 rfl ?_
  refine z_iconst dL_law_544 ?_
  refine z_iadd dL_law_545 ?_
  refine z_sld 3 dL_law_546 (by decide) (by show 0 ≤ _ ∧ _ < ((zxL E : Nat) : Int); omega) (by omega) ?_
  refine z_topi (iI (aX E (6 * c + 3))) (aX_of (by omega)) ?_
  refine y_callV dL_law_547 kL_62 (c_X6_out hB hO hC (aX_rng E _) (aX_rng E _) (aX_rng E _)) (hB.lt (by decide)) (hB.2.1 0 (by decide)) rfl rfl rfl (Nat.le_of_ble_eq_true rfl) ⟨⟨Nat.le_of_ble_eq_true rfl, Nat.le_of_ble_eq_true rfl⟩, by show cells + 0 ≤ 600000; omega, by show slots + 0 ≤ 7302250; omega⟩ (fun v547 n547 sh547 I547 P547 hp547 => ?_)
  obtain ⟨rfl, ⟨hB1, hr1, h24⟩, hC1⟩ := hp547
  have hM1 := hM.nx hB1 h24
  have hO1 := hO.mv hr1
  generalize I547 = I1 at *
  refine z_aload_n dL_law_550 rfl ?_
  refine z_aload_n dL_law_551 rfl ?_
  refine z_iload_n dL_law_552 rfl ?_
  refine z_iconst dL_law_553 ?_
  refine z_iadd dL_law_554 ?_
  refine z_sld 3 dL_law_555 (by decide) (by show 0 ≤ _ ∧ _ < ((zxL E : Nat) : Int); omega) (by omega) ?_
  refine z_topi (iI (aX E (6 * c + 1))) (aX_of (by omega)) ?_
  refine z_aload_n dL_law_556 rfl ?_
  refine z_iload_n dL_law_557 rfl ?_
  refine z_iconst dL_law_558 ?_
  refine z_iadd dL_law_559 ?_
  refine z_sld 3 dL_law_560 (by decide) (by show 0 ≤ _ ∧ _ < ((zxL E : Nat) : Int); omega) (by omega) ?_
  refine z_topi (iI (aX E (6 * c + 2))) (aX_of (by omega)) ?_
  refine z_aload_n dL_law_561 rfl ?_
  refine z_iload_n dL_law_562 rfl ?_
  refine z_iconst dL_law_563 ?_
  refine z_iadd dL_law_564 ?_
  refine z_sld 3 dL_law_565 (by decide) (by show 0 ≤ _ ∧ _ < ((zxL E : Nat) : Int); omega) (by omega) ?_
  refine z_topi (iI (aX E (6 * c + 3))) (aX_of (by omega)) ?_
  refine y_callV dL_law_566 kL_65 (c_X7_out hM1 hO1.1.1 hO1.2.1.1 hO1.1.2.1 hO1.2.1.2.1 hO1.1.2.2.1 hO1.2.1.2.2.1 hO1.1.2.2.2.1 hO1.2.1.2.2.2.1 hO1.2.2.1.1 hO1.pap hO1.jo hO1.2.2.2.2.2.1.1 hO1.ps (aX_rng E _) (aX_rng E _) (aX_rng E _)) (hM1.lt (by decide)) (hM1.2.1 24 (by decide)) rfl rfl rfl (Nat.le_of_ble_eq_true rfl) ⟨⟨Nat.le_of_ble_eq_true rfl, Nat.le_of_ble_eq_true rfl⟩, by show cells + 0 + 0 ≤ 600000; omega, by show slots + 0 + 0 ≤ 7302250; omega⟩ (fun v566 n566 sh566 I566 P566 hp566 => ?_)
  obtain ⟨rfl, rfl, rfl, rfl, hsc⟩ := hp566
  refine z_same 869 dL_law_569 (by decide) (prv (F := fun J => iI (bI (((0 ≤ (aX E (6 * c + 1)) ∧ (aX E (6 * c + 1)) < (mc : Int)) ∧ (0 ≤ (aX E (6 * c + 2)) ∧ (aX E (6 * c + 2)) ≤ (t : Int)) ∧ (0 ≤ (aX E (6 * c + 3)) ∧ (aX E (6 * c + 3)) ≤ (t : Int))) ∧ outB (vF J (((aX E (6 * c + 3))).toNat : Nat) rc) (pd J ((aX E (6 * c + 1))).toNat) (jn J ((aX E (6 * c + 1))).toNat) ((aX E (6 * c + 3))).toNat ((aX E (6 * c + 2))).toNat = true))) rfl hr1 rfl) ?_
  exact hout _ _ _ _ _ _ (LI.of (c := c + 1) hB1 hM1 (hO.up hc) hC1 (fun a b h => (hsc.lo h).trans ((fun _ _ _ => rfl) a b h)) (((rgS.rf hr1)).sc hsc) (by show cells + 0 + 0 ≤ _; omega) (by show slots + 0 + 0 ≤ _; omega))
set_option maxHeartbeats 4000000 in
set_option maxRecDepth 100000 in
theorem lc_what (hI : LI n sh I P c cells slots) (h6 : 6 * c + 6 ≤ zxL E) (hc : c + 1 ≤ 512) (hout : ∀ n' sh' I' P' cells' slots', LI n' sh' I' P' (c + 1) cells' slots' → Z l E (jLw nm) room_1 (kLw E b) cells' slots' (zw E n' sh' I' P') 869 [(0, .ref (zs E 3)), (1, .ref (zb E + 0)), (2, .ref (zb E + 24)), (3, .int (iI ((6 * c : Nat) : Int)))] []) : Z l E (jLw nm) room_1 (kLw E b) cells slots (zw E n sh I P) 574 [(0, .ref (zs E 3)), (1, .ref (zb E + 0)), (2, .ref (zb E + 24)), (3, .int (iI ((6 * c : Nat) : Int)))] [] := by
  obtain ⟨hB, hM, t, mc, rc, pc, bc, ma, pa, Ls, r, rl, hO, hC, hb1, hb2⟩ := hI
  have hb5 := hO.2.1
  have hL5 := hC.2.2.2.2.2.2.2.2.2.1.2.2.1
  have hb3 : slots ≤ 1000000 := by split at hb2 <;> omega
  refine z_aload_n dL_law_574 rfl ?_
  refine z_aload_n dL_law_575 rfl ?_
  refine z_iload_n dL_law_576 rfl ?_
  refine z_iconst dL_law_577 ?_
  refine z_iadd dL_law_578 ?_
  refine z_sld 3 dL_law_579 (by decide) (by show 0 ≤ _ ∧ _ < ((zxL E : Nat) : Int); omega) (by omega) ?_
  refine z_topi (iI (aX E (6 * c + 1))) (aX_of (by omega)) ?_
  refine z_aload_n dL_law_580 rfl ?_
  refine z_iload_n dL_law_581 rfl ?_
  refine z_iconst dL_law_582 ?_
  refine z_iadd dL_law_583 ?_
  refine z_sld 3 dL_law_584 (by decide) (by show 0 ≤ _ ∧ _ < ((zxL E : Nat) : Int); omega) (by omega) ?_
  refine z_topi (iI (aX E (6 * c + 2))) (aX_of (by omega)) ?_
  refine z_aload_n dL_law_585 rfl ?_
  refine z_iload_n dL_law_586 rfl ?_
  refine z_iconst dL_law_587 ?_
  refine z_iadd dL_law_588 ?_
  refine z_sld 3 dL_law_589 (by decide) (by show 0 ≤ _ ∧ _ < ((zxL E : Nat) : Int); omega) (by omega) ?_
  refine z_topi (iI (aX E (6 * c + 3))) (aX_of (by omega)) ?_
  refine z_aload_n dL_law_590 rfl ?_
  refine z_iload_n dL_law_591 rfl ?_
  refine z_iconst dL_law_592 ?_
  refine z_iadd dL_law_593 ?_
  refine z_sld 3 dL_law_594 (by decide) (by show 0 ≤ _ ∧ _ < ((zxL E : Nat) : Int); omega) (by omega) ?_
  refine z_topi (iI (aX E (6 * c + 4))) (aX_of (by omega)) ?_
  refine z_aload_n dL_law_595 rfl ?_
  refine z_iload_n dL_law_596 rfl ?_
  refine z_iconst dL_law_597 ?_
  refine z_iadd dL_law_598 ?_
  refine z_sld 3 dL_law_599 (by decide) (by show 0 ≤ _ ∧ _ < ((zxL E : Nat) : Int); omega) (by omega) ?_
  refine z_topi (iI (aX E (6 * c + 5))) (aX_of (by omega)) ?_
  refine y_callV dL_law_600 kL_66 (c_X6_what hB hO hC (aX_rng E _) (aX_rng E _) (aX_rng E _) (aX_rng E _) (aX_rng E _)) (hB.lt (by decide)) (hB.2.1 0 (by decide)) rfl rfl rfl (Nat.le_of_ble_eq_true rfl) ⟨⟨Nat.le_of_ble_eq_true rfl, Nat.le_of_ble_eq_true rfl⟩, by show cells + 0 ≤ 600000; omega, by show slots + 0 ≤ 7302250; omega⟩ (fun v600 n600 sh600 I600 P600 hp600 => ?_)
  obtain ⟨rfl, ⟨hB1, hr1, h24⟩, hC1⟩ := hp600
  have hM1 := hM.nx hB1 h24
  have hO1 := hO.mv hr1
  generalize I600 = I1 at *
  refine z_aload_n dL_law_603 rfl ?_
  refine z_aload_n dL_law_604 rfl ?_
  refine z_iload_n dL_law_605 rfl ?_
  refine z_iconst dL_law_606 ?_
  refine z_iadd dL_law_607 ?_
  refine z_sld 3 dL_law_608 (by decide) (by show 0 ≤ _ ∧ _ < ((zxL E : Nat) : Int); omega) (by omega) ?_
  refine z_topi (iI (aX E (6 * c + 1))) (aX_of (by omega)) ?_
  refine z_aload_n dL_law_609 rfl ?_
  refine z_iload_n dL_law_610 rfl ?_
  refine z_iconst dL_law_611 ?_
  refine z_iadd dL_law_612 ?_
  refine z_sld 3 dL_law_613 (by decide) (by show 0 ≤ _ ∧ _ < ((zxL E : Nat) : Int); omega) (by omega) ?_
  refine z_topi (iI (aX E (6 * c + 2))) (aX_of (by omega)) ?_
  refine z_aload_n dL_law_614 rfl ?_
  refine z_iload_n dL_law_615 rfl ?_
  refine z_iconst dL_law_616 ?_
  refine z_iadd dL_law_617 ?_
  refine z_sld 3 dL_law_618 (by decide) (by show 0 ≤ _ ∧ _ < ((zxL E : Nat) : Int); omega) (by omega) ?_
  refine z_topi (iI (aX E (6 * c + 3))) (aX_of (by omega)) ?_
  refine z_aload_n dL_law_619 rfl ?_
  refine z_iload_n dL_law_620 rfl ?_
  refine z_iconst dL_law_621 ?_
  refine z_iadd dL_law_622 ?_
  refine z_sld 3 dL_law_623 (by decide) (by show 0 ≤ _ ∧ _ < ((zxL E : Nat) : Int); omega) (by omega) ?_
  refine z_topi (iI (aX E (6 * c + 4))) (aX_of (by omega)) ?_
  refine z_aload_n dL_law_624 rfl ?_
  refine z_iload_n dL_law_625 rfl ?_
  refine z_iconst dL_law_626 ?_
  refine z_iadd dL_law_627 ?_
  refine z_sld 3 dL_law_628 (by decide) (by show 0 ≤ _ ∧ _ < ((zxL E : Nat) : Int); omega) (by omega) ?_
  refine z_topi (iI (aX E (6 * c + 5))) (aX_of (by omega)) ?_
  refine y_callV dL_law_629 kL_70 (c_X7_what hM1 hO1.1.1 hO1.2.1.1 hO1.1.2.1 hO1.2.1.2.1 hO1.1.2.2.1 hO1.2.1.2.2.1 hO1.1.2.2.2.1 hO1.2.1.2.2.2.1 hO1.2.2.1.1 hO1.pap hO1.jo hO1.2.2.2.2.2.1.1 hO1.ps (aX_rng E _) (aX_rng E _) (aX_rng E _) (aX_rng E _) (aX_rng E _)) (hM1.lt (by decide)) (hM1.2.1 24 (by decide)) rfl rfl rfl (Nat.le_of_ble_eq_true rfl) ⟨⟨Nat.le_of_ble_eq_true rfl, Nat.le_of_ble_eq_true rfl⟩, by show cells + 0 + 0 ≤ 600000; omega, by show slots + 0 + 0 ≤ 7302250; omega⟩ (fun v629 n629 sh629 I629 P629 hp629 => ?_)
  obtain ⟨rfl, rfl, rfl, rfl, hsc⟩ := hp629
  refine z_same 869 dL_law_632 (by decide) (prv (F := fun J => iI (if ((0 ≤ (aX E (6 * c + 1)) ∧ (aX E (6 * c + 1)) < (mc : Int)) ∧ (0 ≤ (aX E (6 * c + 2)) ∧ (aX E (6 * c + 2)) ≤ (t : Int)) ∧ sRule (aX E (6 * c + 3)) (aX E (6 * c + 4)) (aX E (6 * c + 5))) then GRm (mWr J rc (aX E (6 * c + 3)) (aX E (6 * c + 4)) (aX E (6 * c + 5)) (t : Int)) ((aX E (6 * c + 1))).toNat t pc (rc + 1) ((aX E (6 * c + 2))).toNat (7 * t + 7) else -1)) rfl hr1 rfl) ?_
  exact hout _ _ _ _ _ _ (LI.of (c := c + 1) hB1 hM1 (hO.up hc) hC1 (fun a b h => (hsc.lo h).trans ((fun _ _ _ => rfl) a b h)) (((rgS.rf hr1)).sc hsc) (by show cells + 0 + 0 ≤ _; omega) (by show slots + 0 + 0 ≤ _; omega))
set_option maxHeartbeats 4000000 in
set_option maxRecDepth 100000 in
theorem lc_booked (hI : LI n sh I P c cells slots) (h6 : 6 * c + 6 ≤ zxL E) (hc : c + 1 ≤ 512) (hout : ∀ n' sh' I' P' cells' slots', LI n' sh' I' P' (c + 1) cells' slots' → Z l E (jLw nm) room_1 (kLw E b) cells' slots' (zw E n' sh' I' P') 869 [(0, .ref (zs E 3)), (1, .ref (zb E + 0)), (2, .ref (zb E + 24)), (3, .int (iI ((6 * c : Nat) : Int)))] []) : Z l E (jLw nm) room_1 (kLw E b) cells slots (zw E n sh I P) 637 [(0, .ref (zs E 3)), (1, .ref (zb E + 0)), (2, .ref (zb E + 24)), (3, .int (iI ((6 * c : Nat) : Int)))] [] := by
  obtain ⟨hB, hM, t, mc, rc, pc, bc, ma, pa, Ls, r, rl, hO, hC, hb1, hb2⟩ := hI
  have hb5 := hO.2.1
  have hL5 := hC.2.2.2.2.2.2.2.2.2.1.2.2.1
  have hb3 : slots ≤ 1000000 := by split at hb2 <;> omega
  refine z_aload_n dL_law_637 rfl ?_
  refine z_aload_n dL_law_638 rfl ?_
  refine z_iload_n dL_law_639 rfl ?_
  refine z_iconst dL_law_640 ?_
  refine z_iadd dL_law_641 ?_
  refine z_sld 3 dL_law_642 (by decide) (by show 0 ≤ _ ∧ _ < ((zxL E : Nat) : Int); omega) (by omega) ?_
  refine z_topi (iI (aX E (6 * c + 1))) (aX_of (by omega)) ?_
  refine z_aload_n dL_law_643 rfl ?_
  refine z_iload_n dL_law_644 rfl ?_
  refine z_iconst dL_law_645 ?_
  refine z_iadd dL_law_646 ?_
  refine z_sld 3 dL_law_647 (by decide) (by show 0 ≤ _ ∧ _ < ((zxL E : Nat) : Int); omega) (by omega) ?_
  refine z_topi (iI (aX E (6 * c + 2))) (aX_of (by omega)) ?_
  refine y_callV dL_law_648 kL_71 (c_X6_booked hB hO hC (aX_rng E _) (aX_rng E _)) (hB.lt (by decide)) (hB.2.1 0 (by decide)) rfl rfl rfl (Nat.le_of_ble_eq_true rfl) ⟨⟨Nat.le_of_ble_eq_true rfl, Nat.le_of_ble_eq_true rfl⟩, by show cells + 0 ≤ 600000; omega, by show slots + 0 ≤ 7302250; omega⟩ (fun v648 n648 sh648 I648 P648 hp648 => ?_)
  obtain ⟨rfl, ⟨hB1, hr1, h24⟩, hC1⟩ := hp648
  have hM1 := hM.nx hB1 h24
  have hO1 := hO.mv hr1
  generalize I648 = I1 at *
  refine z_aload_n dL_law_651 rfl ?_
  refine z_aload_n dL_law_652 rfl ?_
  refine z_iload_n dL_law_653 rfl ?_
  refine z_iconst dL_law_654 ?_
  refine z_iadd dL_law_655 ?_
  refine z_sld 3 dL_law_656 (by decide) (by show 0 ≤ _ ∧ _ < ((zxL E : Nat) : Int); omega) (by omega) ?_
  refine z_topi (iI (aX E (6 * c + 1))) (aX_of (by omega)) ?_
  refine z_aload_n dL_law_657 rfl ?_
  refine z_iload_n dL_law_658 rfl ?_
  refine z_iconst dL_law_659 ?_
  refine z_iadd dL_law_660 ?_
  refine z_sld 3 dL_law_661 (by decide) (by show 0 ≤ _ ∧ _ < ((zxL E : Nat) : Int); omega) (by omega) ?_
  refine z_topi (iI (aX E (6 * c + 2))) (aX_of (by omega)) ?_
  refine y_callV dL_law_662 kL_74 (c_X7_booked hM1 hO1.1.2.1 (by omega) (aX_rng E _) (aX_rng E _)) (hM1.lt (by decide)) (hM1.2.1 24 (by decide)) rfl rfl rfl (Nat.le_of_ble_eq_true rfl) ⟨⟨Nat.le_of_ble_eq_true rfl, Nat.le_of_ble_eq_true rfl⟩, by show cells + 0 + 0 ≤ 600000; omega, by show slots + 0 + 0 ≤ 7302250; omega⟩ (fun v662 n662 sh662 I662 P662 hp662 => ?_)
  obtain ⟨rfl, rfl, rfl, rfl, rfl⟩ := hp662
  refine z_same 869 dL_law_665 (by decide) (prv (F := fun J => iI (if ((0 ≤ (aX E (6 * c + 1)) ∧ (aX E (6 * c + 1)) < (mc : Int)) ∧ (0 ≤ (aX E (6 * c + 2)) ∧ (aX E (6 * c + 2)) ≤ 300)) then J 38 (301 * ((aX E (6 * c + 1))).toNat + ((aX E (6 * c + 2))).toNat) else 0)) rfl hr1 rfl) ?_
  exact hout _ _ _ _ _ _ (LI.of (c := c + 1) hB1 hM1 (hO.up hc) hC1 (fun _ _ _ => rfl) (((rgS.rf hr1)).eq _) (by show cells + 0 + 0 ≤ _; omega) (by show slots + 0 + 0 ≤ _; omega))
set_option maxHeartbeats 4000000 in
set_option maxRecDepth 100000 in
theorem lc_entry (hI : LI n sh I P c cells slots) (h6 : 6 * c + 6 ≤ zxL E) (hc : c + 1 ≤ 512) (hout : ∀ n' sh' I' P' cells' slots', LI n' sh' I' P' (c + 1) cells' slots' → Z l E (jLw nm) room_1 (kLw E b) cells' slots' (zw E n' sh' I' P') 869 [(0, .ref (zs E 3)), (1, .ref (zb E + 0)), (2, .ref (zb E + 24)), (3, .int (iI ((6 * c : Nat) : Int)))] []) : Z l E (jLw nm) room_1 (kLw E b) cells slots (zw E n sh I P) 670 [(0, .ref (zs E 3)), (1, .ref (zb E + 0)), (2, .ref (zb E + 24)), (3, .int (iI ((6 * c : Nat) : Int)))] [] := by
  obtain ⟨hB, hM, t, mc, rc, pc, bc, ma, pa, Ls, r, rl, hO, hC, hb1, hb2⟩ := hI
  have hb5 := hO.2.1
  have hL5 := hC.2.2.2.2.2.2.2.2.2.1.2.2.1
  have hb3 : slots ≤ 1000000 := by split at hb2 <;> omega
  refine z_aload_n dL_law_670 rfl ?_
  refine z_aload_n dL_law_671 rfl ?_
  refine z_iload_n dL_law_672 rfl ?_
  refine z_iconst dL_law_673 ?_
  refine z_iadd dL_law_674 ?_
  refine z_sld 3 dL_law_675 (by decide) (by show 0 ≤ _ ∧ _ < ((zxL E : Nat) : Int); omega) (by omega) ?_
  refine z_topi (iI (aX E (6 * c + 1))) (aX_of (by omega)) ?_
  refine z_aload_n dL_law_676 rfl ?_
  refine z_iload_n dL_law_677 rfl ?_
  refine z_iconst dL_law_678 ?_
  refine z_iadd dL_law_679 ?_
  refine z_sld 3 dL_law_680 (by decide) (by show 0 ≤ _ ∧ _ < ((zxL E : Nat) : Int); omega) (by omega) ?_
  refine z_topi (iI (aX E (6 * c + 2))) (aX_of (by omega)) ?_
  refine y_callV dL_law_681 kL_75 (c_X6_entry hB hO hC (aX_rng E _) (aX_rng E _)) (hB.lt (by decide)) (hB.2.1 0 (by decide)) rfl rfl rfl (Nat.le_of_ble_eq_true rfl) ⟨⟨Nat.le_of_ble_eq_true rfl, Nat.le_of_ble_eq_true rfl⟩, by show cells + 0 ≤ 600000; omega, by show slots + 0 ≤ 7302250; omega⟩ (fun v681 n681 sh681 I681 P681 hp681 => ?_)
  obtain ⟨rfl, ⟨hB1, hr1, h24⟩, hC1⟩ := hp681
  have hM1 := hM.nx hB1 h24
  have hO1 := hO.mv hr1
  generalize I681 = I1 at *
  refine z_aload_n dL_law_684 rfl ?_
  refine z_aload_n dL_law_685 rfl ?_
  refine z_iload_n dL_law_686 rfl ?_
  refine z_iconst dL_law_687 ?_
  refine z_iadd dL_law_688 ?_
  refine z_sld 3 dL_law_689 (by decide) (by show 0 ≤ _ ∧ _ < ((zxL E : Nat) : Int); omega) (by omega) ?_
  refine z_topi (iI (aX E (6 * c + 1))) (aX_of (by omega)) ?_
  refine z_aload_n dL_law_690 rfl ?_
  refine z_iload_n dL_law_691 rfl ?_
  refine z_iconst dL_law_692 ?_
  refine z_iadd dL_law_693 ?_
  refine z_sld 3 dL_law_694 (by decide) (by show 0 ≤ _ ∧ _ < ((zxL E : Nat) : Int); omega) (by omega) ?_
  refine z_topi (iI (aX E (6 * c + 2))) (aX_of (by omega)) ?_
  refine y_callV dL_law_695 kL_78 (c_X7_entry hM1 hO1.1.2.2.2.2 hO1.2.1.2.2.2.2.1 (aX_rng E _) (aX_rng E _)) (hM1.lt (by decide)) (hM1.2.1 24 (by decide)) rfl rfl rfl (Nat.le_of_ble_eq_true rfl) ⟨⟨Nat.le_of_ble_eq_true rfl, Nat.le_of_ble_eq_true rfl⟩, by show cells + 0 + 0 ≤ 600000; omega, by show slots + 0 + 0 ≤ 7302250; omega⟩ (fun v695 n695 sh695 I695 P695 hp695 => ?_)
  obtain ⟨rfl, rfl, rfl, rfl, rfl⟩ := hp695
  refine z_same 869 dL_law_698 (by decide) (prv (F := fun J => iI (if (0 ≤ (aX E (6 * c + 1)) ∧ (aX E (6 * c + 1)) < (bc : Int)) then mEn J ((aX E (6 * c + 1))).toNat (aX E (6 * c + 2)) else -1000000)) rfl hr1 rfl) ?_
  exact hout _ _ _ _ _ _ (LI.of (c := c + 1) hB1 hM1 (hO.up hc) hC1 (fun _ _ _ => rfl) (((rgS.rf hr1)).eq _) (by show cells + 0 + 0 ≤ _; omega) (by show slots + 0 + 0 ≤ _; omega))
set_option maxHeartbeats 4000000 in
set_option maxRecDepth 100000 in
theorem lc_worth (hI : LI n sh I P c cells slots) (h6 : 6 * c + 6 ≤ zxL E) (hc : c + 1 ≤ 512) (hout : ∀ n' sh' I' P' cells' slots', LI n' sh' I' P' (c + 1) cells' slots' → Z l E (jLw nm) room_1 (kLw E b) cells' slots' (zw E n' sh' I' P') 869 [(0, .ref (zs E 3)), (1, .ref (zb E + 0)), (2, .ref (zb E + 24)), (3, .int (iI ((6 * c : Nat) : Int)))] []) : Z l E (jLw nm) room_1 (kLw E b) cells slots (zw E n sh I P) 703 [(0, .ref (zs E 3)), (1, .ref (zb E + 0)), (2, .ref (zb E + 24)), (3, .int (iI ((6 * c : Nat) : Int)))] [] := by
  obtain ⟨hB, hM, t, mc, rc, pc, bc, ma, pa, Ls, r, rl, hO, hC, hb1, hb2⟩ := hI
  have hb5 := hO.2.1
  have hL5 := hC.2.2.2.2.2.2.2.2.2.1.2.2.1
  have hb3 : slots ≤ 1000000 := by split at hb2 <;> omega
  refine z_aload_n dL_law_703 rfl ?_
  refine z_aload_n dL_law_704 rfl ?_
  refine z_iload_n dL_law_705 rfl ?_
  refine z_iconst dL_law_706 ?_
  refine z_iadd dL_law_707 ?_
  refine z_sld 3 dL_law_708 (by decide) (by show 0 ≤ _ ∧ _ < ((zxL E : Nat) : Int); omega) (by omega) ?_
  refine z_topi (iI (aX E (6 * c + 1))) (aX_of (by omega)) ?_
  refine z_aload_n dL_law_709 rfl ?_
  refine z_iload_n dL_law_710 rfl ?_
  refine z_iconst dL_law_711 ?_
  refine z_iadd dL_law_712 ?_
  refine z_sld 3 dL_law_713 (by decide) (by show 0 ≤ _ ∧ _ < ((zxL E : Nat) : Int); omega) (by omega) ?_
  refine z_topi (iI (aX E (6 * c + 2))) (aX_of (by omega)) ?_
  refine z_aload_n dL_law_714 rfl ?_
  refine z_iload_n dL_law_715 rfl ?_
  refine z_iconst dL_law_716 ?_
  refine z_iadd dL_law_717 ?_
  refine z_sld 3 dL_law_718 (by decide) (by show 0 ≤ _ ∧ _ < ((zxL E : Nat) : Int); omega) (by omega) ?_
  refine z_topi (iI (aX E (6 * c + 3))) (aX_of (by omega)) ?_
  refine y_callV dL_law_719 kL_79 (c_X6_worth hB hO hC (aX_rng E _) (aX_rng E _) (aX_rng E _)) (hB.lt (by decide)) (hB.2.1 0 (by decide)) rfl rfl rfl (Nat.le_of_ble_eq_true rfl) ⟨⟨Nat.le_of_ble_eq_true rfl, Nat.le_of_ble_eq_true rfl⟩, by show cells + 0 ≤ 600000; omega, by show slots + 0 ≤ 7302250; omega⟩ (fun v719 n719 sh719 I719 P719 hp719 => ?_)
  obtain ⟨rfl, ⟨hB1, hr1, h24⟩, hC1⟩ := hp719
  have hM1 := hM.nx hB1 h24
  have hO1 := hO.mv hr1
  generalize I719 = I1 at *
  refine z_aload_n dL_law_722 rfl ?_
  refine z_aload_n dL_law_723 rfl ?_
  refine z_iload_n dL_law_724 rfl ?_
  refine z_iconst dL_law_725 ?_
  refine z_iadd dL_law_726 ?_
  refine z_sld 3 dL_law_727 (by decide) (by show 0 ≤ _ ∧ _ < ((zxL E : Nat) : Int); omega) (by omega) ?_
  refine z_topi (iI (aX E (6 * c + 1))) (aX_of (by omega)) ?_
  refine z_aload_n dL_law_728 rfl ?_
  refine z_iload_n dL_law_729 rfl ?_
  refine z_iconst dL_law_730 ?_
  refine z_iadd dL_law_731 ?_
  refine z_sld 3 dL_law_732 (by decide) (by show 0 ≤ _ ∧ _ < ((zxL E : Nat) : Int); omega) (by omega) ?_
  refine z_topi (iI (aX E (6 * c + 2))) (aX_of (by omega)) ?_
  refine z_aload_n dL_law_733 rfl ?_
  refine z_iload_n dL_law_734 rfl ?_
  refine z_iconst dL_law_735 ?_
  refine z_iadd dL_law_736 ?_
  refine z_sld 3 dL_law_737 (by decide) (by show 0 ≤ _ ∧ _ < ((zxL E : Nat) : Int); omega) (by omega) ?_
  refine z_topi (iI (aX E (6 * c + 3))) (aX_of (by omega)) ?_
  refine y_callV dL_law_738 kL_83 (c_X7_worth hM1 hO1.1.1 hO1.2.1.1 hO1.1.2.1 hO1.2.1.2.1 hO1.1.2.2.1 hO1.2.1.2.2.1 hO1.1.2.2.2.1 hO1.2.1.2.2.2.1 hO1.2.2.1.1 hO1.pap hO1.jo hO1.2.2.2.2.2.1.1 hO1.ps (fun i hi => (hO1.2.2.2.2.1 i hi).1) (fun i hi => (hO1.2.2.2.2.2.2.2 i hi).1) (fun i hi => (hO1.2.2.2.2.2.2.2 i hi).2) (aX_rng E _) (aX_rng E _) (aX_rng E _)) (hM1.lt (by decide)) (hM1.2.1 24 (by decide)) rfl rfl rfl (Nat.le_of_ble_eq_true rfl) ⟨⟨Nat.le_of_ble_eq_true rfl, Nat.le_of_ble_eq_true rfl⟩, by show cells + 0 + 0 ≤ 600000; omega, by show slots + 0 + 0 ≤ 7302250; omega⟩ (fun v738 n738 sh738 I738 P738 hp738 => ?_)
  obtain ⟨rfl, rfl, rfl, rfl, rfl⟩ := hp738
  refine z_lcmp dL_law_741 ?_
  refine z_ifx_eq 869 dL_law_742 (by decide) (fun _ => ?_) (fun q => absurd (lgc_same (by rw [hr1 43 (by omega) (by omega), hr1 44 (by omega) (by omega), xAge_rg hr1, vF_rg hr1])) q)
  exact hout _ _ _ _ _ _ (LI.of (c := c + 1) hB1 hM1 (hO.up hc) hC1 (fun _ _ _ => rfl) (((rgS.rf hr1)).eq _) (by show cells + 0 + 0 ≤ _; omega) (by show slots + 0 + 0 ≤ _; omega))
set_option maxHeartbeats 4000000 in
set_option maxRecDepth 100000 in
theorem lc_lodge (hI : LI n sh I P c cells slots) (h6 : 6 * c + 6 ≤ zxL E) (hc : c + 1 ≤ 512) (hout : ∀ n' sh' I' P' cells' slots', LI n' sh' I' P' (c + 1) cells' slots' → Z l E (jLw nm) room_1 (kLw E b) cells' slots' (zw E n' sh' I' P') 869 [(0, .ref (zs E 3)), (1, .ref (zb E + 0)), (2, .ref (zb E + 24)), (3, .int (iI ((6 * c : Nat) : Int)))] []) : Z l E (jLw nm) room_1 (kLw E b) cells slots (zw E n sh I P) 747 [(0, .ref (zs E 3)), (1, .ref (zb E + 0)), (2, .ref (zb E + 24)), (3, .int (iI ((6 * c : Nat) : Int)))] [] := by
  obtain ⟨hB, hM, t, mc, rc, pc, bc, ma, pa, Ls, r, rl, hO, hC, hb1, hb2⟩ := hI
  have hb5 := hO.2.1
  have hL5 := hC.2.2.2.2.2.2.2.2.2.1.2.2.1
  have hb3 : slots ≤ 1000000 := by split at hb2 <;> omega
  refine z_aload_n dL_law_747 rfl ?_
  refine z_aload_n dL_law_748 rfl ?_
  refine z_iload_n dL_law_749 rfl ?_
  refine z_iconst dL_law_750 ?_
  refine z_iadd dL_law_751 ?_
  refine z_sld 3 dL_law_752 (by decide) (by show 0 ≤ _ ∧ _ < ((zxL E : Nat) : Int); omega) (by omega) ?_
  refine z_topi (iI (aX E (6 * c + 1))) (aX_of (by omega)) ?_
  refine z_aload_n dL_law_753 rfl ?_
  refine z_iload_n dL_law_754 rfl ?_
  refine z_iconst dL_law_755 ?_
  refine z_iadd dL_law_756 ?_
  refine z_sld 3 dL_law_757 (by decide) (by show 0 ≤ _ ∧ _ < ((zxL E : Nat) : Int); omega) (by omega) ?_
  refine z_topi (iI (aX E (6 * c + 2))) (aX_of (by omega)) ?_
  refine y_callV dL_law_758 kL_84 (c_X6_lodge hB hO hC (aX_rng E _) (aX_rng E _)) (hB.lt (by decide)) (hB.2.1 0 (by decide)) rfl rfl rfl (Nat.le_of_ble_eq_true rfl) ⟨⟨Nat.le_of_ble_eq_true rfl, Nat.le_of_ble_eq_true rfl⟩, by show cells + 0 ≤ 600000; omega, by show slots + 0 ≤ 7302250; omega⟩ (fun v758 n758 sh758 I758 P758 hp758 => ?_)
  obtain ⟨rfl, ⟨hB1, hr1, h24⟩, hC1⟩ := hp758
  have hM1 := hM.nx hB1 h24
  have hO1 := hO.mv hr1
  generalize I758 = I1 at *
  refine z_aload_n dL_law_761 rfl ?_
  refine z_aload_n dL_law_762 rfl ?_
  refine z_iload_n dL_law_763 rfl ?_
  refine z_iconst dL_law_764 ?_
  refine z_iadd dL_law_765 ?_
  refine z_sld 3 dL_law_766 (by decide) (by show 0 ≤ _ ∧ _ < ((zxL E : Nat) : Int); omega) (by omega) ?_
  refine z_topi (iI (aX E (6 * c + 1))) (aX_of (by omega)) ?_
  refine z_aload_n dL_law_767 rfl ?_
  refine z_iload_n dL_law_768 rfl ?_
  refine z_iconst dL_law_769 ?_
  refine z_iadd dL_law_770 ?_
  refine z_sld 3 dL_law_771 (by decide) (by show 0 ≤ _ ∧ _ < ((zxL E : Nat) : Int); omega) (by omega) ?_
  refine z_topi (iI (aX E (6 * c + 2))) (aX_of (by omega)) ?_
  refine y_callV dL_law_772 kL_87 (c_X7_lodge hM1 hO1.1.2.1 (by omega) (fun i hi => (hO1.2.2.2.2.1 i hi).2.1) (aX_rng E _) (aX_rng E _)) (hM1.lt (by decide)) (hM1.2.1 24 (by decide)) rfl rfl rfl (Nat.le_of_ble_eq_true rfl) ⟨⟨Nat.le_of_ble_eq_true rfl, Nat.le_of_ble_eq_true rfl⟩, by show cells + 0 + 0 ≤ 600000; omega, by show slots + 0 + 0 ≤ 7302250; omega⟩ (fun v772 n772 sh772 I772 P772 hp772 => ?_)
  obtain ⟨rfl, rfl, rfl, rfl, rfl⟩ := hp772
  refine z_same 869 dL_law_775 (by decide) (prv (F := fun J => iI (if ((0 ≤ (aX E (6 * c + 1)) ∧ (aX E (6 * c + 1)) ≤ 3) ∧ (0 ≤ (aX E (6 * c + 2)) ∧ (aX E (6 * c + 2)) ≤ 2)) then mLo J (aX E (6 * c + 1)) (aX E (6 * c + 2)) mc else -1)) rfl hr1 rfl) ?_
  exact hout _ _ _ _ _ _ (LI.of (c := c + 1) hB1 hM1 (hO.up hc) hC1 (fun _ _ _ => rfl) (((rgS.rf hr1)).eq _) (by show cells + 0 + 0 ≤ _; omega) (by show slots + 0 + 0 ≤ _; omega))
set_option maxHeartbeats 4000000 in
set_option maxRecDepth 100000 in
theorem lc_member (hI : LI n sh I P c cells slots) (h6 : 6 * c + 6 ≤ zxL E) (hc : c + 1 ≤ 512) (hout : ∀ n' sh' I' P' cells' slots', LI n' sh' I' P' (c + 1) cells' slots' → Z l E (jLw nm) room_1 (kLw E b) cells' slots' (zw E n' sh' I' P') 869 [(0, .ref (zs E 3)), (1, .ref (zb E + 0)), (2, .ref (zb E + 24)), (3, .int (iI ((6 * c : Nat) : Int)))] []) : Z l E (jLw nm) room_1 (kLw E b) cells slots (zw E n sh I P) 780 [(0, .ref (zs E 3)), (1, .ref (zb E + 0)), (2, .ref (zb E + 24)), (3, .int (iI ((6 * c : Nat) : Int)))] [] := by
  obtain ⟨hB, hM, t, mc, rc, pc, bc, ma, pa, Ls, r, rl, hO, hC, hb1, hb2⟩ := hI
  have hb5 := hO.2.1
  have hL5 := hC.2.2.2.2.2.2.2.2.2.1.2.2.1
  have hb3 : slots ≤ 1000000 := by split at hb2 <;> omega
  refine z_aload_n dL_law_780 rfl ?_
  refine z_aload_n dL_law_781 rfl ?_
  refine z_iload_n dL_law_782 rfl ?_
  refine z_iconst dL_law_783 ?_
  refine z_iadd dL_law_784 ?_
  refine z_sld 3 dL_law_785 (by decide) (by show 0 ≤ _ ∧ _ < ((zxL E : Nat) : Int); omega) (by omega) ?_
  refine z_topi (iI (aX E (6 * c + 1))) (aX_of (by omega)) ?_
  refine z_aload_n dL_law_786 rfl ?_
  refine z_iload_n dL_law_787 rfl ?_
  refine z_iconst dL_law_788 ?_
  refine z_iadd dL_law_789 ?_
  refine z_sld 3 dL_law_790 (by decide) (by show 0 ≤ _ ∧ _ < ((zxL E : Nat) : Int); omega) (by omega) ?_
  refine z_topi (iI (aX E (6 * c + 2))) (aX_of (by omega)) ?_
  refine y_callV dL_law_791 kL_88 (c_X6_member hB hO hC (aX_rng E _) (aX_rng E _)) (hB.lt (by decide)) (hB.2.1 0 (by decide)) rfl rfl rfl (Nat.le_of_ble_eq_true rfl) ⟨⟨Nat.le_of_ble_eq_true rfl, Nat.le_of_ble_eq_true rfl⟩, by show cells + 0 ≤ 600000; omega, by show slots + 0 ≤ 7302250; omega⟩ (fun v791 n791 sh791 I791 P791 hp791 => ?_)
  obtain ⟨rfl, ⟨hB1, hr1, h24⟩, hC1⟩ := hp791
  have hM1 := hM.nx hB1 h24
  have hO1 := hO.mv hr1
  generalize I791 = I1 at *
  refine z_aload_n dL_law_794 rfl ?_
  refine z_aload_n dL_law_795 rfl ?_
  refine z_iload_n dL_law_796 rfl ?_
  refine z_iconst dL_law_797 ?_
  refine z_iadd dL_law_798 ?_
  refine z_sld 3 dL_law_799 (by decide) (by show 0 ≤ _ ∧ _ < ((zxL E : Nat) : Int); omega) (by omega) ?_
  refine z_topi (iI (aX E (6 * c + 1))) (aX_of (by omega)) ?_
  refine z_aload_n dL_law_800 rfl ?_
  refine z_iload_n dL_law_801 rfl ?_
  refine z_iconst dL_law_802 ?_
  refine z_iadd dL_law_803 ?_
  refine z_sld 3 dL_law_804 (by decide) (by show 0 ≤ _ ∧ _ < ((zxL E : Nat) : Int); omega) (by omega) ?_
  refine z_topi (iI (aX E (6 * c + 2))) (aX_of (by omega)) ?_
  refine y_callV dL_law_805 kL_91 (c_X7_member hM1 hO1.1.2.1 (by omega) (aX_rng E _) (aX_rng E _)) (hM1.lt (by decide)) (hM1.2.1 24 (by decide)) rfl rfl rfl (Nat.le_of_ble_eq_true rfl) ⟨⟨Nat.le_of_ble_eq_true rfl, Nat.le_of_ble_eq_true rfl⟩, by show cells + 0 + 0 ≤ 600000; omega, by show slots + 0 + 0 ≤ 7302250; omega⟩ (fun v805 n805 sh805 I805 P805 hp805 => ?_)
  obtain ⟨rfl, rfl, rfl, rfl, rfl⟩ := hp805
  refine z_same 869 dL_law_808 (by decide) (prv (F := fun J => iI (if (0 ≤ (aX E (6 * c + 1)) ∧ (aX E (6 * c + 1)) < (mc : Int)) then mMe J ((aX E (6 * c + 1))).toNat (aX E (6 * c + 2)) else -1)) rfl hr1 rfl) ?_
  exact hout _ _ _ _ _ _ (LI.of (c := c + 1) hB1 hM1 (hO.up hc) hC1 (fun _ _ _ => rfl) (((rgS.rf hr1)).eq _) (by show cells + 0 + 0 ≤ _; omega) (by show slots + 0 + 0 ≤ _; omega))
set_option maxHeartbeats 4000000 in
set_option maxRecDepth 100000 in
theorem lc_told (hI : LI n sh I P c cells slots) (h6 : 6 * c + 6 ≤ zxL E) (hc : c + 1 ≤ 512) (hout : ∀ n' sh' I' P' cells' slots', LI n' sh' I' P' (c + 1) cells' slots' → Z l E (jLw nm) room_1 (kLw E b) cells' slots' (zw E n' sh' I' P') 869 [(0, .ref (zs E 3)), (1, .ref (zb E + 0)), (2, .ref (zb E + 24)), (3, .int (iI ((6 * c : Nat) : Int)))] []) : Z l E (jLw nm) room_1 (kLw E b) cells slots (zw E n sh I P) 813 [(0, .ref (zs E 3)), (1, .ref (zb E + 0)), (2, .ref (zb E + 24)), (3, .int (iI ((6 * c : Nat) : Int)))] [] := by
  obtain ⟨hB, hM, t, mc, rc, pc, bc, ma, pa, Ls, r, rl, hO, hC, hb1, hb2⟩ := hI
  have hb5 := hO.2.1
  have hL5 := hC.2.2.2.2.2.2.2.2.2.1.2.2.1
  have hb3 : slots ≤ 1000000 := by split at hb2 <;> omega
  refine z_aload_n dL_law_813 rfl ?_
  refine z_aload_n dL_law_814 rfl ?_
  refine z_iload_n dL_law_815 rfl ?_
  refine z_iconst dL_law_816 ?_
  refine z_iadd dL_law_817 ?_
  refine z_sld 3 dL_law_818 (by decide) (by show 0 ≤ _ ∧ _ < ((zxL E : Nat) : Int); omega) (by omega) ?_
  refine z_topi (iI (aX E (6 * c + 1))) (aX_of (by omega)) ?_
  refine z_aload_n dL_law_819 rfl ?_
  refine z_iload_n dL_law_820 rfl ?_
  refine z_iconst dL_law_821 ?_
  refine z_iadd dL_law_822 ?_
  refine z_sld 3 dL_law_823 (by decide) (by show 0 ≤ _ ∧ _ < ((zxL E : Nat) : Int); omega) (by omega) ?_
  refine z_topi (iI (aX E (6 * c + 2))) (aX_of (by omega)) ?_
  refine y_callV dL_law_824 kL_92 (c_X6_told hB hO hC (aX_rng E _) (aX_rng E _)) (hB.lt (by decide)) (hB.2.1 0 (by decide)) rfl rfl rfl (Nat.le_of_ble_eq_true rfl) ⟨⟨Nat.le_of_ble_eq_true rfl, Nat.le_of_ble_eq_true rfl⟩, by show cells + 0 ≤ 600000; omega, by show slots + 0 ≤ 7302250; omega⟩ (fun v824 n824 sh824 I824 P824 hp824 => ?_)
  obtain ⟨rfl, ⟨hB1, hr1, h24⟩, hC1⟩ := hp824
  have hM1 := hM.nx hB1 h24
  have hO1 := hO.mv hr1
  generalize I824 = I1 at *
  refine z_aload_n dL_law_827 rfl ?_
  refine z_aload_n dL_law_828 rfl ?_
  refine z_iload_n dL_law_829 rfl ?_
  refine z_iconst dL_law_830 ?_
  refine z_iadd dL_law_831 ?_
  refine z_sld 3 dL_law_832 (by decide) (by show 0 ≤ _ ∧ _ < ((zxL E : Nat) : Int); omega) (by omega) ?_
  refine z_topi (iI (aX E (6 * c + 1))) (aX_of (by omega)) ?_
  refine z_aload_n dL_law_833 rfl ?_
  refine z_iload_n dL_law_834 rfl ?_
  refine z_iconst dL_law_835 ?_
  refine z_iadd dL_law_836 ?_
  refine z_sld 3 dL_law_837 (by decide) (by show 0 ≤ _ ∧ _ < ((zxL E : Nat) : Int); omega) (by omega) ?_
  refine z_topi (iI (aX E (6 * c + 2))) (aX_of (by omega)) ?_
  refine y_callV dL_law_838 kL_95 (c_X7_told hM1 hO1.1.2.2.2.1 (by omega) (aX_rng E _) (aX_rng E _)) (hM1.lt (by decide)) (hM1.2.1 24 (by decide)) rfl rfl rfl (Nat.le_of_ble_eq_true rfl) ⟨⟨Nat.le_of_ble_eq_true rfl, Nat.le_of_ble_eq_true rfl⟩, by show cells + 0 + 0 ≤ 600000; omega, by show slots + 0 + 0 ≤ 7302250; omega⟩ (fun v838 n838 sh838 I838 P838 hp838 => ?_)
  obtain ⟨rfl, rfl, rfl, rfl, rfl⟩ := hp838
  refine z_same 869 dL_law_841 (by decide) (prv (F := fun J => iI (if (0 ≤ (aX E (6 * c + 1)) ∧ (aX E (6 * c + 1)) < (pc : Int)) then mTo J ((aX E (6 * c + 1))).toNat (aX E (6 * c + 2)) else -1)) rfl hr1 rfl) ?_
  exact hout _ _ _ _ _ _ (LI.of (c := c + 1) hB1 hM1 (hO.up hc) hC1 (fun _ _ _ => rfl) (((rgS.rf hr1)).eq _) (by show cells + 0 + 0 ≤ _; omega) (by show slots + 0 + 0 ≤ _; omega))
set_option maxHeartbeats 4000000 in
set_option maxRecDepth 100000 in
theorem lc_count (hI : LI n sh I P c cells slots) (h6 : 6 * c + 6 ≤ zxL E) (hc : c + 1 ≤ 512) (hout : ∀ n' sh' I' P' cells' slots', LI n' sh' I' P' (c + 1) cells' slots' → Z l E (jLw nm) room_1 (kLw E b) cells' slots' (zw E n' sh' I' P') 869 [(0, .ref (zs E 3)), (1, .ref (zb E + 0)), (2, .ref (zb E + 24)), (3, .int (iI ((6 * c : Nat) : Int)))] []) : Z l E (jLw nm) room_1 (kLw E b) cells slots (zw E n sh I P) 846 [(0, .ref (zs E 3)), (1, .ref (zb E + 0)), (2, .ref (zb E + 24)), (3, .int (iI ((6 * c : Nat) : Int)))] [] := by
  obtain ⟨hB, hM, t, mc, rc, pc, bc, ma, pa, Ls, r, rl, hO, hC, hb1, hb2⟩ := hI
  have hb5 := hO.2.1
  have hL5 := hC.2.2.2.2.2.2.2.2.2.1.2.2.1
  have hb3 : slots ≤ 1000000 := by split at hb2 <;> omega
  refine z_aload_n dL_law_846 rfl ?_
  refine z_aload_n dL_law_847 rfl ?_
  refine z_iload_n dL_law_848 rfl ?_
  refine z_iconst dL_law_849 ?_
  refine z_iadd dL_law_850 ?_
  refine z_sld 3 dL_law_851 (by decide) (by show 0 ≤ _ ∧ _ < ((zxL E : Nat) : Int); omega) (by omega) ?_
  refine z_topi (iI (aX E (6 * c + 1))) (aX_of (by omega)) ?_
  refine y_callV dL_law_852 kL_96 (c_X6_count hB hO hC (aX_rng E _)) (hB.lt (by decide)) (hB.2.1 0 (by decide)) rfl rfl rfl (Nat.le_of_ble_eq_true rfl) ⟨⟨Nat.le_of_ble_eq_true rfl, Nat.le_of_ble_eq_true rfl⟩, by show cells + 0 ≤ 600000; omega, by show slots + 0 ≤ 7302250; omega⟩ (fun v852 n852 sh852 I852 P852 hp852 => ?_)
  obtain ⟨rfl, ⟨hB1, hr1, h24⟩, hC1⟩ := hp852
  have hM1 := hM.nx hB1 h24
  have hO1 := hO.mv hr1
  generalize I852 = I1 at *
  refine z_aload_n dL_law_855 rfl ?_
  refine z_aload_n dL_law_856 rfl ?_
  refine z_iload_n dL_law_857 rfl ?_
  refine z_iconst dL_law_858 ?_
  refine z_iadd dL_law_859 ?_
  refine z_sld 3 dL_law_860 (by decide) (by show 0 ≤ _ ∧ _ < ((zxL E : Nat) : Int); omega) (by omega) ?_
  refine z_topi (iI (aX E (6 * c + 1))) (aX_of (by omega)) ?_
  refine y_callV dL_law_861 kL_100 (c_X7_count hM1 hO1.1.1 hO1.2.1.1 hO1.1.2.1 hO1.2.1.2.1 hO1.1.2.2.1 hO1.2.1.2.2.1 hO1.1.2.2.2.1 hO1.2.1.2.2.2.1 hO1.2.2.1.1 hO1.pap hO1.jo hO1.2.2.2.2.2.1.1 hO1.ps hO1.1.2.2.2.2 hO1.2.1.2.2.2.2.1 (aX_rng E _)) (hM1.lt (by decide)) (hM1.2.1 24 (by decide)) rfl rfl rfl (Nat.le_of_ble_eq_true rfl) ⟨⟨Nat.le_of_ble_eq_true rfl, Nat.le_of_ble_eq_true rfl⟩, by show cells + 0 + 0 ≤ 600000; omega, by show slots + 0 + 0 ≤ 7302250; omega⟩ (fun v861 n861 sh861 I861 P861 hp861 => ?_)
  obtain ⟨rfl, rfl, rfl, rfl, hsc⟩ := hp861
  refine z_same 869 dL_law_864 (by decide) (prv (F := fun J => iI (mCt J t mc rc pc bc (aX E (6 * c + 1)))) rfl hr1 rfl) ?_
  exact hout _ _ _ _ _ _ (LI.of (c := c + 1) hB1 hM1 (hO.up hc) hC1 (fun a b h => (hsc.lo h).trans ((fun _ _ _ => rfl) a b h)) (((rgS.rf hr1)).sc hsc) (by show cells + 0 + 0 ≤ _; omega) (by show slots + 0 + 0 ≤ _; omega))
end LCs
