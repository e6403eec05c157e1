set_option maxHeartbeats 40000000 in
set_option maxRecDepth 100000 in
theorem law_loop (g : gx_T) {x : cx_T} (C : CX g x cXL_law RXL 13 600000 7302249 498) (hL : gx_L g ≤ 3074) (hfin : ∀ (M : mp_M) (k n : Nat) (Ls : List (Option Value)), k ≤ 600000 → n ≤ 7302249 → VV g x M k n 543 Ls [.int (nI 1)]) (a b : Nat) (A : Nat → Nat) : ∀ (m c : Nat) (M : mp_M) (S : st_S) (k n : Nat), c + m = 513 → cw g (ra_P b A) M a S → rp g M b A S c → st_b S c → k + 2 * (st_runs S).length ≤ 6 * c + 20 → n + 854 * (st_runs S).length ≤ 2567 * c + 11000 → VV g x M k n 38 [some (.ref (gx_b g)), some (.ref a), some (.ref b), some (.int (nI (2 + 6 * c)))] [] := by
  intro m
  induction m with
  | zero =>
    intro c M S k n hcm _ _ B
    have := B.1
    omega
  | succ m ih =>
    intro c M S k n hcm hw hr B hk hn
    obtain ⟨b1, b2, b3, b4, b5, b6, b7, b8, b9, b10, b11, b12, b13, b14, b15⟩ := id B
    obtain ⟨lg, rl, mm, ms, ps, lf, h1, h2, -⟩ := id hw
    obtain ⟨fs, fb⟩ := rp_b hr
    have hF := rp_F hr
    have nxt : ∀ (M' : mp_M) (S' : st_S) (k' n' : Nat), c < 512 → cw g (ra_P b A) M' a S' → rp g M' b A S' (c + 1) → st_b S' (c + 1) → k' + 2 * (st_runs S').length ≤ 6 * (c + 1) + 20 → n' + 854 * (st_runs S').length ≤ 2567 * (c + 1) + 11000 → VV g x M' k' n' 536 [some (.ref (gx_b g)), some (.ref a), some (.ref b), some (.int (nI (2 + 6 * c)))] [] := by
      intro M' S' k' n' hc w1 w2 B' hk' hn'
      have e := ih (c + 1) M' S' k' n' (by omega) w1 w2 B' hk' hn'
      rw [show 2 + 6 * (c + 1) = 2 + 6 * c + 6 by omega] at e
      refine v_iinc C 539 _ (nI (2 + 6 * c + 6)) dXL_law_536 rfl rfl ((congrArg (fun z => nI (2 + 6 * c) + z) (show Int32.ofInt 6 = nI 6 by decide)).trans (nI_add _ _)) rfl ?_
      refine v_goto C 38 dXL_law_539 rfl ?_
      exact e
    refine v_iload_n C 39 dXL_law_38 rfl rfl ?_
    first | refine v_aload_n C 40 dXL_law_39 rfl rfl ?_ | refine v_aload_nN C 40 dXL_law_39 rfl rfl ?_ | refine v_aload_nQ C 40 dXL_law_39 rfl rfl ?_
    refine v_slen C 41 dXL_law_40 rfl ?_
    refine v_bipush C 43 dXL_law_41 rfl (nI 6) (by decide) ?_
    refine v_isub C 44 dXL_law_43 rfl ?_
    refine v_icmp_gt C 47 542 dXL_law_44 rfl rfl (fun q0 => ?_) (fun q0 => ?_)
    · refine v_iconst C 543 dXL_law_542 rfl (nI 1) (by decide) ?_
      exact hfin _ _ _ _ (by omega) (by omega)
    have hlt : ¬ (gx_L g < 2 + 6 * c + 6) := fun z => q0 ((end_iff hL (by omega)).mpr z)
    have hc : c < 512 := by omega
    first | refine v_aload_n C 48 dXL_law_47 rfl rfl ?_ | refine v_aload_nN C 48 dXL_law_47 rfl rfl ?_ | refine v_aload_nQ C 48 dXL_law_47 rfl rfl ?_
    refine v_iload_n C 49 dXL_law_48 rfl rfl ?_
    refine v_sld C 50 dXL_law_49 rfl (2 + 6 * c) rfl (by omega) (by omega) ?_
    refine v_bipush C 52 dXL_law_50 rfl (nI 15) (by decide) ?_
    refine v_iand C 53 dXL_law_52 rfl ?_
    generalize gx_x g (2 + 6 * c) &&& nI 15 = w
    by_cases w0 : w = 0
    · subst w0
      refine v_tableIn C 124 dXL_law_53 (by decide) (by decide) rfl rfl ?_
      have hmg := mg_2 (dl_put S (gx_x g (2 + 6 * c + 1)) (gx_x g (2 + 6 * c + 2)) (gx_x g (2 + 6 * c + 3)) (gx_x g (2 + 6 * c + 4)) (gx_x g (2 + 6 * c + 5)))
      first | refine v_aload_n C 125 dXL_law_124 rfl rfl ?_ | refine v_aload_nN C 125 dXL_law_124 rfl rfl ?_ | refine v_aload_nQ C 125 dXL_law_124 rfl rfl ?_
      first | refine v_aload_n C 126 dXL_law_125 rfl rfl ?_ | refine v_aload_nN C 126 dXL_law_125 rfl rfl ?_ | refine v_aload_nQ C 126 dXL_law_125 rfl rfl ?_
      refine v_iload_n C 127 dXL_law_126 rfl rfl ?_
      refine v_iconst C 128 dXL_law_127 rfl (nI 1) (by decide) ?_
      refine v_iadd C 129 dXL_law_128 rfl ?_
      refine v_sld C 130 dXL_law_129 rfl (2 + 6 * c + 1) (nI_add _ _) (by omega) (by omega) ?_
      first | refine v_aload_n C 131 dXL_law_130 rfl rfl ?_ | refine v_aload_nN C 131 dXL_law_130 rfl rfl ?_ | refine v_aload_nQ C 131 dXL_law_130 rfl rfl ?_
      refine v_iload_n C 132 dXL_law_131 rfl rfl ?_
      refine v_iconst C 133 dXL_law_132 rfl (nI 2) (by decide) ?_
      refine v_iadd C 134 dXL_law_133 rfl ?_
      refine v_sld C 135 dXL_law_134 rfl (2 + 6 * c + 2) (nI_add _ _) (by omega) (by omega) ?_
      first | refine v_aload_n C 136 dXL_law_135 rfl rfl ?_ | refine v_aload_nN C 136 dXL_law_135 rfl rfl ?_ | refine v_aload_nQ C 136 dXL_law_135 rfl rfl ?_
      refine v_iload_n C 137 dXL_law_136 rfl rfl ?_
      refine v_iconst C 138 dXL_law_137 rfl (nI 3) (by decide) ?_
      refine v_iadd C 139 dXL_law_138 rfl ?_
      refine v_sld C 140 dXL_law_139 rfl (2 + 6 * c + 3) (nI_add _ _) (by omega) (by omega) ?_
      first | refine v_aload_n C 141 dXL_law_140 rfl rfl ?_ | refine v_aload_nN C 141 dXL_law_140 rfl rfl ?_ | refine v_aload_nQ C 141 dXL_law_140 rfl rfl ?_
      refine v_iload_n C 142 dXL_law_141 rfl rfl ?_
      refine v_iconst C 143 dXL_law_142 rfl (nI 4) (by decide) ?_
      refine v_iadd C 144 dXL_law_143 rfl ?_
      refine v_sld C 145 dXL_law_144 rfl (2 + 6 * c + 4) (nI_add _ _) (by omega) (by omega) ?_
      first | refine v_aload_n C 146 dXL_law_145 rfl rfl ?_ | refine v_aload_nN C 146 dXL_law_145 rfl rfl ?_ | refine v_aload_nQ C 146 dXL_law_145 rfl rfl ?_
      refine v_iload_n C 147 dXL_law_146 rfl rfl ?_
      refine v_iconst C 148 dXL_law_147 rfl (nI 5) (by decide) ?_
      refine v_iadd C 149 dXL_law_148 rfl ?_
      refine v_sld C 150 dXL_law_149 rfl (2 + 6 * c + 5) (nI_add _ _) (by omega) (by omega) ?_
      refine v_ri 153 (cl_XL_21 C ((c_S_put g hw B hc hF (gx_x g (2 + 6 * c + 1)) (gx_x g (2 + 6 * c + 2)) (gx_x g (2 + 6 * c + 3)) (gx_x g (2 + 6 * c + 4)) (gx_x g (2 + 6 * c + 5)))) h2 dXL_law_150 rfl rfl (Nat.le_of_ble_eq_true rfl) (Nat.le_of_ble_eq_true rfl) (Nat.le_of_ble_eq_true rfl) (by omega) (by omega)) rfl (fun r1 M1 hr1 => ?_)
      obtain ⟨rfl, K1, v1⟩ := hr1
      have hr1 := hr.k K1
      obtain ⟨fs1, fb1⟩ := rp_b hr1
      first | refine v_aload_n C 154 dXL_law_153 rfl rfl ?_ | refine v_aload_nN C 154 dXL_law_153 rfl rfl ?_ | refine v_aload_nQ C 154 dXL_law_153 rfl rfl ?_
      first | refine v_aload_n C 155 dXL_law_154 rfl rfl ?_ | refine v_aload_nN C 155 dXL_law_154 rfl rfl ?_ | refine v_aload_nQ C 155 dXL_law_154 rfl rfl ?_
      refine v_iload_n C 156 dXL_law_155 rfl rfl ?_
      refine v_iconst C 157 dXL_law_156 rfl (nI 1) (by decide) ?_
      refine v_iadd C 158 dXL_law_157 rfl ?_
      refine v_sld C 159 dXL_law_158 rfl (2 + 6 * c + 1) (nI_add _ _) (by omega) (by omega) ?_
      first | refine v_aload_n C 160 dXL_law_159 rfl rfl ?_ | refine v_aload_nN C 160 dXL_law_159 rfl rfl ?_ | refine v_aload_nQ C 160 dXL_law_159 rfl rfl ?_
      refine v_iload_n C 161 dXL_law_160 rfl rfl ?_
      refine v_iconst C 162 dXL_law_161 rfl (nI 2) (by decide) ?_
      refine v_iadd C 163 dXL_law_162 rfl ?_
      refine v_sld C 164 dXL_law_163 rfl (2 + 6 * c + 2) (nI_add _ _) (by omega) (by omega) ?_
      first | refine v_aload_n C 165 dXL_law_164 rfl rfl ?_ | refine v_aload_nN C 165 dXL_law_164 rfl rfl ?_ | refine v_aload_nQ C 165 dXL_law_164 rfl rfl ?_
      refine v_iload_n C 166 dXL_law_165 rfl rfl ?_
      refine v_iconst C 167 dXL_law_166 rfl (nI 3) (by decide) ?_
      refine v_iadd C 168 dXL_law_167 rfl ?_
      refine v_sld C 169 dXL_law_168 rfl (2 + 6 * c + 3) (nI_add _ _) (by omega) (by omega) ?_
      first | refine v_aload_n C 170 dXL_law_169 rfl rfl ?_ | refine v_aload_nN C 170 dXL_law_169 rfl rfl ?_ | refine v_aload_nQ C 170 dXL_law_169 rfl rfl ?_
      refine v_iload_n C 171 dXL_law_170 rfl rfl ?_
      refine v_iconst C 172 dXL_law_171 rfl (nI 4) (by decide) ?_
      refine v_iadd C 173 dXL_law_172 rfl ?_
      refine v_sld C 174 dXL_law_173 rfl (2 + 6 * c + 4) (nI_add _ _) (by omega) (by omega) ?_
      first | refine v_aload_n C 175 dXL_law_174 rfl rfl ?_ | refine v_aload_nN C 175 dXL_law_174 rfl rfl ?_ | refine v_aload_nQ C 175 dXL_law_174 rfl rfl ?_
      refine v_iload_n C 176 dXL_law_175 rfl rfl ?_
      refine v_iconst C 177 dXL_law_176 rfl (nI 5) (by decide) ?_
      refine v_iadd C 178 dXL_law_177 rfl ?_
      refine v_sld C 179 dXL_law_178 rfl (2 + 6 * c + 5) (nI_add _ _) (by omega) (by omega) ?_
      refine v_ri 182 (cl_XL_25 C ((c_M_put g hr1 B hc (gx_x g (2 + 6 * c + 1)) (gx_x g (2 + 6 * c + 2)) (gx_x g (2 + 6 * c + 3)) (gx_x g (2 + 6 * c + 4)) (gx_x g (2 + 6 * c + 5)))) fb1 dXL_law_179 rfl rfl (Nat.le_of_ble_eq_true rfl) (Nat.le_of_ble_eq_true rfl) (Nat.le_of_ble_eq_true rfl) (by omega) (by omega)) rfl (fun r2 M2 hr2 => ?_)
      obtain ⟨rfl, K2, v2⟩ := hr2
      refine v_icmp_eq C 185 536 dXL_law_182 rfl rfl (fun h9 => ?_) (fun h9 => False.elim (by first | exact h9 ((rfl)) | exact absurd h9 ((rfl))))
      exact nxt M2 _ _ _ hc (v1.kF K2) v2 (sb_put B hc _ _ _ _ _) (by omega) (by omega)
    by_cases w1 : w = 1
    · subst w1
      refine v_tableIn C 187 dXL_law_53 (by decide) (by decide) rfl rfl ?_
      have hmg := mg_2 (dl_del S (gx_x g (2 + 6 * c + 1)) (gx_x g (2 + 6 * c + 2)) (gx_x g (2 + 6 * c + 3)))
      first | refine v_aload_n C 188 dXL_law_187 rfl rfl ?_ | refine v_aload_nN C 188 dXL_law_187 rfl rfl ?_ | refine v_aload_nQ C 188 dXL_law_187 rfl rfl ?_
      first | refine v_aload_n C 189 dXL_law_188 rfl rfl ?_ | refine v_aload_nN C 189 dXL_law_188 rfl rfl ?_ | refine v_aload_nQ C 189 dXL_law_188 rfl rfl ?_
      refine v_iload_n C 190 dXL_law_189 rfl rfl ?_
      refine v_iconst C 191 dXL_law_190 rfl (nI 1) (by decide) ?_
      refine v_iadd C 192 dXL_law_191 rfl ?_
      refine v_sld C 193 dXL_law_192 rfl (2 + 6 * c + 1) (nI_add _ _) (by omega) (by omega) ?_
      first | refine v_aload_n C 194 dXL_law_193 rfl rfl ?_ | refine v_aload_nN C 194 dXL_law_193 rfl rfl ?_ | refine v_aload_nQ C 194 dXL_law_193 rfl rfl ?_
      refine v_iload_n C 195 dXL_law_194 rfl rfl ?_
      refine v_iconst C 196 dXL_law_195 rfl (nI 2) (by decide) ?_
      refine v_iadd C 197 dXL_law_196 rfl ?_
      refine v_sld C 198 dXL_law_197 rfl (2 + 6 * c + 2) (nI_add _ _) (by omega) (by omega) ?_
      first | refine v_aload_n C 199 dXL_law_198 rfl rfl ?_ | refine v_aload_nN C 199 dXL_law_198 rfl rfl ?_ | refine v_aload_nQ C 199 dXL_law_198 rfl rfl ?_
      refine v_iload_n C 200 dXL_law_199 rfl rfl ?_
      refine v_iconst C 201 dXL_law_200 rfl (nI 3) (by decide) ?_
      refine v_iadd C 202 dXL_law_201 rfl ?_
      refine v_sld C 203 dXL_law_202 rfl (2 + 6 * c + 3) (nI_add _ _) (by omega) (by omega) ?_
      refine v_ri 206 (cl_XL_26 C ((c_S_delete g hw B hc hF (gx_x g (2 + 6 * c + 1)) (gx_x g (2 + 6 * c + 2)) (gx_x g (2 + 6 * c + 3)))) h2 dXL_law_203 rfl rfl (Nat.le_of_ble_eq_true rfl) (Nat.le_of_ble_eq_true rfl) (Nat.le_of_ble_eq_true rfl) (by omega) (by omega)) rfl (fun r1 M1 hr1 => ?_)
      obtain ⟨rfl, K1, v1⟩ := hr1
      have hr1 := hr.k K1
      obtain ⟨fs1, fb1⟩ := rp_b hr1
      first | refine v_aload_n C 207 dXL_law_206 rfl rfl ?_ | refine v_aload_nN C 207 dXL_law_206 rfl rfl ?_ | refine v_aload_nQ C 207 dXL_law_206 rfl rfl ?_
      first | refine v_aload_n C 208 dXL_law_207 rfl rfl ?_ | refine v_aload_nN C 208 dXL_law_207 rfl rfl ?_ | refine v_aload_nQ C 208 dXL_law_207 rfl rfl ?_
      refine v_iload_n C 209 dXL_law_208 rfl rfl ?_
      refine v_iconst C 210 dXL_law_209 rfl (nI 1) (by decide) ?_
      refine v_iadd C 211 dXL_law_210 rfl ?_
      refine v_sld C 212 dXL_law_211 rfl (2 + 6 * c + 1) (nI_add _ _) (by omega) (by omega) ?_
      first | refine v_aload_n C 213 dXL_law_212 rfl rfl ?_ | refine v_aload_nN C 213 dXL_law_212 rfl rfl ?_ | refine v_aload_nQ C 213 dXL_law_212 rfl rfl ?_
      refine v_iload_n C 214 dXL_law_213 rfl rfl ?_
      refine v_iconst C 215 dXL_law_214 rfl (nI 2) (by decide) ?_
      refine v_iadd C 216 dXL_law_215 rfl ?_
      refine v_sld C 217 dXL_law_216 rfl (2 + 6 * c + 2) (nI_add _ _) (by omega) (by omega) ?_
      first | refine v_aload_n C 218 dXL_law_217 rfl rfl ?_ | refine v_aload_nN C 218 dXL_law_217 rfl rfl ?_ | refine v_aload_nQ C 218 dXL_law_217 rfl rfl ?_
      refine v_iload_n C 219 dXL_law_218 rfl rfl ?_
      refine v_iconst C 220 dXL_law_219 rfl (nI 3) (by decide) ?_
      refine v_iadd C 221 dXL_law_220 rfl ?_
      refine v_sld C 222 dXL_law_221 rfl (2 + 6 * c + 3) (nI_add _ _) (by omega) (by omega) ?_
      refine v_ri 225 (cl_XL_30 C ((c_M_delete g hr1 B hc (gx_x g (2 + 6 * c + 1)) (gx_x g (2 + 6 * c + 2)) (gx_x g (2 + 6 * c + 3)))) fb1 dXL_law_222 rfl rfl (Nat.le_of_ble_eq_true rfl) (Nat.le_of_ble_eq_true rfl) (Nat.le_of_ble_eq_true rfl) (by omega) (by omega)) rfl (fun r2 M2 hr2 => ?_)
      obtain ⟨rfl, K2, v2⟩ := hr2
      refine v_icmp_eq C 228 536 dXL_law_225 rfl rfl (fun h9 => ?_) (fun h9 => False.elim (by first | exact h9 ((rfl)) | exact absurd h9 ((rfl))))
      exact nxt M2 _ _ _ hc (v1.kF K2) v2 (sb_del B hc _ _ _) (by omega) (by omega)
    by_cases w2 : w = 2
    · subst w2
      refine v_tableIn C 230 dXL_law_53 (by decide) (by decide) rfl rfl ?_
      have hmg := mg_2 (dl_wip S (gx_x g (2 + 6 * c + 1)) (gx_x g (2 + 6 * c + 2)) (gx_x g (2 + 6 * c + 3)) (gx_x g (2 + 6 * c + 4)))
      first | refine v_aload_n C 231 dXL_law_230 rfl rfl ?_ | refine v_aload_nN C 231 dXL_law_230 rfl rfl ?_ | refine v_aload_nQ C 231 dXL_law_230 rfl rfl ?_
      first | refine v_aload_n C 232 dXL_law_231 rfl rfl ?_ | refine v_aload_nN C 232 dXL_law_231 rfl rfl ?_ | refine v_aload_nQ C 232 dXL_law_231 rfl rfl ?_
      refine v_iload_n C 233 dXL_law_232 rfl rfl ?_
      refine v_iconst C 234 dXL_law_233 rfl (nI 1) (by decide) ?_
      refine v_iadd C 235 dXL_law_234 rfl ?_
      refine v_sld C 236 dXL_law_235 rfl (2 + 6 * c + 1) (nI_add _ _) (by omega) (by omega) ?_
      first | refine v_aload_n C 237 dXL_law_236 rfl rfl ?_ | refine v_aload_nN C 237 dXL_law_236 rfl rfl ?_ | refine v_aload_nQ C 237 dXL_law_236 rfl rfl ?_
      refine v_iload_n C 238 dXL_law_237 rfl rfl ?_
      refine v_iconst C 239 dXL_law_238 rfl (nI 2) (by decide) ?_
      refine v_iadd C 240 dXL_law_239 rfl ?_
      refine v_sld C 241 dXL_law_240 rfl (2 + 6 * c + 2) (nI_add _ _) (by omega) (by omega) ?_
      first | refine v_aload_n C 242 dXL_law_241 rfl rfl ?_ | refine v_aload_nN C 242 dXL_law_241 rfl rfl ?_ | refine v_aload_nQ C 242 dXL_law_241 rfl rfl ?_
      refine v_iload_n C 243 dXL_law_242 rfl rfl ?_
      refine v_iconst C 244 dXL_law_243 rfl (nI 3) (by decide) ?_
      refine v_iadd C 245 dXL_law_244 rfl ?_
      refine v_sld C 246 dXL_law_245 rfl (2 + 6 * c + 3) (nI_add _ _) (by omega) (by omega) ?_
      first | refine v_aload_n C 247 dXL_law_246 rfl rfl ?_ | refine v_aload_nN C 247 dXL_law_246 rfl rfl ?_ | refine v_aload_nQ C 247 dXL_law_246 rfl rfl ?_
      refine v_iload_n C 248 dXL_law_247 rfl rfl ?_
      refine v_iconst C 249 dXL_law_248 rfl (nI 4) (by decide) ?_
      refine v_iadd C 250 dXL_law_249 rfl ?_
      refine v_sld C 251 dXL_law_250 rfl (2 + 6 * c + 4) (nI_add _ _) (by omega) (by omega) ?_
      refine v_ri 254 (cl_XL_31 C ((c_S_wipe g hw B hc hF (gx_x g (2 + 6 * c + 1)) (gx_x g (2 + 6 * c + 2)) (gx_x g (2 + 6 * c + 3)) (gx_x g (2 + 6 * c + 4)))) h2 dXL_law_251 rfl rfl (Nat.le_of_ble_eq_true rfl) (Nat.le_of_ble_eq_true rfl) (Nat.le_of_ble_eq_true rfl) (by omega) (by omega)) rfl (fun r1 M1 hr1 => ?_)
      obtain ⟨rfl, K1, v1⟩ := hr1
      have hr1 := hr.k K1
      obtain ⟨fs1, fb1⟩ := rp_b hr1
      first | refine v_aload_n C 255 dXL_law_254 rfl rfl ?_ | refine v_aload_nN C 255 dXL_law_254 rfl rfl ?_ | refine v_aload_nQ C 255 dXL_law_254 rfl rfl ?_
      first | refine v_aload_n C 256 dXL_law_255 rfl rfl ?_ | refine v_aload_nN C 256 dXL_law_255 rfl rfl ?_ | refine v_aload_nQ C 256 dXL_law_255 rfl rfl ?_
      refine v_iload_n C 257 dXL_law_256 rfl rfl ?_
      refine v_iconst C 258 dXL_law_257 rfl (nI 1) (by decide) ?_
      refine v_iadd C 259 dXL_law_258 rfl ?_
      refine v_sld C 260 dXL_law_259 rfl (2 + 6 * c + 1) (nI_add _ _) (by omega) (by omega) ?_
      first | refine v_aload_n C 261 dXL_law_260 rfl rfl ?_ | refine v_aload_nN C 261 dXL_law_260 rfl rfl ?_ | refine v_aload_nQ C 261 dXL_law_260 rfl rfl ?_
      refine v_iload_n C 262 dXL_law_261 rfl rfl ?_
      refine v_iconst C 263 dXL_law_262 rfl (nI 2) (by decide) ?_
      refine v_iadd C 264 dXL_law_263 rfl ?_
      refine v_sld C 265 dXL_law_264 rfl (2 + 6 * c + 2) (nI_add _ _) (by omega) (by omega) ?_
      first | refine v_aload_n C 266 dXL_law_265 rfl rfl ?_ | refine v_aload_nN C 266 dXL_law_265 rfl rfl ?_ | refine v_aload_nQ C 266 dXL_law_265 rfl rfl ?_
      refine v_iload_n C 267 dXL_law_266 rfl rfl ?_
      refine v_iconst C 268 dXL_law_267 rfl (nI 3) (by decide) ?_
      refine v_iadd C 269 dXL_law_268 rfl ?_
      refine v_sld C 270 dXL_law_269 rfl (2 + 6 * c + 3) (nI_add _ _) (by omega) (by omega) ?_
      first | refine v_aload_n C 271 dXL_law_270 rfl rfl ?_ | refine v_aload_nN C 271 dXL_law_270 rfl rfl ?_ | refine v_aload_nQ C 271 dXL_law_270 rfl rfl ?_
      refine v_iload_n C 272 dXL_law_271 rfl rfl ?_
      refine v_iconst C 273 dXL_law_272 rfl (nI 4) (by decide) ?_
      refine v_iadd C 274 dXL_law_273 rfl ?_
      refine v_sld C 275 dXL_law_274 rfl (2 + 6 * c + 4) (nI_add _ _) (by omega) (by omega) ?_
      refine v_ri 278 (cl_XL_35 C ((c_M_wipe g hr1 B hc (gx_x g (2 + 6 * c + 1)) (gx_x g (2 + 6 * c + 2)) (gx_x g (2 + 6 * c + 3)) (gx_x g (2 + 6 * c + 4)))) fb1 dXL_law_275 rfl rfl (Nat.le_of_ble_eq_true rfl) (Nat.le_of_ble_eq_true rfl) (Nat.le_of_ble_eq_true rfl) (by omega) (by omega)) rfl (fun r2 M2 hr2 => ?_)
      obtain ⟨rfl, K2, v2⟩ := hr2
      refine v_icmp_eq C 281 536 dXL_law_278 rfl rfl (fun h9 => ?_) (fun h9 => False.elim (by first | exact h9 ((rfl)) | exact absurd h9 ((rfl))))
      exact nxt M2 _ _ _ hc (v1.kF K2) v2 (sb_wip B hc _ _ _ _) (by omega) (by omega)
    by_cases w3 : w = 3
    · subst w3
      refine v_tableIn C 283 dXL_law_53 (by decide) (by decide) rfl rfl ?_
      first | refine v_aload_n C 284 dXL_law_283 rfl rfl ?_ | refine v_aload_nN C 284 dXL_law_283 rfl rfl ?_ | refine v_aload_nQ C 284 dXL_law_283 rfl rfl ?_
      first | refine v_aload_n C 285 dXL_law_284 rfl rfl ?_ | refine v_aload_nN C 285 dXL_law_284 rfl rfl ?_ | refine v_aload_nQ C 285 dXL_law_284 rfl rfl ?_
      refine v_iload_n C 286 dXL_law_285 rfl rfl ?_
      refine v_iconst C 287 dXL_law_286 rfl (nI 1) (by decide) ?_
      refine v_iadd C 288 dXL_law_287 rfl ?_
      refine v_sld C 289 dXL_law_288 rfl (2 + 6 * c + 1) (nI_add _ _) (by omega) (by omega) ?_
      first | refine v_aload_n C 290 dXL_law_289 rfl rfl ?_ | refine v_aload_nN C 290 dXL_law_289 rfl rfl ?_ | refine v_aload_nQ C 290 dXL_law_289 rfl rfl ?_
      refine v_iload_n C 291 dXL_law_290 rfl rfl ?_
      refine v_iconst C 292 dXL_law_291 rfl (nI 2) (by decide) ?_
      refine v_iadd C 293 dXL_law_292 rfl ?_
      refine v_sld C 294 dXL_law_293 rfl (2 + 6 * c + 2) (nI_add _ _) (by omega) (by omega) ?_
      refine v_ri 297 (cl_XL_36 C ((c_S_get g hw (by omega) (by omega) (gx_x g (2 + 6 * c + 1)) (gx_x g (2 + 6 * c + 2)))) h2 dXL_law_294 rfl rfl (Nat.le_of_ble_eq_true rfl) (Nat.le_of_ble_eq_true rfl) (Nat.le_of_ble_eq_true rfl) (by omega) (by omega)) rfl (fun r1 M1 hr1 => ?_)
      obtain ⟨rfl, rfl⟩ := hr1
      first | refine v_aload_n C 298 dXL_law_297 rfl rfl ?_ | refine v_aload_nN C 298 dXL_law_297 rfl rfl ?_ | refine v_aload_nQ C 298 dXL_law_297 rfl rfl ?_
      first | refine v_aload_n C 299 dXL_law_298 rfl rfl ?_ | refine v_aload_nN C 299 dXL_law_298 rfl rfl ?_ | refine v_aload_nQ C 299 dXL_law_298 rfl rfl ?_
      refine v_iload_n C 300 dXL_law_299 rfl rfl ?_
      refine v_iconst C 301 dXL_law_300 rfl (nI 1) (by decide) ?_
      refine v_iadd C 302 dXL_law_301 rfl ?_
      refine v_sld C 303 dXL_law_302 rfl (2 + 6 * c + 1) (nI_add _ _) (by omega) (by omega) ?_
      first | refine v_aload_n C 304 dXL_law_303 rfl rfl ?_ | refine v_aload_nN C 304 dXL_law_303 rfl rfl ?_ | refine v_aload_nQ C 304 dXL_law_303 rfl rfl ?_
      refine v_iload_n C 305 dXL_law_304 rfl rfl ?_
      refine v_iconst C 306 dXL_law_305 rfl (nI 2) (by decide) ?_
      refine v_iadd C 307 dXL_law_306 rfl ?_
      refine v_sld C 308 dXL_law_307 rfl (2 + 6 * c + 2) (nI_add _ _) (by omega) (by omega) ?_
      refine v_ri 311 (cl_XL_40 C ((c_M_get g hr B hc (gx_x g (2 + 6 * c + 1)) (gx_x g (2 + 6 * c + 2)))) fb dXL_law_308 rfl rfl (Nat.le_of_ble_eq_true rfl) (Nat.le_of_ble_eq_true rfl) (Nat.le_of_ble_eq_true rfl) (by omega) (by omega)) rfl (fun r2 M2 hr2 => ?_)
      obtain ⟨rfl, K2, v2⟩ := hr2
      refine v_icmp_eq C 314 536 dXL_law_311 rfl rfl (fun h9 => ?_) (fun h9 => False.elim (by first | exact h9 ((rfl)) | exact absurd h9 ((rfl))))
      exact nxt M2 S _ _ hc (hw.kF K2) v2 (st_b_up B hc) (by omega) (by omega)
    by_cases w4 : w = 4
    · subst w4
      refine v_tableIn C 316 dXL_law_53 (by decide) (by decide) rfl rfl ?_
      first | refine v_aload_n C 317 dXL_law_316 rfl rfl ?_ | refine v_aload_nN C 317 dXL_law_316 rfl rfl ?_ | refine v_aload_nQ C 317 dXL_law_316 rfl rfl ?_
      first | refine v_aload_n C 318 dXL_law_317 rfl rfl ?_ | refine v_aload_nN C 318 dXL_law_317 rfl rfl ?_ | refine v_aload_nQ C 318 dXL_law_317 rfl rfl ?_
      refine v_iload_n C 319 dXL_law_318 rfl rfl ?_
      refine v_iconst C 320 dXL_law_319 rfl (nI 1) (by decide) ?_
      refine v_iadd C 321 dXL_law_320 rfl ?_
      refine v_sld C 322 dXL_law_321 rfl (2 + 6 * c + 1) (nI_add _ _) (by omega) (by omega) ?_
      first | refine v_aload_n C 323 dXL_law_322 rfl rfl ?_ | refine v_aload_nN C 323 dXL_law_322 rfl rfl ?_ | refine v_aload_nQ C 323 dXL_law_322 rfl rfl ?_
      refine v_iload_n C 324 dXL_law_323 rfl rfl ?_
      refine v_iconst C 325 dXL_law_324 rfl (nI 2) (by decide) ?_
      refine v_iadd C 326 dXL_law_325 rfl ?_
      refine v_sld C 327 dXL_law_326 rfl (2 + 6 * c + 2) (nI_add _ _) (by omega) (by omega) ?_
      refine v_ri 330 (cl_XL_41 C ((c_S_stamp g hw (by omega) (by omega) (gx_x g (2 + 6 * c + 1)) (gx_x g (2 + 6 * c + 2)))) h2 dXL_law_327 rfl rfl (Nat.le_of_ble_eq_true rfl) (Nat.le_of_ble_eq_true rfl) (Nat.le_of_ble_eq_true rfl) (by omega) (by omega)) rfl (fun r1 M1 hr1 => ?_)
      obtain ⟨rfl, rfl⟩ := hr1
      first | refine v_aload_n C 331 dXL_law_330 rfl rfl ?_ | refine v_aload_nN C 331 dXL_law_330 rfl rfl ?_ | refine v_aload_nQ C 331 dXL_law_330 rfl rfl ?_
      first | refine v_aload_n C 332 dXL_law_331 rfl rfl ?_ | refine v_aload_nN C 332 dXL_law_331 rfl rfl ?_ | refine v_aload_nQ C 332 dXL_law_331 rfl rfl ?_
      refine v_iload_n C 333 dXL_law_332 rfl rfl ?_
      refine v_iconst C 334 dXL_law_333 rfl (nI 1) (by decide) ?_
      refine v_iadd C 335 dXL_law_334 rfl ?_
      refine v_sld C 336 dXL_law_335 rfl (2 + 6 * c + 1) (nI_add _ _) (by omega) (by omega) ?_
      first | refine v_aload_n C 337 dXL_law_336 rfl rfl ?_ | refine v_aload_nN C 337 dXL_law_336 rfl rfl ?_ | refine v_aload_nQ C 337 dXL_law_336 rfl rfl ?_
      refine v_iload_n C 338 dXL_law_337 rfl rfl ?_
      refine v_iconst C 339 dXL_law_338 rfl (nI 2) (by decide) ?_
      refine v_iadd C 340 dXL_law_339 rfl ?_
      refine v_sld C 341 dXL_law_340 rfl (2 + 6 * c + 2) (nI_add _ _) (by omega) (by omega) ?_
      refine v_ri 344 (cl_XL_44 C ((c_M_stamp g hr B hc (gx_x g (2 + 6 * c + 1)) (gx_x g (2 + 6 * c + 2)))) fb dXL_law_341 rfl rfl (Nat.le_of_ble_eq_true rfl) (Nat.le_of_ble_eq_true rfl) (Nat.le_of_ble_eq_true rfl) (by omega) (by omega)) rfl (fun r2 M2 hr2 => ?_)
      obtain ⟨rfl, K2, v2⟩ := hr2
      refine v_icmp_eq C 347 536 dXL_law_344 rfl rfl (fun h9 => ?_) (fun h9 => False.elim (by first | exact h9 ((rfl)) | exact absurd h9 ((rfl))))
      exact nxt M2 S _ _ hc (hw.kF K2) v2 (st_b_up B hc) (by omega) (by omega)
    by_cases w5 : w = 5
    · subst w5
      refine v_tableIn C 349 dXL_law_53 (by decide) (by decide) rfl rfl ?_
      first | refine v_aload_n C 350 dXL_law_349 rfl rfl ?_ | refine v_aload_nN C 350 dXL_law_349 rfl rfl ?_ | refine v_aload_nQ C 350 dXL_law_349 rfl rfl ?_
      first | refine v_aload_n C 351 dXL_law_350 rfl rfl ?_ | refine v_aload_nN C 351 dXL_law_350 rfl rfl ?_ | refine v_aload_nQ C 351 dXL_law_350 rfl rfl ?_
      refine v_iload_n C 352 dXL_law_351 rfl rfl ?_
      refine v_iconst C 353 dXL_law_352 rfl (nI 1) (by decide) ?_
      refine v_iadd C 354 dXL_law_353 rfl ?_
      refine v_sld C 355 dXL_law_354 rfl (2 + 6 * c + 1) (nI_add _ _) (by omega) (by omega) ?_
      first | refine v_aload_n C 356 dXL_law_355 rfl rfl ?_ | refine v_aload_nN C 356 dXL_law_355 rfl rfl ?_ | refine v_aload_nQ C 356 dXL_law_355 rfl rfl ?_
      refine v_iload_n C 357 dXL_law_356 rfl rfl ?_
      refine v_iconst C 358 dXL_law_357 rfl (nI 2) (by decide) ?_
      refine v_iadd C 359 dXL_law_358 rfl ?_
      refine v_sld C 360 dXL_law_359 rfl (2 + 6 * c + 2) (nI_add _ _) (by omega) (by omega) ?_
      refine v_ri 363 (cl_XL_45 C ((c_S_next g hw (by omega) (by omega) (gx_x g (2 + 6 * c + 1)) (gx_x g (2 + 6 * c + 2)))) h2 dXL_law_360 rfl rfl (Nat.le_of_ble_eq_true rfl) (Nat.le_of_ble_eq_true rfl) (Nat.le_of_ble_eq_true rfl) (by omega) (by omega)) rfl (fun r1 M1 hr1 => ?_)
      obtain ⟨rfl, rfl⟩ := hr1
      first | refine v_aload_n C 364 dXL_law_363 rfl rfl ?_ | refine v_aload_nN C 364 dXL_law_363 rfl rfl ?_ | refine v_aload_nQ C 364 dXL_law_363 rfl rfl ?_
      first | refine v_aload_n C 365 dXL_law_364 rfl rfl ?_ | refine v_aload_nN C 365 dXL_law_364 rfl rfl ?_ | refine v_aload_nQ C 365 dXL_law_364 rfl rfl ?_
      refine v_iload_n C 366 dXL_law_365 rfl rfl ?_
      refine v_iconst C 367 dXL_law_366 rfl (nI 1) (by decide) ?_
      refine v_iadd C 368 dXL_law_367 rfl ?_
      refine v_sld C 369 dXL_law_368 rfl (2 + 6 * c + 1) (nI_add _ _) (by omega) (by omega) ?_
      first | refine v_aload_n C 370 dXL_law_369 rfl rfl ?_ | refine v_aload_nN C 370 dXL_law_369 rfl rfl ?_ | refine v_aload_nQ C 370 dXL_law_369 rfl rfl ?_
      refine v_iload_n C 371 dXL_law_370 rfl rfl ?_
      refine v_iconst C 372 dXL_law_371 rfl (nI 2) (by decide) ?_
      refine v_iadd C 373 dXL_law_372 rfl ?_
      refine v_sld C 374 dXL_law_373 rfl (2 + 6 * c + 2) (nI_add _ _) (by omega) (by omega) ?_
      refine v_ri 377 (cl_XL_48 C ((c_M_next g (show rw g M b A S c (600 * c) from hr) (by omega) (by omega) (by omega) b2 b4 (by omega) (gx_x g (2 + 6 * c + 1)) (gx_x g (2 + 6 * c + 2)))) fb dXL_law_374 rfl rfl (Nat.le_of_ble_eq_true rfl) (Nat.le_of_ble_eq_true rfl) (Nat.le_of_ble_eq_true rfl) (by omega) (by omega)) rfl (fun r2 M2 hr2 => ?_)
      obtain ⟨rfl, K2, v2⟩ := hr2
      refine v_icmp_eq C 380 536 dXL_law_377 rfl rfl (fun h9 => ?_) (fun h9 => False.elim (by first | exact h9 ((rfl)) | exact absurd h9 ((rfl))))
      exact nxt M2 S _ _ hc (hw.kF K2) (rw.mono v2 (by omega) (by omega)) (st_b_up B hc) (by omega) (by omega)
    by_cases w6 : w = 6
    · subst w6
      refine v_tableIn C 382 dXL_law_53 (by decide) (by decide) rfl rfl ?_
      first | refine v_aload_n C 383 dXL_law_382 rfl rfl ?_ | refine v_aload_nN C 383 dXL_law_382 rfl rfl ?_ | refine v_aload_nQ C 383 dXL_law_382 rfl rfl ?_
      first | refine v_aload_n C 384 dXL_law_383 rfl rfl ?_ | refine v_aload_nN C 384 dXL_law_383 rfl rfl ?_ | refine v_aload_nQ C 384 dXL_law_383 rfl rfl ?_
      refine v_iload_n C 385 dXL_law_384 rfl rfl ?_
      refine v_iconst C 386 dXL_law_385 rfl (nI 1) (by decide) ?_
      refine v_iadd C 387 dXL_law_386 rfl ?_
      refine v_sld C 388 dXL_law_387 rfl (2 + 6 * c + 1) (nI_add _ _) (by omega) (by omega) ?_
      refine v_ri 391 (cl_XL_49 C ((c_S_nextRow g hw (by omega) (by omega) (gx_x g (2 + 6 * c + 1)))) h2 dXL_law_388 rfl rfl (Nat.le_of_ble_eq_true rfl) (Nat.le_of_ble_eq_true rfl) (Nat.le_of_ble_eq_true rfl) (by omega) (by omega)) rfl (fun r1 M1 hr1 => ?_)
      obtain ⟨rfl, rfl⟩ := hr1
      first | refine v_aload_n C 392 dXL_law_391 rfl rfl ?_ | refine v_aload_nN C 392 dXL_law_391 rfl rfl ?_ | refine v_aload_nQ C 392 dXL_law_391 rfl rfl ?_
      first | refine v_aload_n C 393 dXL_law_392 rfl rfl ?_ | refine v_aload_nN C 393 dXL_law_392 rfl rfl ?_ | refine v_aload_nQ C 393 dXL_law_392 rfl rfl ?_
      refine v_iload_n C 394 dXL_law_393 rfl rfl ?_
      refine v_iconst C 395 dXL_law_394 rfl (nI 1) (by decide) ?_
      refine v_iadd C 396 dXL_law_395 rfl ?_
      refine v_sld C 397 dXL_law_396 rfl (2 + 6 * c + 1) (nI_add _ _) (by omega) (by omega) ?_
      refine v_ri 400 (cl_XL_53 C ((c_M_nextRow g hr B hc (gx_x g (2 + 6 * c + 1)))) fb dXL_law_397 rfl rfl (Nat.le_of_ble_eq_true rfl) (Nat.le_of_ble_eq_true rfl) (Nat.le_of_ble_eq_true rfl) (by omega) (by omega)) rfl (fun r2 M2 hr2 => ?_)
      obtain ⟨rfl, K2, v2⟩ := hr2
      refine v_icmp_eq C 403 536 dXL_law_400 rfl rfl (fun h9 => ?_) (fun h9 => False.elim (by first | exact h9 ((rfl)) | exact absurd h9 ((rfl))))
      exact nxt M2 S _ _ hc (hw.kF K2) v2 (st_b_up B hc) (by omega) (by omega)
    by_cases w7 : w = 7
    · subst w7
      refine v_tableIn C 405 dXL_law_53 (by decide) (by decide) rfl rfl ?_
      have hmg := mg_2 (dl_f S)
      first | refine v_aload_n C 406 dXL_law_405 rfl rfl ?_ | refine v_aload_nN C 406 dXL_law_405 rfl rfl ?_ | refine v_aload_nQ C 406 dXL_law_405 rfl rfl ?_
      refine v_ri 409 (cl_XL_54 C ((c_S_flush g hw B hc hF )) h2 dXL_law_406 rfl rfl (Nat.le_of_ble_eq_true rfl) (Nat.le_of_ble_eq_true rfl) (Nat.le_of_ble_eq_true rfl) (by omega) (by omega)) rfl (fun r1 M1 hr1 => ?_)
      obtain ⟨rfl, K1, v1⟩ := hr1
      have hr1 := hr.k K1
      obtain ⟨fs1, fb1⟩ := rp_b hr1
      first | refine v_aload_n C 410 dXL_law_409 rfl rfl ?_ | refine v_aload_nN C 410 dXL_law_409 rfl rfl ?_ | refine v_aload_nQ C 410 dXL_law_409 rfl rfl ?_
      refine v_ri 413 (cl_XL_58 C ((c_M_flush g hr1 B hc )) fb1 dXL_law_410 rfl rfl (Nat.le_of_ble_eq_true rfl) (Nat.le_of_ble_eq_true rfl) (Nat.le_of_ble_eq_true rfl) (by omega) (by omega)) rfl (fun r2 M2 hr2 => ?_)
      obtain ⟨rfl, K2, v2⟩ := hr2
      refine v_icmp_eq C 416 536 dXL_law_413 rfl rfl (fun h9 => ?_) (fun h9 => False.elim (by first | exact h9 ((rfl)) | exact absurd h9 ((rfl))))
      exact nxt M2 _ _ _ hc (v1.kF K2) v2 (st_b_flush B hc) (by omega) (by omega)
    by_cases w8 : w = 8
    · subst w8
      refine v_tableIn C 418 dXL_law_53 (by decide) (by decide) rfl rfl ?_
      have hmg := mg_2 (dl_me S)
      first | refine v_aload_n C 419 dXL_law_418 rfl rfl ?_ | refine v_aload_nN C 419 dXL_law_418 rfl rfl ?_ | refine v_aload_nQ C 419 dXL_law_418 rfl rfl ?_
      refine v_ri 422 (cl_XL_59 C ((c_S_merge g hw B hc hF )) h2 dXL_law_419 rfl rfl (Nat.le_of_ble_eq_true rfl) (Nat.le_of_ble_eq_true rfl) (Nat.le_of_ble_eq_true rfl) (by omega) (by omega)) rfl (fun r1 M1 hr1 => ?_)
      obtain ⟨rfl, K1, v1⟩ := hr1
      have hr1 := hr.k K1
      obtain ⟨fs1, fb1⟩ := rp_b hr1
      first | refine v_aload_n C 423 dXL_law_422 rfl rfl ?_ | refine v_aload_nN C 423 dXL_law_422 rfl rfl ?_ | refine v_aload_nQ C 423 dXL_law_422 rfl rfl ?_
      refine v_ri 426 (cl_XL_62 C ((c_M_merge g hr1 B hc )) fb1 dXL_law_423 rfl rfl (Nat.le_of_ble_eq_true rfl) (Nat.le_of_ble_eq_true rfl) (Nat.le_of_ble_eq_true rfl) (by omega) (by omega)) rfl (fun r2 M2 hr2 => ?_)
      obtain ⟨rfl, K2, v2⟩ := hr2
      refine v_icmp_eq C 429 536 dXL_law_426 rfl rfl (fun h9 => ?_) (fun h9 => False.elim (by first | exact h9 ((rfl)) | exact absurd h9 ((rfl))))
      exact nxt M2 _ _ _ hc (v1.kF K2) v2 (st_b_me B hc) (by omega) (by omega)
    by_cases w9 : w = 9
    · subst w9
      refine v_tableIn C 431 dXL_law_53 (by decide) (by decide) rfl rfl ?_
      first | refine v_aload_n C 432 dXL_law_431 rfl rfl ?_ | refine v_aload_nN C 432 dXL_law_431 rfl rfl ?_ | refine v_aload_nQ C 432 dXL_law_431 rfl rfl ?_
      refine v_ri 435 (cl_XL_63 C ((c_S_sync g hw)) h2 dXL_law_432 rfl rfl (Nat.le_of_ble_eq_true rfl) (Nat.le_of_ble_eq_true rfl) (Nat.le_of_ble_eq_true rfl) (by omega) (by omega)) rfl (fun r1 M1 hr1 => ?_)
      obtain ⟨rfl, K1, v1⟩ := hr1
      have hr1 := hr.k K1
      obtain ⟨fs1, fb1⟩ := rp_b hr1
      first | refine v_aload_n C 436 dXL_law_435 rfl rfl ?_ | refine v_aload_nN C 436 dXL_law_435 rfl rfl ?_ | refine v_aload_nQ C 436 dXL_law_435 rfl rfl ?_
      refine v_ri 439 (cl_XL_66 C ((c_M_sync g hr1)) fb1 dXL_law_436 rfl rfl (Nat.le_of_ble_eq_true rfl) (Nat.le_of_ble_eq_true rfl) (Nat.le_of_ble_eq_true rfl) (by omega) (by omega)) rfl (fun r2 M2 hr2 => ?_)
      obtain ⟨rfl, K2, v2⟩ := hr2
      refine v_icmp_eq C 442 536 dXL_law_439 rfl rfl (fun h9 => ?_) (fun h9 => False.elim (by first | exact h9 ((rfl)) | exact absurd h9 ((rfl))))
      exact nxt M2 _ _ _ hc (v1.kF K2) v2 (sb_syn B hc) (by show _ + 2 * (st_runs S).length ≤ _; omega) (by show _ + 854 * (st_runs S).length ≤ _; omega)
    by_cases w10 : w = 10
    · subst w10
      refine v_tableIn C 444 dXL_law_53 (by decide) (by decide) rfl rfl ?_
      first | refine v_aload_n C 445 dXL_law_444 rfl rfl ?_ | refine v_aload_nN C 445 dXL_law_444 rfl rfl ?_ | refine v_aload_nQ C 445 dXL_law_444 rfl rfl ?_
      refine v_ri 448 (cl_XL_67 C ((c_S_crash g hw B hc)) h2 dXL_law_445 rfl rfl (Nat.le_of_ble_eq_true rfl) (Nat.le_of_ble_eq_true rfl) (Nat.le_of_ble_eq_true rfl) (by omega) (by omega)) rfl (fun r1 M1 hr1 => ?_)
      obtain ⟨rfl, K1, v1⟩ := hr1
      have hr1 := hr.k K1
      obtain ⟨fs1, fb1⟩ := rp_b hr1
      first | refine v_aload_n C 449 dXL_law_448 rfl rfl ?_ | refine v_aload_nN C 449 dXL_law_448 rfl rfl ?_ | refine v_aload_nQ C 449 dXL_law_448 rfl rfl ?_
      refine v_ri 452 (cl_XL_70 C ((c_M_crash g hr1 B hc )) fb1 dXL_law_449 rfl rfl (Nat.le_of_ble_eq_true rfl) (Nat.le_of_ble_eq_true rfl) (Nat.le_of_ble_eq_true rfl) (by omega) (by omega)) rfl (fun r2 M2 hr2 => ?_)
      obtain ⟨rfl, K2, v2⟩ := hr2
      refine v_icmp_eq C 455 536 dXL_law_452 rfl rfl (fun h9 => ?_) (fun h9 => False.elim (by first | exact h9 ((rfl)) | exact absurd h9 ((rfl))))
      exact nxt M2 _ _ _ hc (v1.kF K2) v2 (st_b_cr B hc) (by show _ + 2 * (st_runs S).length ≤ _; omega) (by show _ + 854 * (st_runs S).length ≤ _; omega)
    by_cases w11 : w = 11
    · subst w11
      refine v_tableIn C 457 dXL_law_53 (by decide) (by decide) rfl rfl ?_
      first | refine v_aload_n C 458 dXL_law_457 rfl rfl ?_ | refine v_aload_nN C 458 dXL_law_457 rfl rfl ?_ | refine v_aload_nQ C 458 dXL_law_457 rfl rfl ?_
      first | refine v_aload_n C 459 dXL_law_458 rfl rfl ?_ | refine v_aload_nN C 459 dXL_law_458 rfl rfl ?_ | refine v_aload_nQ C 459 dXL_law_458 rfl rfl ?_
      refine v_iload_n C 460 dXL_law_459 rfl rfl ?_
      refine v_iconst C 461 dXL_law_460 rfl (nI 1) (by decide) ?_
      refine v_iadd C 462 dXL_law_461 rfl ?_
      refine v_sld C 463 dXL_law_462 rfl (2 + 6 * c + 1) (nI_add _ _) (by omega) (by omega) ?_
      refine v_ri 466 (cl_XL_71 C ((c_S_tick g hw (gx_x g (2 + 6 * c + 1)))) h2 dXL_law_463 rfl rfl (Nat.le_of_ble_eq_true rfl) (Nat.le_of_ble_eq_true rfl) (Nat.le_of_ble_eq_true rfl) (by omega) (by omega)) rfl (fun r1 M1 hr1 => ?_)
      obtain ⟨rfl, K1, v1⟩ := hr1
      have hr1 := hr.k K1
      obtain ⟨fs1, fb1⟩ := rp_b hr1
      first | refine v_aload_n C 467 dXL_law_466 rfl rfl ?_ | refine v_aload_nN C 467 dXL_law_466 rfl rfl ?_ | refine v_aload_nQ C 467 dXL_law_466 rfl rfl ?_
      first | refine v_aload_n C 468 dXL_law_467 rfl rfl ?_ | refine v_aload_nN C 468 dXL_law_467 rfl rfl ?_ | refine v_aload_nQ C 468 dXL_law_467 rfl rfl ?_
      refine v_iload_n C 469 dXL_law_468 rfl rfl ?_
      refine v_iconst C 470 dXL_law_469 rfl (nI 1) (by decide) ?_
      refine v_iadd C 471 dXL_law_470 rfl ?_
      refine v_sld C 472 dXL_law_471 rfl (2 + 6 * c + 1) (nI_add _ _) (by omega) (by omega) ?_
      refine v_ri 475 (cl_XL_74 C ((c_M_tick g hr1 (gx_x g (2 + 6 * c + 1)))) fb1 dXL_law_472 rfl rfl (Nat.le_of_ble_eq_true rfl) (Nat.le_of_ble_eq_true rfl) (Nat.le_of_ble_eq_true rfl) (by omega) (by omega)) rfl (fun r2 M2 hr2 => ?_)
      obtain ⟨rfl, K2, v2⟩ := hr2
      refine v_icmp_eq C 478 536 dXL_law_475 rfl rfl (fun h9 => ?_) (fun h9 => False.elim (by first | exact h9 ((rfl)) | exact absurd h9 ((rfl))))
      exact nxt M2 _ _ _ hc (v1.kF K2) v2 (sb_tic B hc _) (by show _ + 2 * (st_runs S).length ≤ _; omega) (by show _ + 854 * (st_runs S).length ≤ _; omega)
    by_cases w12 : w = 12
    · subst w12
      refine v_tableIn C 480 dXL_law_53 (by decide) (by decide) rfl rfl ?_
      first | refine v_aload_n C 481 dXL_law_480 rfl rfl ?_ | refine v_aload_nN C 481 dXL_law_480 rfl rfl ?_ | refine v_aload_nQ C 481 dXL_law_480 rfl rfl ?_
      first | refine v_aload_n C 482 dXL_law_481 rfl rfl ?_ | refine v_aload_nN C 482 dXL_law_481 rfl rfl ?_ | refine v_aload_nQ C 482 dXL_law_481 rfl rfl ?_
      refine v_iload_n C 483 dXL_law_482 rfl rfl ?_
      refine v_iconst C 484 dXL_law_483 rfl (nI 1) (by decide) ?_
      refine v_iadd C 485 dXL_law_484 rfl ?_
      refine v_sld C 486 dXL_law_485 rfl (2 + 6 * c + 1) (nI_add _ _) (by omega) (by omega) ?_
      refine v_ri 489 (cl_XL_75 C ((c_S_count g hw (gx_x g (2 + 6 * c + 1)))) h2 dXL_law_486 rfl rfl (Nat.le_of_ble_eq_true rfl) (Nat.le_of_ble_eq_true rfl) (Nat.le_of_ble_eq_true rfl) (by omega) (by omega)) rfl (fun r1 M1 hr1 => ?_)
      obtain ⟨rfl, rfl⟩ := hr1
      first | refine v_aload_n C 490 dXL_law_489 rfl rfl ?_ | refine v_aload_nN C 490 dXL_law_489 rfl rfl ?_ | refine v_aload_nQ C 490 dXL_law_489 rfl rfl ?_
      first | refine v_aload_n C 491 dXL_law_490 rfl rfl ?_ | refine v_aload_nN C 491 dXL_law_490 rfl rfl ?_ | refine v_aload_nQ C 491 dXL_law_490 rfl rfl ?_
      refine v_iload_n C 492 dXL_law_491 rfl rfl ?_
      refine v_iconst C 493 dXL_law_492 rfl (nI 1) (by decide) ?_
      refine v_iadd C 494 dXL_law_493 rfl ?_
      refine v_sld C 495 dXL_law_494 rfl (2 + 6 * c + 1) (nI_add _ _) (by omega) (by omega) ?_
      refine v_ri 498 (cl_XL_78 C ((c_M_count g (show rw g M b A S c (600 * c) from hr) (gx_x g (2 + 6 * c + 1)))) fb dXL_law_495 rfl rfl (Nat.le_of_ble_eq_true rfl) (Nat.le_of_ble_eq_true rfl) (Nat.le_of_ble_eq_true rfl) (by omega) (by omega)) rfl (fun r2 M2 hr2 => ?_)
      obtain ⟨rfl, rfl⟩ := hr2
      refine v_icmp_eq C 501 536 dXL_law_498 rfl rfl (fun h9 => ?_) (fun h9 => False.elim (by first | exact h9 ((rfl)) | exact absurd h9 ((rfl))))
      exact nxt M S _ _ hc hw (rw.mono (show rw g M b A S c (600 * c) from hr) (by omega) (by omega)) (st_b_up B hc) (by omega) (by omega)
    by_cases w13 : w = 13
    · subst w13
      refine v_tableIn C 503 dXL_law_53 (by decide) (by decide) rfl rfl ?_
      first | refine v_aload_n C 504 dXL_law_503 rfl rfl ?_ | refine v_aload_nN C 504 dXL_law_503 rfl rfl ?_ | refine v_aload_nQ C 504 dXL_law_503 rfl rfl ?_
      first | refine v_aload_n C 505 dXL_law_504 rfl rfl ?_ | refine v_aload_nN C 505 dXL_law_504 rfl rfl ?_ | refine v_aload_nQ C 505 dXL_law_504 rfl rfl ?_
      refine v_iload_n C 506 dXL_law_505 rfl rfl ?_
      refine v_iconst C 507 dXL_law_506 rfl (nI 1) (by decide) ?_
      refine v_iadd C 508 dXL_law_507 rfl ?_
      refine v_sld C 509 dXL_law_508 rfl (2 + 6 * c + 1) (nI_add _ _) (by omega) (by omega) ?_
      first | refine v_aload_n C 510 dXL_law_509 rfl rfl ?_ | refine v_aload_nN C 510 dXL_law_509 rfl rfl ?_ | refine v_aload_nQ C 510 dXL_law_509 rfl rfl ?_
      refine v_iload_n C 511 dXL_law_510 rfl rfl ?_
      refine v_iconst C 512 dXL_law_511 rfl (nI 2) (by decide) ?_
      refine v_iadd C 513 dXL_law_512 rfl ?_
      refine v_sld C 514 dXL_law_513 rfl (2 + 6 * c + 2) (nI_add _ _) (by omega) (by omega) ?_
      refine v_ri 517 (cl_XL_79 C ((c_S_run g hw (by omega) (gx_x g (2 + 6 * c + 1)) (gx_x g (2 + 6 * c + 2)))) h2 dXL_law_514 rfl rfl (Nat.le_of_ble_eq_true rfl) (Nat.le_of_ble_eq_true rfl) (Nat.le_of_ble_eq_true rfl) (by omega) (by omega)) rfl (fun r1 M1 hr1 => ?_)
      obtain ⟨rfl, rfl⟩ := hr1
      first | refine v_aload_n C 518 dXL_law_517 rfl rfl ?_ | refine v_aload_nN C 518 dXL_law_517 rfl rfl ?_ | refine v_aload_nQ C 518 dXL_law_517 rfl rfl ?_
      first | refine v_aload_n C 519 dXL_law_518 rfl rfl ?_ | refine v_aload_nN C 519 dXL_law_518 rfl rfl ?_ | refine v_aload_nQ C 519 dXL_law_518 rfl rfl ?_
      refine v_iload_n C 520 dXL_law_519 rfl rfl ?_
      refine v_iconst C 521 dXL_law_520 rfl (nI 1) (by decide) ?_
      refine v_iadd C 522 dXL_law_521 rfl ?_
      refine v_sld C 523 dXL_law_522 rfl (2 + 6 * c + 1) (nI_add _ _) (by omega) (by omega) ?_
      first | refine v_aload_n C 524 dXL_law_523 rfl rfl ?_ | refine v_aload_nN C 524 dXL_law_523 rfl rfl ?_ | refine v_aload_nQ C 524 dXL_law_523 rfl rfl ?_
      refine v_iload_n C 525 dXL_law_524 rfl rfl ?_
      refine v_iconst C 526 dXL_law_525 rfl (nI 2) (by decide) ?_
      refine v_iadd C 527 dXL_law_526 rfl ?_
      refine v_sld C 528 dXL_law_527 rfl (2 + 6 * c + 2) (nI_add _ _) (by omega) (by omega) ?_
      refine v_ri 531 (cl_XL_82 C ((c_M_run g (show rw g M b A S c (600 * c) from hr) (by omega) (by omega) (by omega) b4 (gx_x g (2 + 6 * c + 1)) (gx_x g (2 + 6 * c + 2)))) fb dXL_law_528 rfl rfl (Nat.le_of_ble_eq_true rfl) (Nat.le_of_ble_eq_true rfl) (Nat.le_of_ble_eq_true rfl) (by omega) (by omega)) rfl (fun r2 M2 hr2 => ?_)
      obtain ⟨rfl, rfl⟩ := hr2
      refine v_icmp_eq C 534 536 dXL_law_531 rfl rfl (fun h9 => ?_) (fun h9 => False.elim (by first | exact h9 ((rfl)) | exact absurd h9 ((rfl))))
      exact nxt M S _ _ hc hw (rw.mono (show rw g M b A S c (600 * c) from hr) (by omega) (by omega)) (st_b_up B hc) (by omega) (by omega)
    have z0 : w.toInt ≠ 0 := fun z => w0 (Int32.toInt_inj.mp z)
    have z1 : w.toInt ≠ 1 := fun z => w1 (Int32.toInt_inj.mp z)
    have z2 : w.toInt ≠ 2 := fun z => w2 (Int32.toInt_inj.mp z)
    have z3 : w.toInt ≠ 3 := fun z => w3 (Int32.toInt_inj.mp z)
    have z4 : w.toInt ≠ 4 := fun z => w4 (Int32.toInt_inj.mp z)
    have z5 : w.toInt ≠ 5 := fun z => w5 (Int32.toInt_inj.mp z)
    have z6 : w.toInt ≠ 6 := fun z => w6 (Int32.toInt_inj.mp z)
    have z7 : w.toInt ≠ 7 := fun z => w7 (Int32.toInt_inj.mp z)
    have z8 : w.toInt ≠ 8 := fun z => w8 (Int32.toInt_inj.mp z)
    have z9 : w.toInt ≠ 9 := fun z => w9 (Int32.toInt_inj.mp z)
    have z10 : w.toInt ≠ 10 := fun z => w10 (Int32.toInt_inj.mp z)
    have z11 : w.toInt ≠ 11 := fun z => w11 (Int32.toInt_inj.mp z)
    have z12 : w.toInt ≠ 12 := fun z => w12 (Int32.toInt_inj.mp z)
    have z13 : w.toInt ≠ 13 := fun z => w13 (Int32.toInt_inj.mp z)
    refine v_tableOut C 536 dXL_law_53 (by omega) rfl ?_
    exact nxt M S _ _ hc hw (rw.mono (show rw g M b A S c (600 * c) from hr) (by omega) (by omega)) (st_b_up B hc) (by omega) (by omega)

