-- the law's loop
abbrev lsL (n : Nat) : List (Option Value) := [some (.ref 1000000000), some (.ref 0), some (.ref 38), some (.int (nI (9 * n)))]
abbrev scr (x : JX) (n : Nat) (k : Int32) : Int32 := xS x (ix (nI (9 * n) + k))
abbrev LQ : Option Value → JH → Prop := fun v _ => v = some (.int 1)
theorem J_bud {x : JX} {y : MethodName} {cc : ByteArray} {nL : Nat} {rt : Option FieldType} {d ck cs : Nat} {Q : Option Value → JH → Prop} {pc : Nat} {ls : List (Option Value)} {st : List Value} {h : JH} (ck' cs' : Nat) (h1 : ck' ≤ ck) (h2 : cs' ≤ cs) (k : J x y cc nL rt d ck' cs' Q pc ls st h) : J x y cc nL rt d ck cs Q pc ls st h := by
  intro p l e R s m args below meth c H locs cells slots mc ms lsA E g1 g2 g3 g4 g5
  exact k p l e R s m args below meth c H locs cells slots mc ms lsA E (by omega) (by omega) g3 g4 g5
section LW
variable {x : JX}
theorem lc_feed {n r : Nat} {h : JH} (hR : REL h n) (hn : n ≤ 511) (hb1 : vp_in (nI (9 * n) + 1) (xL x)) (hb2 : vp_in (nI (9 * n) + 2) (xL x)) (hb3 : vp_in (nI (9 * n) + 3) (xL x)) (hb4 : vp_in (nI (9 * n) + 4) (xL x)) (hb5 : vp_in (nI (9 * n) + 5) (xL x)) (hb6 : vp_in (nI (9 * n) + 6) (xL x)) (hb7 : vp_in (nI (9 * n) + 7) (xL x)) (hb8 : vp_in (nI (9 * n) + 8) (xL x)) (kN : ∀ ck cs h2, 8 * r ≤ ck → 373 * r ≤ cs → REL h2 (n + 1) → J x yL_law cL_law 4 ret 30 ck cs LQ 1037 (lsL n) [] h2) : J x yL_law cL_law 4 ret 30 (8 * (r + 1)) (373 * (r + 1)) LQ 132 (lsL n) [] h := by
  have hK := hR.1
  obtain ⟨Q1, m1, m2⟩ := z_feed (x := x) (a := scr x n 1) (b := scr x n 2) (c := scr x n 3) (d := scr x n 4) (e := scr x n 5) hR
  refine J_aload_n (pq := 133) dL_law_132 rfl rfl (J_aload_n (pq := 134) dL_law_133 rfl rfl (J_iload_n (pq := 135) dL_law_134 rfl rfl (J_iconst (pq := 136) dL_law_135 rfl c_iconst_1 (J_iadd (pq := 137) dL_law_136 rfl (J_sld (pq := 138) dL_law_137 rfl hb1 (J_aload_n (pq := 139) dL_law_138 rfl rfl (J_iload_n (pq := 140) dL_law_139 rfl rfl (J_iconst (pq := 141) dL_law_140 rfl c_iconst_2 (J_iadd (pq := 142) dL_law_141 rfl (J_sld (pq := 143) dL_law_142 rfl hb2 (J_aload_n (pq := 144) dL_law_143 rfl rfl (J_iload_n (pq := 145) dL_law_144 rfl rfl (J_iconst (pq := 146) dL_law_145 rfl c_iconst_3 (J_iadd (pq := 147) dL_law_146 rfl (J_sld (pq := 148) dL_law_147 rfl hb3 (J_aload_n (pq := 149) dL_law_148 rfl rfl (J_iload_n (pq := 150) dL_law_149 rfl rfl (J_iconst (pq := 151) dL_law_150 rfl c_iconst_4 (J_iadd (pq := 152) dL_law_151 rfl (J_sld (pq := 153) dL_law_152 rfl hb4 (J_aload_n (pq := 154) dL_law_153 rfl rfl (J_iload_n (pq := 155) dL_law_154 rfl rfl (J_iconst (pq := 156) dL_law_155 rfl c_iconst_5 (J_iadd (pq := 157) dL_law_156 rfl (J_sld (pq := 158) dL_law_157 rfl hb5 (J_virt (pq := 161) dL_law_158 rfl (m1) rfl tg_X8_feed l_L_13 vi_X8_feed (hK.at rfl) ⟨by decide, rfl⟩ (Nat.le_of_ble_eq_true rfl) (Nat.zero_le _) (Nat.zero_le _) (Nat.le_of_ble_eq_true rfl) (fun v g hq => ?_)))))))))))))))))))))))))))
  obtain ⟨w, Q2, rfl, hK1, m3, m4⟩ := m2 _ _ hq
  refine J_aload_n (pq := 162) dL_law_161 rfl rfl (J_aload_n (pq := 163) dL_law_162 rfl rfl (J_iload_n (pq := 164) dL_law_163 rfl rfl (J_iconst (pq := 165) dL_law_164 rfl c_iconst_1 (J_iadd (pq := 166) dL_law_165 rfl (J_sld (pq := 167) dL_law_166 rfl hb1 (J_aload_n (pq := 168) dL_law_167 rfl rfl (J_iload_n (pq := 169) dL_law_168 rfl rfl (J_iconst (pq := 170) dL_law_169 rfl c_iconst_2 (J_iadd (pq := 171) dL_law_170 rfl (J_sld (pq := 172) dL_law_171 rfl hb2 (J_aload_n (pq := 173) dL_law_172 rfl rfl (J_iload_n (pq := 174) dL_law_173 rfl rfl (J_iconst (pq := 175) dL_law_174 rfl c_iconst_3 (J_iadd (pq := 176) dL_law_175 rfl (J_sld (pq := 177) dL_law_176 rfl hb3 (J_aload_n (pq := 178) dL_law_177 rfl rfl (J_iload_n (pq := 179) dL_law_178 rfl rfl (J_iconst (pq := 180) dL_law_179 rfl c_iconst_4 (J_iadd (pq := 181) dL_law_180 rfl (J_sld (pq := 182) dL_law_181 rfl hb4 (J_aload_n (pq := 183) dL_law_182 rfl rfl (J_iload_n (pq := 184) dL_law_183 rfl rfl (J_iconst (pq := 185) dL_law_184 rfl c_iconst_5 (J_iadd (pq := 186) dL_law_185 rfl (J_sld (pq := 187) dL_law_186 rfl hb5 (J_virt (pq := 190) dL_law_187 rfl (m3) rfl tg_X9_feed l_L_17 vi_X9_feed (hK1.at rfl) ⟨by decide, rfl⟩ (Nat.le_of_ble_eq_true rfl) (Nat.zero_le _) (Nat.zero_le _) (Nat.le_of_ble_eq_true rfl) (fun v g hq => ?_)))))))))))))))))))))))))))
  obtain ⟨rfl, hR2⟩ := m4 _ _ hq
  refine J_icmp_eq (pq := 193) (tgt := 1037) dL_law_190 rfl rfl (fun c => ?_) (fun c => ?_)
  · exact kN _ _ _ (by omega) (by omega) hR2
  · exact absurd rfl c
theorem lc_end {n r : Nat} {h : JH} (hR : REL h n) (hn : n ≤ 511) (hb1 : vp_in (nI (9 * n) + 1) (xL x)) (hb2 : vp_in (nI (9 * n) + 2) (xL x)) (hb3 : vp_in (nI (9 * n) + 3) (xL x)) (hb4 : vp_in (nI (9 * n) + 4) (xL x)) (hb5 : vp_in (nI (9 * n) + 5) (xL x)) (hb6 : vp_in (nI (9 * n) + 6) (xL x)) (hb7 : vp_in (nI (9 * n) + 7) (xL x)) (hb8 : vp_in (nI (9 * n) + 8) (xL x)) (kN : ∀ ck cs h2, 8 * r ≤ ck → 373 * r ≤ cs → REL h2 (n + 1) → J x yL_law cL_law 4 ret 30 ck cs LQ 1037 (lsL n) [] h2) : J x yL_law cL_law 4 ret 30 (8 * (r + 1)) (373 * (r + 1)) LQ 195 (lsL n) [] h := by
  have hK := hR.1
  obtain ⟨Q1, m1, m2⟩ := z_end (x := x) (i := scr x n 1) hR
  refine J_aload_n (pq := 196) dL_law_195 rfl rfl (J_aload_n (pq := 197) dL_law_196 rfl rfl (J_iload_n (pq := 198) dL_law_197 rfl rfl (J_iconst (pq := 199) dL_law_198 rfl c_iconst_1 (J_iadd (pq := 200) dL_law_199 rfl (J_sld (pq := 201) dL_law_200 rfl hb1 (J_virt (pq := 204) dL_law_201 rfl (m1) rfl tg_X8_end l_L_18 vi_X8_end (hK.at rfl) ⟨by decide, rfl⟩ (Nat.le_of_ble_eq_true rfl) (Nat.zero_le _) (Nat.zero_le _) (Nat.le_of_ble_eq_true rfl) (fun v g hq => ?_)))))))
  obtain ⟨w, Q2, rfl, hK1, m3, m4⟩ := m2 _ _ hq
  refine J_aload_n (pq := 205) dL_law_204 rfl rfl (J_aload_n (pq := 206) dL_law_205 rfl rfl (J_iload_n (pq := 207) dL_law_206 rfl rfl (J_iconst (pq := 208) dL_law_207 rfl c_iconst_1 (J_iadd (pq := 209) dL_law_208 rfl (J_sld (pq := 210) dL_law_209 rfl hb1 (J_virt (pq := 213) dL_law_210 rfl (m3) rfl tg_X9_end l_L_22 vi_X9_end (hK1.at rfl) ⟨by decide, rfl⟩ (Nat.le_of_ble_eq_true rfl) (Nat.zero_le _) (Nat.zero_le _) (Nat.le_of_ble_eq_true rfl) (fun v g hq => ?_)))))))
  obtain ⟨rfl, hR2⟩ := m4 _ _ hq
  refine J_icmp_eq (pq := 216) (tgt := 1037) dL_law_213 rfl rfl (fun c => ?_) (fun c => ?_)
  · exact kN _ _ _ (by omega) (by omega) hR2
  · exact absurd rfl c
theorem lc_file {n r : Nat} {h : JH} (hR : REL h n) (hn : n ≤ 511) (hb1 : vp_in (nI (9 * n) + 1) (xL x)) (hb2 : vp_in (nI (9 * n) + 2) (xL x)) (hb3 : vp_in (nI (9 * n) + 3) (xL x)) (hb4 : vp_in (nI (9 * n) + 4) (xL x)) (hb5 : vp_in (nI (9 * n) + 5) (xL x)) (hb6 : vp_in (nI (9 * n) + 6) (xL x)) (hb7 : vp_in (nI (9 * n) + 7) (xL x)) (hb8 : vp_in (nI (9 * n) + 8) (xL x)) (kN : ∀ ck cs h2, 8 * r ≤ ck → 373 * r ≤ cs → REL h2 (n + 1) → J x yL_law cL_law 4 ret 30 ck cs LQ 1037 (lsL n) [] h2) : J x yL_law cL_law 4 ret 30 (8 * (r + 1)) (373 * (r + 1)) LQ 218 (lsL n) [] h := by
  have hK := hR.1
  obtain ⟨Q1, m1, m2⟩ := z_file (x := x) (v := scr x n 1) hR (by omega)
  refine J_aload_n (pq := 219) dL_law_218 rfl rfl (J_aload_n (pq := 220) dL_law_219 rfl rfl (J_iload_n (pq := 221) dL_law_220 rfl rfl (J_iconst (pq := 222) dL_law_221 rfl c_iconst_1 (J_iadd (pq := 223) dL_law_222 rfl (J_sld (pq := 224) dL_law_223 rfl hb1 (J_virt (pq := 227) dL_law_224 rfl (m1) rfl tg_X8_file l_L_23 vi_X8_file (hK.at rfl) ⟨by decide, rfl⟩ (Nat.le_of_ble_eq_true rfl) (Nat.zero_le _) (Nat.zero_le _) (Nat.le_of_ble_eq_true rfl) (fun v g hq => ?_)))))))
  obtain ⟨w, Q2, rfl, hK1, m3, m4⟩ := m2 _ _ hq
  refine J_aload_n (pq := 228) dL_law_227 rfl rfl (J_aload_n (pq := 229) dL_law_228 rfl rfl (J_iload_n (pq := 230) dL_law_229 rfl rfl (J_iconst (pq := 231) dL_law_230 rfl c_iconst_1 (J_iadd (pq := 232) dL_law_231 rfl (J_sld (pq := 233) dL_law_232 rfl hb1 (J_virt (pq := 236) dL_law_233 rfl (m3) rfl tg_X9_file l_L_26 vi_X9_file (hK1.at rfl) ⟨by decide, rfl⟩ (Nat.le_of_ble_eq_true rfl) (Nat.zero_le _) (Nat.zero_le _) (Nat.le_of_ble_eq_true rfl) (fun v g hq => ?_)))))))
  obtain ⟨rfl, hR2⟩ := m4 _ _ hq
  refine J_icmp_eq (pq := 239) (tgt := 1037) dL_law_236 rfl rfl (fun c => ?_) (fun c => ?_)
  · exact kN _ _ _ (by omega) (by omega) hR2
  · exact absurd rfl c
theorem lc_fault {n r : Nat} {h : JH} (hR : REL h n) (hn : n ≤ 511) (hb1 : vp_in (nI (9 * n) + 1) (xL x)) (hb2 : vp_in (nI (9 * n) + 2) (xL x)) (hb3 : vp_in (nI (9 * n) + 3) (xL x)) (hb4 : vp_in (nI (9 * n) + 4) (xL x)) (hb5 : vp_in (nI (9 * n) + 5) (xL x)) (hb6 : vp_in (nI (9 * n) + 6) (xL x)) (hb7 : vp_in (nI (9 * n) + 7) (xL x)) (hb8 : vp_in (nI (9 * n) + 8) (xL x)) (kN : ∀ ck cs h2, 8 * r ≤ ck → 373 * r ≤ cs → REL h2 (n + 1) → J x yL_law cL_law 4 ret 30 ck cs LQ 1037 (lsL n) [] h2) : J x yL_law cL_law 4 ret 30 (8 * (r + 1)) (373 * (r + 1)) LQ 241 (lsL n) [] h := by
  have hK := hR.1
  obtain ⟨Q1, m1, m2⟩ := z_fault (x := x) (v := scr x n 1) hR
  refine J_aload_n (pq := 242) dL_law_241 rfl rfl (J_aload_n (pq := 243) dL_law_242 rfl rfl (J_iload_n (pq := 244) dL_law_243 rfl rfl (J_iconst (pq := 245) dL_law_244 rfl c_iconst_1 (J_iadd (pq := 246) dL_law_245 rfl (J_sld (pq := 247) dL_law_246 rfl hb1 (J_virt (pq := 250) dL_law_247 rfl (m1) rfl tg_X8_fault l_L_27 vi_X8_fault (hK.at rfl) ⟨by decide, rfl⟩ (Nat.le_of_ble_eq_true rfl) (Nat.zero_le _) (Nat.zero_le _) (Nat.le_of_ble_eq_true rfl) (fun v g hq => ?_)))))))
  obtain ⟨w, Q2, rfl, hK1, m3, m4⟩ := m2 _ _ hq
  refine J_aload_n (pq := 251) dL_law_250 rfl rfl (J_aload_n (pq := 252) dL_law_251 rfl rfl (J_iload_n (pq := 253) dL_law_252 rfl rfl (J_iconst (pq := 254) dL_law_253 rfl c_iconst_1 (J_iadd (pq := 255) dL_law_254 rfl (J_sld (pq := 256) dL_law_255 rfl hb1 (J_virt (pq := 259) dL_law_256 rfl (m3) rfl tg_X9_fault l_L_30 vi_X9_fault (hK1.at rfl) ⟨by decide, rfl⟩ (Nat.le_of_ble_eq_true rfl) (Nat.zero_le _) (Nat.zero_le _) (Nat.le_of_ble_eq_true rfl) (fun v g hq => ?_)))))))
  obtain ⟨rfl, hR2⟩ := m4 _ _ hq
  refine J_icmp_eq (pq := 262) (tgt := 1037) dL_law_259 rfl rfl (fun c => ?_) (fun c => ?_)
  · exact kN _ _ _ (by omega) (by omega) hR2
  · exact absurd rfl c
theorem lc_write {n r : Nat} {h : JH} (hR : REL h n) (hn : n ≤ 511) (hb1 : vp_in (nI (9 * n) + 1) (xL x)) (hb2 : vp_in (nI (9 * n) + 2) (xL x)) (hb3 : vp_in (nI (9 * n) + 3) (xL x)) (hb4 : vp_in (nI (9 * n) + 4) (xL x)) (hb5 : vp_in (nI (9 * n) + 5) (xL x)) (hb6 : vp_in (nI (9 * n) + 6) (xL x)) (hb7 : vp_in (nI (9 * n) + 7) (xL x)) (hb8 : vp_in (nI (9 * n) + 8) (xL x)) (kN : ∀ ck cs h2, 8 * r ≤ ck → 373 * r ≤ cs → REL h2 (n + 1) → J x yL_law cL_law 4 ret 30 ck cs LQ 1037 (lsL n) [] h2) : J x yL_law cL_law 4 ret 30 (8 * (r + 1)) (373 * (r + 1)) LQ 264 (lsL n) [] h := by
  have hK := hR.1
  obtain ⟨Q1, m1, m2⟩ := z_write (x := x) (v := scr x n 1) (a := scr x n 2) (b := scr x n 3) hR
  refine J_aload_n (pq := 265) dL_law_264 rfl rfl (J_aload_n (pq := 266) dL_law_265 rfl rfl (J_iload_n (pq := 267) dL_law_266 rfl rfl (J_iconst (pq := 268) dL_law_267 rfl c_iconst_1 (J_iadd (pq := 269) dL_law_268 rfl (J_sld (pq := 270) dL_law_269 rfl hb1 (J_aload_n (pq := 271) dL_law_270 rfl rfl (J_iload_n (pq := 272) dL_law_271 rfl rfl (J_iconst (pq := 273) dL_law_272 rfl c_iconst_2 (J_iadd (pq := 274) dL_law_273 rfl (J_sld (pq := 275) dL_law_274 rfl hb2 (J_aload_n (pq := 276) dL_law_275 rfl rfl (J_iload_n (pq := 277) dL_law_276 rfl rfl (J_iconst (pq := 278) dL_law_277 rfl c_iconst_3 (J_iadd (pq := 279) dL_law_278 rfl (J_sld (pq := 280) dL_law_279 rfl hb3 (J_virt (pq := 283) dL_law_280 rfl (m1) rfl tg_X8_write l_L_31 vi_X8_write (hK.at rfl) ⟨by decide, rfl⟩ (Nat.le_of_ble_eq_true rfl) (Nat.zero_le _) (Nat.zero_le _) (Nat.le_of_ble_eq_true rfl) (fun v g hq => ?_)))))))))))))))))
  obtain ⟨w, Q2, rfl, hK1, m3, m4⟩ := m2 _ _ hq
  refine J_aload_n (pq := 284) dL_law_283 rfl rfl (J_aload_n (pq := 285) dL_law_284 rfl rfl (J_iload_n (pq := 286) dL_law_285 rfl rfl (J_iconst (pq := 287) dL_law_286 rfl c_iconst_1 (J_iadd (pq := 288) dL_law_287 rfl (J_sld (pq := 289) dL_law_288 rfl hb1 (J_aload_n (pq := 290) dL_law_289 rfl rfl (J_iload_n (pq := 291) dL_law_290 rfl rfl (J_iconst (pq := 292) dL_law_291 rfl c_iconst_2 (J_iadd (pq := 293) dL_law_292 rfl (J_sld (pq := 294) dL_law_293 rfl hb2 (J_aload_n (pq := 295) dL_law_294 rfl rfl (J_iload_n (pq := 296) dL_law_295 rfl rfl (J_iconst (pq := 297) dL_law_296 rfl c_iconst_3 (J_iadd (pq := 298) dL_law_297 rfl (J_sld (pq := 299) dL_law_298 rfl hb3 (J_virt (pq := 302) dL_law_299 rfl (m3) rfl tg_X9_write l_L_35 vi_X9_write (hK1.at rfl) ⟨by decide, rfl⟩ (Nat.le_of_ble_eq_true rfl) (Nat.zero_le _) (Nat.zero_le _) (Nat.le_of_ble_eq_true rfl) (fun v g hq => ?_)))))))))))))))))
  obtain ⟨rfl, hR2⟩ := m4 _ _ hq
  refine J_icmp_eq (pq := 305) (tgt := 1037) dL_law_302 rfl rfl (fun c => ?_) (fun c => ?_)
  · exact kN _ _ _ (by omega) (by omega) hR2
  · exact absurd rfl c
theorem lc_tape {n r : Nat} {h : JH} (hR : REL h n) (hn : n ≤ 511) (hb1 : vp_in (nI (9 * n) + 1) (xL x)) (hb2 : vp_in (nI (9 * n) + 2) (xL x)) (hb3 : vp_in (nI (9 * n) + 3) (xL x)) (hb4 : vp_in (nI (9 * n) + 4) (xL x)) (hb5 : vp_in (nI (9 * n) + 5) (xL x)) (hb6 : vp_in (nI (9 * n) + 6) (xL x)) (hb7 : vp_in (nI (9 * n) + 7) (xL x)) (hb8 : vp_in (nI (9 * n) + 8) (xL x)) (kN : ∀ ck cs h2, 8 * r ≤ ck → 373 * r ≤ cs → REL h2 (n + 1) → J x yL_law cL_law 4 ret 30 ck cs LQ 1037 (lsL n) [] h2) : J x yL_law cL_law 4 ret 30 (8 * (r + 1)) (373 * (r + 1)) LQ 307 (lsL n) [] h := by
  have hK := hR.1
  obtain ⟨Q1, m1, m2⟩ := z_tape (x := x) (i := scr x n 1) hR
  refine J_aload_n (pq := 308) dL_law_307 rfl rfl (J_aload_n (pq := 309) dL_law_308 rfl rfl (J_iload_n (pq := 310) dL_law_309 rfl rfl (J_iconst (pq := 311) dL_law_310 rfl c_iconst_1 (J_iadd (pq := 312) dL_law_311 rfl (J_sld (pq := 313) dL_law_312 rfl hb1 (J_virt (pq := 316) dL_law_313 rfl (m1) rfl tg_X8_tape l_L_36 vi_X8_tape (hK.at rfl) ⟨by decide, rfl⟩ (Nat.le_of_ble_eq_true rfl) (Nat.zero_le _) (Nat.zero_le _) (Nat.le_of_ble_eq_true rfl) (fun v g hq => ?_)))))))
  obtain ⟨w, Q2, rfl, hK1, m3, m4⟩ := m2 _ _ hq
  refine J_aload_n (pq := 317) dL_law_316 rfl rfl (J_aload_n (pq := 318) dL_law_317 rfl rfl (J_iload_n (pq := 319) dL_law_318 rfl rfl (J_iconst (pq := 320) dL_law_319 rfl c_iconst_1 (J_iadd (pq := 321) dL_law_320 rfl (J_sld (pq := 322) dL_law_321 rfl hb1 (J_virt (pq := 325) dL_law_322 rfl (m3) rfl tg_X9_tape l_L_39 vi_X9_tape (hK1.at rfl) ⟨by decide, rfl⟩ (Nat.le_of_ble_eq_true rfl) (Nat.zero_le _) (Nat.zero_le _) (Nat.le_of_ble_eq_true rfl) (fun v g hq => ?_)))))))
  obtain ⟨rfl, hR2⟩ := m4 _ _ hq
  refine J_icmp_eq (pq := 328) (tgt := 1037) dL_law_325 rfl rfl (fun c => ?_) (fun c => ?_)
  · exact kN _ _ _ (by omega) (by omega) hR2
  · exact absurd rfl c
theorem lc_image {n r : Nat} {h : JH} (hR : REL h n) (hn : n ≤ 511) (hb1 : vp_in (nI (9 * n) + 1) (xL x)) (hb2 : vp_in (nI (9 * n) + 2) (xL x)) (hb3 : vp_in (nI (9 * n) + 3) (xL x)) (hb4 : vp_in (nI (9 * n) + 4) (xL x)) (hb5 : vp_in (nI (9 * n) + 5) (xL x)) (hb6 : vp_in (nI (9 * n) + 6) (xL x)) (hb7 : vp_in (nI (9 * n) + 7) (xL x)) (hb8 : vp_in (nI (9 * n) + 8) (xL x)) (kN : ∀ ck cs h2, 8 * r ≤ ck → 373 * r ≤ cs → REL h2 (n + 1) → J x yL_law cL_law 4 ret 30 ck cs LQ 1037 (lsL n) [] h2) : J x yL_law cL_law 4 ret 30 (8 * (r + 1)) (373 * (r + 1)) LQ 330 (lsL n) [] h := by
  have hK := hR.1
  obtain ⟨Q1, m1, m2⟩ := z_image (x := x) (i := scr x n 1) hR
  refine J_aload_n (pq := 331) dL_law_330 rfl rfl (J_aload_n (pq := 332) dL_law_331 rfl rfl (J_iload_n (pq := 333) dL_law_332 rfl rfl (J_iconst (pq := 334) dL_law_333 rfl c_iconst_1 (J_iadd (pq := 335) dL_law_334 rfl (J_sld (pq := 336) dL_law_335 rfl hb1 (J_virt (pq := 339) dL_law_336 rfl (m1) rfl tg_X8_image l_L_40 vi_X8_image (hK.at rfl) ⟨by decide, rfl⟩ (Nat.le_of_ble_eq_true rfl) (Nat.zero_le _) (Nat.zero_le _) (Nat.le_of_ble_eq_true rfl) (fun v g hq => ?_)))))))
  obtain ⟨w, Q2, rfl, hK1, m3, m4⟩ := m2 _ _ hq
  refine J_aload_n (pq := 340) dL_law_339 rfl rfl (J_aload_n (pq := 341) dL_law_340 rfl rfl (J_iload_n (pq := 342) dL_law_341 rfl rfl (J_iconst (pq := 343) dL_law_342 rfl c_iconst_1 (J_iadd (pq := 344) dL_law_343 rfl (J_sld (pq := 345) dL_law_344 rfl hb1 (J_virt (pq := 348) dL_law_345 rfl (m3) rfl tg_X9_image l_L_43 vi_X9_image (hK1.at rfl) ⟨by decide, rfl⟩ (Nat.le_of_ble_eq_true rfl) (Nat.zero_le _) (Nat.zero_le _) (Nat.le_of_ble_eq_true rfl) (fun v g hq => ?_)))))))
  obtain ⟨rfl, hR2⟩ := m4 _ _ hq
  refine J_icmp_eq (pq := 351) (tgt := 1037) dL_law_348 rfl rfl (fun c => ?_) (fun c => ?_)
  · exact kN _ _ _ (by omega) (by omega) hR2
  · exact absurd rfl c
theorem lc_fill {n r : Nat} {h : JH} (hR : REL h n) (hn : n ≤ 511) (hb1 : vp_in (nI (9 * n) + 1) (xL x)) (hb2 : vp_in (nI (9 * n) + 2) (xL x)) (hb3 : vp_in (nI (9 * n) + 3) (xL x)) (hb4 : vp_in (nI (9 * n) + 4) (xL x)) (hb5 : vp_in (nI (9 * n) + 5) (xL x)) (hb6 : vp_in (nI (9 * n) + 6) (xL x)) (hb7 : vp_in (nI (9 * n) + 7) (xL x)) (hb8 : vp_in (nI (9 * n) + 8) (xL x)) (kN : ∀ ck cs h2, 8 * r ≤ ck → 373 * r ≤ cs → REL h2 (n + 1) → J x yL_law cL_law 4 ret 30 ck cs LQ 1037 (lsL n) [] h2) : J x yL_law cL_law 4 ret 30 (8 * (r + 1)) (373 * (r + 1)) LQ 353 (lsL n) [] h := by
  have hK := hR.1
  obtain ⟨Q1, m1, m2⟩ := z_fill (x := x) (v := scr x n 1) hR
  refine J_aload_n (pq := 354) dL_law_353 rfl rfl (J_aload_n (pq := 355) dL_law_354 rfl rfl (J_iload_n (pq := 356) dL_law_355 rfl rfl (J_iconst (pq := 357) dL_law_356 rfl c_iconst_1 (J_iadd (pq := 358) dL_law_357 rfl (J_sld (pq := 359) dL_law_358 rfl hb1 (J_virt (pq := 362) dL_law_359 rfl (m1) rfl tg_X8_fill l_L_44 vi_X8_fill (hK.at rfl) ⟨by decide, rfl⟩ (Nat.le_of_ble_eq_true rfl) (Nat.zero_le _) (Nat.zero_le _) (Nat.le_of_ble_eq_true rfl) (fun v g hq => ?_)))))))
  obtain ⟨w, Q2, rfl, hK1, m3, m4⟩ := m2 _ _ hq
  refine J_aload_n (pq := 363) dL_law_362 rfl rfl (J_aload_n (pq := 364) dL_law_363 rfl rfl (J_iload_n (pq := 365) dL_law_364 rfl rfl (J_iconst (pq := 366) dL_law_365 rfl c_iconst_1 (J_iadd (pq := 367) dL_law_366 rfl (J_sld (pq := 368) dL_law_367 rfl hb1 (J_virt (pq := 371) dL_law_368 rfl (m3) rfl tg_X9_fill l_L_48 vi_X9_fill (hK1.at rfl) ⟨by decide, rfl⟩ (Nat.le_of_ble_eq_true rfl) (Nat.zero_le _) (Nat.zero_le _) (Nat.le_of_ble_eq_true rfl) (fun v g hq => ?_)))))))
  obtain ⟨rfl, hR2⟩ := m4 _ _ hq
  refine J_icmp_eq (pq := 374) (tgt := 1037) dL_law_371 rfl rfl (fun c => ?_) (fun c => ?_)
  · exact kN _ _ _ (by omega) (by omega) hR2
  · exact absurd rfl c
theorem lc_chip {n r : Nat} {h : JH} (hR : REL h n) (hn : n ≤ 511) (hb1 : vp_in (nI (9 * n) + 1) (xL x)) (hb2 : vp_in (nI (9 * n) + 2) (xL x)) (hb3 : vp_in (nI (9 * n) + 3) (xL x)) (hb4 : vp_in (nI (9 * n) + 4) (xL x)) (hb5 : vp_in (nI (9 * n) + 5) (xL x)) (hb6 : vp_in (nI (9 * n) + 6) (xL x)) (hb7 : vp_in (nI (9 * n) + 7) (xL x)) (hb8 : vp_in (nI (9 * n) + 8) (xL x)) (kN : ∀ ck cs h2, 8 * r ≤ ck → 373 * r ≤ cs → REL h2 (n + 1) → J x yL_law cL_law 4 ret 30 ck cs LQ 1037 (lsL n) [] h2) : J x yL_law cL_law 4 ret 30 (8 * (r + 1)) (373 * (r + 1)) LQ 376 (lsL n) [] h := by
  have hK := hR.1
  obtain ⟨Q1, m1, m2⟩ := z_chip (x := x) (sz := scr x n 1) (id := scr x n 2) (er := bi (decide (¬ scr x n 3 = 0))) (le := scr x n 4) (mo := scr x n 5) (be := scr x n 6) (ex := scr x n 7) (li := scr x n 8) hR (by omega) (bi_or _)
  refine J_cut (σ := Unit) 400 (fun _ => lsL n) (fun _ => [.int (bi (decide (¬ scr x n 3 = 0))), .int (scr x n 2), .int (scr x n 1), .ref 0]) (fun _ => h) (fun _ => True) (fun _ _ => ?_) (fun kc => ?_)
  rotate_left
  · refine J_aload_n (pq := 377) dL_law_376 rfl rfl (J_aload_n (pq := 378) dL_law_377 rfl rfl (J_iload_n (pq := 379) dL_law_378 rfl rfl (J_iconst (pq := 380) dL_law_379 rfl c_iconst_1 (J_iadd (pq := 381) dL_law_380 rfl (J_sld (pq := 382) dL_law_381 rfl hb1 (J_aload_n (pq := 383) dL_law_382 rfl rfl (J_iload_n (pq := 384) dL_law_383 rfl rfl (J_iconst (pq := 385) dL_law_384 rfl c_iconst_2 (J_iadd (pq := 386) dL_law_385 rfl (J_sld (pq := 387) dL_law_386 rfl hb2 (J_aload_n (pq := 388) dL_law_387 rfl rfl (J_iload_n (pq := 389) dL_law_388 rfl rfl (J_iconst (pq := 390) dL_law_389 rfl c_iconst_3 (J_iadd (pq := 391) dL_law_390 rfl (J_sld (pq := 392) dL_law_391 rfl hb3 (J_if_eq (pq := 395) (tgt := 399) dL_law_392 rfl rfl (fun c => ?_) (fun c => ?_)))))))))))))))))
    · have e0 : bi (decide (¬ scr x n 3 = 0)) = 0 := by rw [decide_eq_false (fun z => z c)]; rfl
      rw [e0] at kc
      refine J_iconst (pq := 400) dL_law_399 rfl c_iconst_0 (?_)
      exact kc () trivial
    · have e0 : bi (decide (¬ scr x n 3 = 0)) = 1 := by rw [decide_eq_true c]; rfl
      rw [e0] at kc
      refine J_iconst (pq := 396) dL_law_395 rfl c_iconst_1 (J_goto (tgt := 400) dL_law_396 rfl (?_))
      exact kc () trivial
  refine J_aload_n (pq := 401) dL_law_400 rfl rfl (J_iload_n (pq := 402) dL_law_401 rfl rfl (J_iconst (pq := 403) dL_law_402 rfl c_iconst_4 (J_iadd (pq := 404) dL_law_403 rfl (J_sld (pq := 405) dL_law_404 rfl hb4 (J_aload_n (pq := 406) dL_law_405 rfl rfl (J_iload_n (pq := 407) dL_law_406 rfl rfl (J_iconst (pq := 408) dL_law_407 rfl c_iconst_5 (J_iadd (pq := 409) dL_law_408 rfl (J_sld (pq := 410) dL_law_409 rfl hb5 (J_aload_n (pq := 411) dL_law_410 rfl rfl (J_iload_n (pq := 412) dL_law_411 rfl rfl (J_bipush (pq := 414) dL_law_412 rfl c_bipush_6 (J_iadd (pq := 415) dL_law_414 rfl (J_sld (pq := 416) dL_law_415 rfl hb6 (J_aload_n (pq := 417) dL_law_416 rfl rfl (J_iload_n (pq := 418) dL_law_417 rfl rfl (J_bipush (pq := 420) dL_law_418 rfl c_bipush_7 (J_iadd (pq := 421) dL_law_420 rfl (J_sld (pq := 422) dL_law_421 rfl hb7 (J_aload_n (pq := 423) dL_law_422 rfl rfl (J_iload_n (pq := 424) dL_law_423 rfl rfl (J_bipush (pq := 426) dL_law_424 rfl c_bipush_8 (J_iadd (pq := 427) dL_law_426 rfl (J_sld (pq := 428) dL_law_427 rfl hb8 (J_virt (pq := 431) dL_law_428 rfl (m1) rfl tg_X8_chip l_L_49 vi_X8_chip (hK.at rfl) ⟨by decide, rfl⟩ (Nat.le_of_ble_eq_true rfl) (by omega) (by omega) (Nat.le_of_ble_eq_true rfl) (fun v g hq => ?_))))))))))))))))))))))))))
  obtain ⟨w, Q2, rfl, hK1, m3, m4⟩ := m2 _ _ hq
  refine J_cut (σ := Unit) 455 (fun _ => lsL n) (fun _ => [.int (bi (decide (¬ scr x n 3 = 0))), .int (scr x n 2), .int (scr x n 1), .ref 38, .int w]) (fun _ => g) (fun _ => True) (fun _ _ => ?_) (fun kc => ?_)
  rotate_left
  · refine J_aload_n (pq := 432) dL_law_431 rfl rfl (J_aload_n (pq := 433) dL_law_432 rfl rfl (J_iload_n (pq := 434) dL_law_433 rfl rfl (J_iconst (pq := 435) dL_law_434 rfl c_iconst_1 (J_iadd (pq := 436) dL_law_435 rfl (J_sld (pq := 437) dL_law_436 rfl hb1 (J_aload_n (pq := 438) dL_law_437 rfl rfl (J_iload_n (pq := 439) dL_law_438 rfl rfl (J_iconst (pq := 440) dL_law_439 rfl c_iconst_2 (J_iadd (pq := 441) dL_law_440 rfl (J_sld (pq := 442) dL_law_441 rfl hb2 (J_aload_n (pq := 443) dL_law_442 rfl rfl (J_iload_n (pq := 444) dL_law_443 rfl rfl (J_iconst (pq := 445) dL_law_444 rfl c_iconst_3 (J_iadd (pq := 446) dL_law_445 rfl (J_sld (pq := 447) dL_law_446 rfl hb3 (J_if_eq (pq := 450) (tgt := 454) dL_law_447 rfl rfl (fun c => ?_) (fun c => ?_)))))))))))))))))
    · have e0 : bi (decide (¬ scr x n 3 = 0)) = 0 := by rw [decide_eq_false (fun z => z c)]; rfl
      rw [e0] at kc
      refine J_iconst (pq := 455) dL_law_454 rfl c_iconst_0 (?_)
      exact kc () trivial
    · have e0 : bi (decide (¬ scr x n 3 = 0)) = 1 := by rw [decide_eq_true c]; rfl
      rw [e0] at kc
      refine J_iconst (pq := 451) dL_law_450 rfl c_iconst_1 (J_goto (tgt := 455) dL_law_451 rfl (?_))
      exact kc () trivial
  refine J_aload_n (pq := 456) dL_law_455 rfl rfl (J_iload_n (pq := 457) dL_law_456 rfl rfl (J_iconst (pq := 458) dL_law_457 rfl c_iconst_4 (J_iadd (pq := 459) dL_law_458 rfl (J_sld (pq := 460) dL_law_459 rfl hb4 (J_aload_n (pq := 461) dL_law_460 rfl rfl (J_iload_n (pq := 462) dL_law_461 rfl rfl (J_iconst (pq := 463) dL_law_462 rfl c_iconst_5 (J_iadd (pq := 464) dL_law_463 rfl (J_sld (pq := 465) dL_law_464 rfl hb5 (J_aload_n (pq := 466) dL_law_465 rfl rfl (J_iload_n (pq := 467) dL_law_466 rfl rfl (J_bipush (pq := 469) dL_law_467 rfl c_bipush_6 (J_iadd (pq := 470) dL_law_469 rfl (J_sld (pq := 471) dL_law_470 rfl hb6 (J_aload_n (pq := 472) dL_law_471 rfl rfl (J_iload_n (pq := 473) dL_law_472 rfl rfl (J_bipush (pq := 475) dL_law_473 rfl c_bipush_7 (J_iadd (pq := 476) dL_law_475 rfl (J_sld (pq := 477) dL_law_476 rfl hb7 (J_aload_n (pq := 478) dL_law_477 rfl rfl (J_iload_n (pq := 479) dL_law_478 rfl rfl (J_bipush (pq := 481) dL_law_479 rfl c_bipush_8 (J_iadd (pq := 482) dL_law_481 rfl (J_sld (pq := 483) dL_law_482 rfl hb8 (J_virt (pq := 486) dL_law_483 rfl (m3) rfl tg_X9_chip l_L_53 vi_X9_chip (hK1.at rfl) ⟨by decide, rfl⟩ (Nat.le_of_ble_eq_true rfl) (Nat.zero_le _) (Nat.zero_le _) (Nat.le_of_ble_eq_true rfl) (fun v g hq => ?_))))))))))))))))))))))))))
  obtain ⟨rfl, hR2⟩ := m4 _ _ hq
  refine J_icmp_eq (pq := 489) (tgt := 1037) dL_law_486 rfl rfl (fun c => ?_) (fun c => ?_)
  · exact kN _ _ _ (by omega) (by omega) hR2
  · exact absurd rfl c
theorem lc_need {n r : Nat} {h : JH} (hR : REL h n) (hn : n ≤ 511) (hb1 : vp_in (nI (9 * n) + 1) (xL x)) (hb2 : vp_in (nI (9 * n) + 2) (xL x)) (hb3 : vp_in (nI (9 * n) + 3) (xL x)) (hb4 : vp_in (nI (9 * n) + 4) (xL x)) (hb5 : vp_in (nI (9 * n) + 5) (xL x)) (hb6 : vp_in (nI (9 * n) + 6) (xL x)) (hb7 : vp_in (nI (9 * n) + 7) (xL x)) (hb8 : vp_in (nI (9 * n) + 8) (xL x)) (kN : ∀ ck cs h2, 8 * r ≤ ck → 373 * r ≤ cs → REL h2 (n + 1) → J x yL_law cL_law 4 ret 30 ck cs LQ 1037 (lsL n) [] h2) : J x yL_law cL_law 4 ret 30 (8 * (r + 1)) (373 * (r + 1)) LQ 491 (lsL n) [] h := by
  have hK := hR.1
  obtain ⟨Q1, m1, m2⟩ := z_need (x := x) (v := scr x n 1) (a := scr x n 2) (w := scr x n 3) hR
  refine J_aload_n (pq := 492) dL_law_491 rfl rfl (J_aload_n (pq := 493) dL_law_492 rfl rfl (J_iload_n (pq := 494) dL_law_493 rfl rfl (J_iconst (pq := 495) dL_law_494 rfl c_iconst_1 (J_iadd (pq := 496) dL_law_495 rfl (J_sld (pq := 497) dL_law_496 rfl hb1 (J_aload_n (pq := 498) dL_law_497 rfl rfl (J_iload_n (pq := 499) dL_law_498 rfl rfl (J_iconst (pq := 500) dL_law_499 rfl c_iconst_2 (J_iadd (pq := 501) dL_law_500 rfl (J_sld (pq := 502) dL_law_501 rfl hb2 (J_aload_n (pq := 503) dL_law_502 rfl rfl (J_iload_n (pq := 504) dL_law_503 rfl rfl (J_iconst (pq := 505) dL_law_504 rfl c_iconst_3 (J_iadd (pq := 506) dL_law_505 rfl (J_sld (pq := 507) dL_law_506 rfl hb3 (J_virt (pq := 510) dL_law_507 rfl (m1) rfl tg_X8_need l_L_54 vi_X8_need (hK.at rfl) ⟨by decide, rfl⟩ (Nat.le_of_ble_eq_true rfl) (Nat.zero_le _) (Nat.zero_le _) (Nat.le_of_ble_eq_true rfl) (fun v g hq => ?_)))))))))))))))))
  obtain ⟨w, Q2, rfl, hK1, m3, m4⟩ := m2 _ _ hq
  refine J_aload_n (pq := 511) dL_law_510 rfl rfl (J_aload_n (pq := 512) dL_law_511 rfl rfl (J_iload_n (pq := 513) dL_law_512 rfl rfl (J_iconst (pq := 514) dL_law_513 rfl c_iconst_1 (J_iadd (pq := 515) dL_law_514 rfl (J_sld (pq := 516) dL_law_515 rfl hb1 (J_aload_n (pq := 517) dL_law_516 rfl rfl (J_iload_n (pq := 518) dL_law_517 rfl rfl (J_iconst (pq := 519) dL_law_518 rfl c_iconst_2 (J_iadd (pq := 520) dL_law_519 rfl (J_sld (pq := 521) dL_law_520 rfl hb2 (J_aload_n (pq := 522) dL_law_521 rfl rfl (J_iload_n (pq := 523) dL_law_522 rfl rfl (J_iconst (pq := 524) dL_law_523 rfl c_iconst_3 (J_iadd (pq := 525) dL_law_524 rfl (J_sld (pq := 526) dL_law_525 rfl hb3 (J_virt (pq := 529) dL_law_526 rfl (m3) rfl tg_X9_need l_L_58 vi_X9_need (hK1.at rfl) ⟨by decide, rfl⟩ (Nat.le_of_ble_eq_true rfl) (Nat.zero_le _) (Nat.zero_le _) (Nat.le_of_ble_eq_true rfl) (fun v g hq => ?_)))))))))))))))))
  obtain ⟨rfl, hR2⟩ := m4 _ _ hq
  refine J_icmp_eq (pq := 532) (tgt := 1037) dL_law_529 rfl rfl (fun c => ?_) (fun c => ?_)
  · exact kN _ _ _ (by omega) (by omega) hR2
  · exact absurd rfl c
theorem lc_bad {n r : Nat} {h : JH} (hR : REL h n) (hn : n ≤ 511) (hb1 : vp_in (nI (9 * n) + 1) (xL x)) (hb2 : vp_in (nI (9 * n) + 2) (xL x)) (hb3 : vp_in (nI (9 * n) + 3) (xL x)) (hb4 : vp_in (nI (9 * n) + 4) (xL x)) (hb5 : vp_in (nI (9 * n) + 5) (xL x)) (hb6 : vp_in (nI (9 * n) + 6) (xL x)) (hb7 : vp_in (nI (9 * n) + 7) (xL x)) (hb8 : vp_in (nI (9 * n) + 8) (xL x)) (kN : ∀ ck cs h2, 8 * r ≤ ck → 373 * r ≤ cs → REL h2 (n + 1) → J x yL_law cL_law 4 ret 30 ck cs LQ 1037 (lsL n) [] h2) : J x yL_law cL_law 4 ret 30 (8 * (r + 1)) (373 * (r + 1)) LQ 534 (lsL n) [] h := by
  have hK := hR.1
  obtain ⟨Q1, m1, m2⟩ := z_bad (x := x) (v := scr x n 1) (a := scr x n 2) (w := bi (decide (¬ scr x n 3 = 0))) hR
  refine J_cut (σ := Unit) 558 (fun _ => lsL n) (fun _ => [.int (bi (decide (¬ scr x n 3 = 0))), .int (scr x n 2), .int (scr x n 1), .ref 0]) (fun _ => h) (fun _ => True) (fun _ _ => ?_) (fun kc => ?_)
  rotate_left
  · refine J_aload_n (pq := 535) dL_law_534 rfl rfl (J_aload_n (pq := 536) dL_law_535 rfl rfl (J_iload_n (pq := 537) dL_law_536 rfl rfl (J_iconst (pq := 538) dL_law_537 rfl c_iconst_1 (J_iadd (pq := 539) dL_law_538 rfl (J_sld (pq := 540) dL_law_539 rfl hb1 (J_aload_n (pq := 541) dL_law_540 rfl rfl (J_iload_n (pq := 542) dL_law_541 rfl rfl (J_iconst (pq := 543) dL_law_542 rfl c_iconst_2 (J_iadd (pq := 544) dL_law_543 rfl (J_sld (pq := 545) dL_law_544 rfl hb2 (J_aload_n (pq := 546) dL_law_545 rfl rfl (J_iload_n (pq := 547) dL_law_546 rfl rfl (J_iconst (pq := 548) dL_law_547 rfl c_iconst_3 (J_iadd (pq := 549) dL_law_548 rfl (J_sld (pq := 550) dL_law_549 rfl hb3 (J_if_eq (pq := 553) (tgt := 557) dL_law_550 rfl rfl (fun c => ?_) (fun c => ?_)))))))))))))))))
    · have e0 : bi (decide (¬ scr x n 3 = 0)) = 0 := by rw [decide_eq_false (fun z => z c)]; rfl
      rw [e0] at kc
      refine J_iconst (pq := 558) dL_law_557 rfl c_iconst_0 (?_)
      exact kc () trivial
    · have e0 : bi (decide (¬ scr x n 3 = 0)) = 1 := by rw [decide_eq_true c]; rfl
      rw [e0] at kc
      refine J_iconst (pq := 554) dL_law_553 rfl c_iconst_1 (J_goto (tgt := 558) dL_law_554 rfl (?_))
      exact kc () trivial
  refine J_virt (pq := 561) dL_law_558 rfl (m1) rfl tg_X8_bad l_L_59 vi_X8_bad (hK.at rfl) ⟨by decide, rfl⟩ (Nat.le_of_ble_eq_true rfl) (Nat.zero_le _) (Nat.zero_le _) (Nat.le_of_ble_eq_true rfl) (fun v g hq => ?_)
  obtain ⟨w, Q2, rfl, hK1, m3, m4⟩ := m2 _ _ hq
  refine J_cut (σ := Unit) 585 (fun _ => lsL n) (fun _ => [.int (bi (decide (¬ scr x n 3 = 0))), .int (scr x n 2), .int (scr x n 1), .ref 38, .int w]) (fun _ => g) (fun _ => True) (fun _ _ => ?_) (fun kc => ?_)
  rotate_left
  · refine J_aload_n (pq := 562) dL_law_561 rfl rfl (J_aload_n (pq := 563) dL_law_562 rfl rfl (J_iload_n (pq := 564) dL_law_563 rfl rfl (J_iconst (pq := 565) dL_law_564 rfl c_iconst_1 (J_iadd (pq := 566) dL_law_565 rfl (J_sld (pq := 567) dL_law_566 rfl hb1 (J_aload_n (pq := 568) dL_law_567 rfl rfl (J_iload_n (pq := 569) dL_law_568 rfl rfl (J_iconst (pq := 570) dL_law_569 rfl c_iconst_2 (J_iadd (pq := 571) dL_law_570 rfl (J_sld (pq := 572) dL_law_571 rfl hb2 (J_aload_n (pq := 573) dL_law_572 rfl rfl (J_iload_n (pq := 574) dL_law_573 rfl rfl (J_iconst (pq := 575) dL_law_574 rfl c_iconst_3 (J_iadd (pq := 576) dL_law_575 rfl (J_sld (pq := 577) dL_law_576 rfl hb3 (J_if_eq (pq := 580) (tgt := 584) dL_law_577 rfl rfl (fun c => ?_) (fun c => ?_)))))))))))))))))
    · have e0 : bi (decide (¬ scr x n 3 = 0)) = 0 := by rw [decide_eq_false (fun z => z c)]; rfl
      rw [e0] at kc
      refine J_iconst (pq := 585) dL_law_584 rfl c_iconst_0 (?_)
      exact kc () trivial
    · have e0 : bi (decide (¬ scr x n 3 = 0)) = 1 := by rw [decide_eq_true c]; rfl
      rw [e0] at kc
      refine J_iconst (pq := 581) dL_law_580 rfl c_iconst_1 (J_goto (tgt := 585) dL_law_581 rfl (?_))
      exact kc () trivial
  refine J_virt (pq := 588) dL_law_585 rfl (m3) rfl tg_X9_bad l_L_63 vi_X9_bad (hK1.at rfl) ⟨by decide, rfl⟩ (Nat.le_of_ble_eq_true rfl) (Nat.zero_le _) (Nat.zero_le _) (Nat.le_of_ble_eq_true rfl) (fun v g hq => ?_)
  obtain ⟨rfl, hR2⟩ := m4 _ _ hq
  refine J_icmp_eq (pq := 591) (tgt := 1037) dL_law_588 rfl rfl (fun c => ?_) (fun c => ?_)
  · exact kN _ _ _ (by omega) (by omega) hR2
  · exact absurd rfl c
theorem lc_contact {n r : Nat} {h : JH} (hR : REL h n) (hn : n ≤ 511) (hb1 : vp_in (nI (9 * n) + 1) (xL x)) (hb2 : vp_in (nI (9 * n) + 2) (xL x)) (hb3 : vp_in (nI (9 * n) + 3) (xL x)) (hb4 : vp_in (nI (9 * n) + 4) (xL x)) (hb5 : vp_in (nI (9 * n) + 5) (xL x)) (hb6 : vp_in (nI (9 * n) + 6) (xL x)) (hb7 : vp_in (nI (9 * n) + 7) (xL x)) (hb8 : vp_in (nI (9 * n) + 8) (xL x)) (kN : ∀ ck cs h2, 8 * r ≤ ck → 373 * r ≤ cs → REL h2 (n + 1) → J x yL_law cL_law 4 ret 30 ck cs LQ 1037 (lsL n) [] h2) : J x yL_law cL_law 4 ret 30 (8 * (r + 1)) (373 * (r + 1)) LQ 593 (lsL n) [] h := by
  have hK := hR.1
  obtain ⟨Q1, m1, m2⟩ := z_contact (x := x) (v := scr x n 1) (a := scr x n 2) (w := bi (decide (¬ scr x n 3 = 0))) hR
  refine J_cut (σ := Unit) 617 (fun _ => lsL n) (fun _ => [.int (bi (decide (¬ scr x n 3 = 0))), .int (scr x n 2), .int (scr x n 1), .ref 0]) (fun _ => h) (fun _ => True) (fun _ _ => ?_) (fun kc => ?_)
  rotate_left
  · refine J_aload_n (pq := 594) dL_law_593 rfl rfl (J_aload_n (pq := 595) dL_law_594 rfl rfl (J_iload_n (pq := 596) dL_law_595 rfl rfl (J_iconst (pq := 597) dL_law_596 rfl c_iconst_1 (J_iadd (pq := 598) dL_law_597 rfl (J_sld (pq := 599) dL_law_598 rfl hb1 (J_aload_n (pq := 600) dL_law_599 rfl rfl (J_iload_n (pq := 601) dL_law_600 rfl rfl (J_iconst (pq := 602) dL_law_601 rfl c_iconst_2 (J_iadd (pq := 603) dL_law_602 rfl (J_sld (pq := 604) dL_law_603 rfl hb2 (J_aload_n (pq := 605) dL_law_604 rfl rfl (J_iload_n (pq := 606) dL_law_605 rfl rfl (J_iconst (pq := 607) dL_law_606 rfl c_iconst_3 (J_iadd (pq := 608) dL_law_607 rfl (J_sld (pq := 609) dL_law_608 rfl hb3 (J_if_eq (pq := 612) (tgt := 616) dL_law_609 rfl rfl (fun c => ?_) (fun c => ?_)))))))))))))))))
    · have e0 : bi (decide (¬ scr x n 3 = 0)) = 0 := by rw [decide_eq_false (fun z => z c)]; rfl
      rw [e0] at kc
      refine J_iconst (pq := 617) dL_law_616 rfl c_iconst_0 (?_)
      exact kc () trivial
    · have e0 : bi (decide (¬ scr x n 3 = 0)) = 1 := by rw [decide_eq_true c]; rfl
      rw [e0] at kc
      refine J_iconst (pq := 613) dL_law_612 rfl c_iconst_1 (J_goto (tgt := 617) dL_law_613 rfl (?_))
      exact kc () trivial
  refine J_virt (pq := 620) dL_law_617 rfl (m1) rfl tg_X8_contact l_L_64 vi_X8_contact (hK.at rfl) ⟨by decide, rfl⟩ (Nat.le_of_ble_eq_true rfl) (Nat.zero_le _) (Nat.zero_le _) (Nat.le_of_ble_eq_true rfl) (fun v g hq => ?_)
  obtain ⟨w, Q2, rfl, hK1, m3, m4⟩ := m2 _ _ hq
  refine J_cut (σ := Unit) 644 (fun _ => lsL n) (fun _ => [.int (bi (decide (¬ scr x n 3 = 0))), .int (scr x n 2), .int (scr x n 1), .ref 38, .int w]) (fun _ => g) (fun _ => True) (fun _ _ => ?_) (fun kc => ?_)
  rotate_left
  · refine J_aload_n (pq := 621) dL_law_620 rfl rfl (J_aload_n (pq := 622) dL_law_621 rfl rfl (J_iload_n (pq := 623) dL_law_622 rfl rfl (J_iconst (pq := 624) dL_law_623 rfl c_iconst_1 (J_iadd (pq := 625) dL_law_624 rfl (J_sld (pq := 626) dL_law_625 rfl hb1 (J_aload_n (pq := 627) dL_law_626 rfl rfl (J_iload_n (pq := 628) dL_law_627 rfl rfl (J_iconst (pq := 629) dL_law_628 rfl c_iconst_2 (J_iadd (pq := 630) dL_law_629 rfl (J_sld (pq := 631) dL_law_630 rfl hb2 (J_aload_n (pq := 632) dL_law_631 rfl rfl (J_iload_n (pq := 633) dL_law_632 rfl rfl (J_iconst (pq := 634) dL_law_633 rfl c_iconst_3 (J_iadd (pq := 635) dL_law_634 rfl (J_sld (pq := 636) dL_law_635 rfl hb3 (J_if_eq (pq := 639) (tgt := 643) dL_law_636 rfl rfl (fun c => ?_) (fun c => ?_)))))))))))))))))
    · have e0 : bi (decide (¬ scr x n 3 = 0)) = 0 := by rw [decide_eq_false (fun z => z c)]; rfl
      rw [e0] at kc
      refine J_iconst (pq := 644) dL_law_643 rfl c_iconst_0 (?_)
      exact kc () trivial
    · have e0 : bi (decide (¬ scr x n 3 = 0)) = 1 := by rw [decide_eq_true c]; rfl
      rw [e0] at kc
      refine J_iconst (pq := 640) dL_law_639 rfl c_iconst_1 (J_goto (tgt := 644) dL_law_640 rfl (?_))
      exact kc () trivial
  refine J_virt (pq := 647) dL_law_644 rfl (m3) rfl tg_X9_contact l_L_67 vi_X9_contact (hK1.at rfl) ⟨by decide, rfl⟩ (Nat.le_of_ble_eq_true rfl) (Nat.zero_le _) (Nat.zero_le _) (Nat.le_of_ble_eq_true rfl) (fun v g hq => ?_)
  obtain ⟨rfl, hR2⟩ := m4 _ _ hq
  refine J_icmp_eq (pq := 650) (tgt := 1037) dL_law_647 rfl rfl (fun c => ?_) (fun c => ?_)
  · exact kN _ _ _ (by omega) (by omega) hR2
  · exact absurd rfl c
theorem lc_erase {n r : Nat} {h : JH} (hR : REL h n) (hn : n ≤ 511) (hb1 : vp_in (nI (9 * n) + 1) (xL x)) (hb2 : vp_in (nI (9 * n) + 2) (xL x)) (hb3 : vp_in (nI (9 * n) + 3) (xL x)) (hb4 : vp_in (nI (9 * n) + 4) (xL x)) (hb5 : vp_in (nI (9 * n) + 5) (xL x)) (hb6 : vp_in (nI (9 * n) + 6) (xL x)) (hb7 : vp_in (nI (9 * n) + 7) (xL x)) (hb8 : vp_in (nI (9 * n) + 8) (xL x)) (kN : ∀ ck cs h2, 8 * r ≤ ck → 373 * r ≤ cs → REL h2 (n + 1) → J x yL_law cL_law 4 ret 30 ck cs LQ 1037 (lsL n) [] h2) : J x yL_law cL_law 4 ret 30 (8 * (r + 1)) (373 * (r + 1)) LQ 652 (lsL n) [] h := by
  have hK := hR.1
  obtain ⟨Q1, m1, m2⟩ := z_erase (x := x) (v := scr x n 1) hR
  refine J_aload_n (pq := 653) dL_law_652 rfl rfl (J_aload_n (pq := 654) dL_law_653 rfl rfl (J_iload_n (pq := 655) dL_law_654 rfl rfl (J_iconst (pq := 656) dL_law_655 rfl c_iconst_1 (J_iadd (pq := 657) dL_law_656 rfl (J_sld (pq := 658) dL_law_657 rfl hb1 (J_virt (pq := 661) dL_law_658 rfl (m1) rfl tg_X8_erase l_L_68 vi_X8_erase (hK.at rfl) ⟨by decide, rfl⟩ (Nat.le_of_ble_eq_true rfl) (Nat.zero_le _) (Nat.zero_le _) (Nat.le_of_ble_eq_true rfl) (fun v g hq => ?_)))))))
  obtain ⟨w, Q2, rfl, hK1, m3, m4⟩ := m2 _ _ hq
  refine J_aload_n (pq := 662) dL_law_661 rfl rfl (J_aload_n (pq := 663) dL_law_662 rfl rfl (J_iload_n (pq := 664) dL_law_663 rfl rfl (J_iconst (pq := 665) dL_law_664 rfl c_iconst_1 (J_iadd (pq := 666) dL_law_665 rfl (J_sld (pq := 667) dL_law_666 rfl hb1 (J_virt (pq := 670) dL_law_667 rfl (m3) rfl tg_X9_erase l_L_71 vi_X9_erase (hK1.at rfl) ⟨by decide, rfl⟩ (Nat.le_of_ble_eq_true rfl) (Nat.zero_le _) (Nat.zero_le _) (Nat.le_of_ble_eq_true rfl) (fun v g hq => ?_)))))))
  obtain ⟨rfl, hR2⟩ := m4 _ _ hq
  refine J_icmp_eq (pq := 673) (tgt := 1037) dL_law_670 rfl rfl (fun c => ?_) (fun c => ?_)
  · exact kN _ _ _ (by omega) (by omega) hR2
  · exact absurd rfl c
theorem lc_chipOf {n r : Nat} {h : JH} (hR : REL h n) (hn : n ≤ 511) (hb1 : vp_in (nI (9 * n) + 1) (xL x)) (hb2 : vp_in (nI (9 * n) + 2) (xL x)) (hb3 : vp_in (nI (9 * n) + 3) (xL x)) (hb4 : vp_in (nI (9 * n) + 4) (xL x)) (hb5 : vp_in (nI (9 * n) + 5) (xL x)) (hb6 : vp_in (nI (9 * n) + 6) (xL x)) (hb7 : vp_in (nI (9 * n) + 7) (xL x)) (hb8 : vp_in (nI (9 * n) + 8) (xL x)) (kN : ∀ ck cs h2, 8 * r ≤ ck → 373 * r ≤ cs → REL h2 (n + 1) → J x yL_law cL_law 4 ret 30 ck cs LQ 1037 (lsL n) [] h2) : J x yL_law cL_law 4 ret 30 (8 * (r + 1)) (373 * (r + 1)) LQ 675 (lsL n) [] h := by
  have hK := hR.1
  obtain ⟨Q1, m1, m2⟩ := z_chipOf (x := x) (v := scr x n 1) (w := scr x n 2) hR (by omega)
  refine J_aload_n (pq := 676) dL_law_675 rfl rfl (J_aload_n (pq := 677) dL_law_676 rfl rfl (J_iload_n (pq := 678) dL_law_677 rfl rfl (J_iconst (pq := 679) dL_law_678 rfl c_iconst_1 (J_iadd (pq := 680) dL_law_679 rfl (J_sld (pq := 681) dL_law_680 rfl hb1 (J_aload_n (pq := 682) dL_law_681 rfl rfl (J_iload_n (pq := 683) dL_law_682 rfl rfl (J_iconst (pq := 684) dL_law_683 rfl c_iconst_2 (J_iadd (pq := 685) dL_law_684 rfl (J_sld (pq := 686) dL_law_685 rfl hb2 (J_virt (pq := 689) dL_law_686 rfl (m1) rfl tg_X8_chipOf l_L_72 vi_X8_chipOf (hK.at rfl) ⟨by decide, rfl⟩ (Nat.le_of_ble_eq_true rfl) (Nat.zero_le _) (Nat.zero_le _) (Nat.le_of_ble_eq_true rfl) (fun v g hq => ?_))))))))))))
  obtain ⟨w, Q2, rfl, hK1, m3, m4⟩ := m2 _ _ hq
  refine J_aload_n (pq := 690) dL_law_689 rfl rfl (J_aload_n (pq := 691) dL_law_690 rfl rfl (J_iload_n (pq := 692) dL_law_691 rfl rfl (J_iconst (pq := 693) dL_law_692 rfl c_iconst_1 (J_iadd (pq := 694) dL_law_693 rfl (J_sld (pq := 695) dL_law_694 rfl hb1 (J_aload_n (pq := 696) dL_law_695 rfl rfl (J_iload_n (pq := 697) dL_law_696 rfl rfl (J_iconst (pq := 698) dL_law_697 rfl c_iconst_2 (J_iadd (pq := 699) dL_law_698 rfl (J_sld (pq := 700) dL_law_699 rfl hb2 (J_virt (pq := 703) dL_law_700 rfl (m3) rfl tg_X9_chipOf l_L_76 vi_X9_chipOf (hK1.at rfl) ⟨by decide, rfl⟩ (Nat.le_of_ble_eq_true rfl) (Nat.zero_le _) (Nat.zero_le _) (Nat.le_of_ble_eq_true rfl) (fun v g hq => ?_))))))))))))
  obtain ⟨rfl, hR2⟩ := m4 _ _ hq
  refine J_icmp_eq (pq := 706) (tgt := 1037) dL_law_703 rfl rfl (fun c => ?_) (fun c => ?_)
  · exact kN _ _ _ (by omega) (by omega) hR2
  · exact absurd rfl c
theorem lc_recipe {n r : Nat} {h : JH} (hR : REL h n) (hn : n ≤ 511) (hb1 : vp_in (nI (9 * n) + 1) (xL x)) (hb2 : vp_in (nI (9 * n) + 2) (xL x)) (hb3 : vp_in (nI (9 * n) + 3) (xL x)) (hb4 : vp_in (nI (9 * n) + 4) (xL x)) (hb5 : vp_in (nI (9 * n) + 5) (xL x)) (hb6 : vp_in (nI (9 * n) + 6) (xL x)) (hb7 : vp_in (nI (9 * n) + 7) (xL x)) (hb8 : vp_in (nI (9 * n) + 8) (xL x)) (kN : ∀ ck cs h2, 8 * r ≤ ck → 373 * r ≤ cs → REL h2 (n + 1) → J x yL_law cL_law 4 ret 30 ck cs LQ 1037 (lsL n) [] h2) : J x yL_law cL_law 4 ret 30 (8 * (r + 1)) (373 * (r + 1)) LQ 708 (lsL n) [] h := by
  have hK := hR.1
  obtain ⟨Q1, m1, m2⟩ := z_recipe (x := x) (v := scr x n 1) hR
  refine J_aload_n (pq := 709) dL_law_708 rfl rfl (J_aload_n (pq := 710) dL_law_709 rfl rfl (J_iload_n (pq := 711) dL_law_710 rfl rfl (J_iconst (pq := 712) dL_law_711 rfl c_iconst_1 (J_iadd (pq := 713) dL_law_712 rfl (J_sld (pq := 714) dL_law_713 rfl hb1 (J_virt (pq := 717) dL_law_714 rfl (m1) rfl tg_X8_recipe l_L_77 vi_X8_recipe (hK.at rfl) ⟨by decide, rfl⟩ (Nat.le_of_ble_eq_true rfl) (Nat.zero_le _) (Nat.zero_le _) (Nat.le_of_ble_eq_true rfl) (fun v g hq => ?_)))))))
  obtain ⟨w, Q2, rfl, hK1, m3, m4⟩ := m2 _ _ hq
  refine J_aload_n (pq := 718) dL_law_717 rfl rfl (J_aload_n (pq := 719) dL_law_718 rfl rfl (J_iload_n (pq := 720) dL_law_719 rfl rfl (J_iconst (pq := 721) dL_law_720 rfl c_iconst_1 (J_iadd (pq := 722) dL_law_721 rfl (J_sld (pq := 723) dL_law_722 rfl hb1 (J_virt (pq := 726) dL_law_723 rfl (m3) rfl tg_X9_recipe l_L_80 vi_X9_recipe (hK1.at rfl) ⟨by decide, rfl⟩ (Nat.le_of_ble_eq_true rfl) (Nat.zero_le _) (Nat.zero_le _) (Nat.le_of_ble_eq_true rfl) (fun v g hq => ?_)))))))
  obtain ⟨rfl, hR2⟩ := m4 _ _ hq
  refine J_icmp_eq (pq := 729) (tgt := 1037) dL_law_726 rfl rfl (fun c => ?_) (fun c => ?_)
  · exact kN _ _ _ (by omega) (by omega) hR2
  · exact absurd rfl c
theorem lc_walk {n r : Nat} {h : JH} (hR : REL h n) (hn : n ≤ 511) (hb1 : vp_in (nI (9 * n) + 1) (xL x)) (hb2 : vp_in (nI (9 * n) + 2) (xL x)) (hb3 : vp_in (nI (9 * n) + 3) (xL x)) (hb4 : vp_in (nI (9 * n) + 4) (xL x)) (hb5 : vp_in (nI (9 * n) + 5) (xL x)) (hb6 : vp_in (nI (9 * n) + 6) (xL x)) (hb7 : vp_in (nI (9 * n) + 7) (xL x)) (hb8 : vp_in (nI (9 * n) + 8) (xL x)) (kN : ∀ ck cs h2, 8 * r ≤ ck → 373 * r ≤ cs → REL h2 (n + 1) → J x yL_law cL_law 4 ret 30 ck cs LQ 1037 (lsL n) [] h2) : J x yL_law cL_law 4 ret 30 (8 * (r + 1)) (373 * (r + 1)) LQ 731 (lsL n) [] h := by
  have hK := hR.1
  obtain ⟨Q1, m1, m2⟩ := z_walk (x := x) (v := scr x n 1) (w := scr x n 2) hR
  refine J_aload_n (pq := 732) dL_law_731 rfl rfl (J_aload_n (pq := 733) dL_law_732 rfl rfl (J_iload_n (pq := 734) dL_law_733 rfl rfl (J_iconst (pq := 735) dL_law_734 rfl c_iconst_1 (J_iadd (pq := 736) dL_law_735 rfl (J_sld (pq := 737) dL_law_736 rfl hb1 (J_aload_n (pq := 738) dL_law_737 rfl rfl (J_iload_n (pq := 739) dL_law_738 rfl rfl (J_iconst (pq := 740) dL_law_739 rfl c_iconst_2 (J_iadd (pq := 741) dL_law_740 rfl (J_sld (pq := 742) dL_law_741 rfl hb2 (J_virt (pq := 745) dL_law_742 rfl (m1) rfl tg_X8_walk l_L_81 vi_X8_walk (hK.at rfl) ⟨by decide, rfl⟩ (Nat.le_of_ble_eq_true rfl) (Nat.zero_le _) (Nat.zero_le _) (Nat.le_of_ble_eq_true rfl) (fun v g hq => ?_))))))))))))
  obtain ⟨w, Q2, rfl, hK1, m3, m4⟩ := m2 _ _ hq
  refine J_aload_n (pq := 746) dL_law_745 rfl rfl (J_aload_n (pq := 747) dL_law_746 rfl rfl (J_iload_n (pq := 748) dL_law_747 rfl rfl (J_iconst (pq := 749) dL_law_748 rfl c_iconst_1 (J_iadd (pq := 750) dL_law_749 rfl (J_sld (pq := 751) dL_law_750 rfl hb1 (J_aload_n (pq := 752) dL_law_751 rfl rfl (J_iload_n (pq := 753) dL_law_752 rfl rfl (J_iconst (pq := 754) dL_law_753 rfl c_iconst_2 (J_iadd (pq := 755) dL_law_754 rfl (J_sld (pq := 756) dL_law_755 rfl hb2 (J_virt (pq := 759) dL_law_756 rfl (m3) rfl tg_X9_walk l_L_84 vi_X9_walk (hK1.at rfl) ⟨by decide, rfl⟩ (Nat.le_of_ble_eq_true rfl) (Nat.zero_le _) (Nat.zero_le _) (Nat.le_of_ble_eq_true rfl) (fun v g hq => ?_))))))))))))
  obtain ⟨rfl, hR2⟩ := m4 _ _ hq
  refine J_icmp_eq (pq := 762) (tgt := 1037) dL_law_759 rfl rfl (fun c => ?_) (fun c => ?_)
  · exact kN _ _ _ (by omega) (by omega) hR2
  · exact absurd rfl c
theorem lc_why {n r : Nat} {h : JH} (hR : REL h n) (hn : n ≤ 511) (hb1 : vp_in (nI (9 * n) + 1) (xL x)) (hb2 : vp_in (nI (9 * n) + 2) (xL x)) (hb3 : vp_in (nI (9 * n) + 3) (xL x)) (hb4 : vp_in (nI (9 * n) + 4) (xL x)) (hb5 : vp_in (nI (9 * n) + 5) (xL x)) (hb6 : vp_in (nI (9 * n) + 6) (xL x)) (hb7 : vp_in (nI (9 * n) + 7) (xL x)) (hb8 : vp_in (nI (9 * n) + 8) (xL x)) (kN : ∀ ck cs h2, 8 * r ≤ ck → 373 * r ≤ cs → REL h2 (n + 1) → J x yL_law cL_law 4 ret 30 ck cs LQ 1037 (lsL n) [] h2) : J x yL_law cL_law 4 ret 30 (8 * (r + 1)) (373 * (r + 1)) LQ 764 (lsL n) [] h := by
  have hK := hR.1
  obtain ⟨Q1, m1, m2⟩ := z_why (x := x) (v := scr x n 1) (r := scr x n 2) (id := scr x n 3) (f := scr x n 4) (w := scr x n 5) hR
  refine J_aload_n (pq := 765) dL_law_764 rfl rfl (J_aload_n (pq := 766) dL_law_765 rfl rfl (J_iload_n (pq := 767) dL_law_766 rfl rfl (J_iconst (pq := 768) dL_law_767 rfl c_iconst_1 (J_iadd (pq := 769) dL_law_768 rfl (J_sld (pq := 770) dL_law_769 rfl hb1 (J_aload_n (pq := 771) dL_law_770 rfl rfl (J_iload_n (pq := 772) dL_law_771 rfl rfl (J_iconst (pq := 773) dL_law_772 rfl c_iconst_2 (J_iadd (pq := 774) dL_law_773 rfl (J_sld (pq := 775) dL_law_774 rfl hb2 (J_aload_n (pq := 776) dL_law_775 rfl rfl (J_iload_n (pq := 777) dL_law_776 rfl rfl (J_iconst (pq := 778) dL_law_777 rfl c_iconst_3 (J_iadd (pq := 779) dL_law_778 rfl (J_sld (pq := 780) dL_law_779 rfl hb3 (J_aload_n (pq := 781) dL_law_780 rfl rfl (J_iload_n (pq := 782) dL_law_781 rfl rfl (J_iconst (pq := 783) dL_law_782 rfl c_iconst_4 (J_iadd (pq := 784) dL_law_783 rfl (J_sld (pq := 785) dL_law_784 rfl hb4 (J_aload_n (pq := 786) dL_law_785 rfl rfl (J_iload_n (pq := 787) dL_law_786 rfl rfl (J_iconst (pq := 788) dL_law_787 rfl c_iconst_5 (J_iadd (pq := 789) dL_law_788 rfl (J_sld (pq := 790) dL_law_789 rfl hb5 (J_virt (pq := 793) dL_law_790 rfl (m1) rfl tg_X8_why l_L_85 vi_X8_why (hK.at rfl) ⟨by decide, rfl⟩ (Nat.le_of_ble_eq_true rfl) (Nat.zero_le _) (Nat.zero_le _) (Nat.le_of_ble_eq_true rfl) (fun v g hq => ?_)))))))))))))))))))))))))))
  obtain ⟨w, Q2, rfl, hK1, m3, m4⟩ := m2 _ _ hq
  refine J_aload_n (pq := 794) dL_law_793 rfl rfl (J_aload_n (pq := 795) dL_law_794 rfl rfl (J_iload_n (pq := 796) dL_law_795 rfl rfl (J_iconst (pq := 797) dL_law_796 rfl c_iconst_1 (J_iadd (pq := 798) dL_law_797 rfl (J_sld (pq := 799) dL_law_798 rfl hb1 (J_aload_n (pq := 800) dL_law_799 rfl rfl (J_iload_n (pq := 801) dL_law_800 rfl rfl (J_iconst (pq := 802) dL_law_801 rfl c_iconst_2 (J_iadd (pq := 803) dL_law_802 rfl (J_sld (pq := 804) dL_law_803 rfl hb2 (J_aload_n (pq := 805) dL_law_804 rfl rfl (J_iload_n (pq := 806) dL_law_805 rfl rfl (J_iconst (pq := 807) dL_law_806 rfl c_iconst_3 (J_iadd (pq := 808) dL_law_807 rfl (J_sld (pq := 809) dL_law_808 rfl hb3 (J_aload_n (pq := 810) dL_law_809 rfl rfl (J_iload_n (pq := 811) dL_law_810 rfl rfl (J_iconst (pq := 812) dL_law_811 rfl c_iconst_4 (J_iadd (pq := 813) dL_law_812 rfl (J_sld (pq := 814) dL_law_813 rfl hb4 (J_aload_n (pq := 815) dL_law_814 rfl rfl (J_iload_n (pq := 816) dL_law_815 rfl rfl (J_iconst (pq := 817) dL_law_816 rfl c_iconst_5 (J_iadd (pq := 818) dL_law_817 rfl (J_sld (pq := 819) dL_law_818 rfl hb5 (J_virt (pq := 822) dL_law_819 rfl (m3) rfl tg_X9_why l_L_88 vi_X9_why (hK1.at rfl) ⟨by decide, rfl⟩ (Nat.le_of_ble_eq_true rfl) (Nat.zero_le _) (Nat.zero_le _) (Nat.le_of_ble_eq_true rfl) (fun v g hq => ?_)))))))))))))))))))))))))))
  obtain ⟨rfl, hR2⟩ := m4 _ _ hq
  refine J_icmp_eq (pq := 825) (tgt := 1037) dL_law_822 rfl rfl (fun c => ?_) (fun c => ?_)
  · exact kN _ _ _ (by omega) (by omega) hR2
  · exact absurd rfl c
theorem lc_burn {n r : Nat} {h : JH} (hR : REL h n) (hn : n ≤ 511) (hb1 : vp_in (nI (9 * n) + 1) (xL x)) (hb2 : vp_in (nI (9 * n) + 2) (xL x)) (hb3 : vp_in (nI (9 * n) + 3) (xL x)) (hb4 : vp_in (nI (9 * n) + 4) (xL x)) (hb5 : vp_in (nI (9 * n) + 5) (xL x)) (hb6 : vp_in (nI (9 * n) + 6) (xL x)) (hb7 : vp_in (nI (9 * n) + 7) (xL x)) (hb8 : vp_in (nI (9 * n) + 8) (xL x)) (kN : ∀ ck cs h2, 8 * r ≤ ck → 373 * r ≤ cs → REL h2 (n + 1) → J x yL_law cL_law 4 ret 30 ck cs LQ 1037 (lsL n) [] h2) : J x yL_law cL_law 4 ret 30 (8 * (r + 1)) (373 * (r + 1)) LQ 827 (lsL n) [] h := by
  have hK := hR.1
  obtain ⟨Q1, m1, m2⟩ := z_burn (x := x) (v := scr x n 1) (r := scr x n 2) (id := scr x n 3) (f := scr x n 4) (w := scr x n 5) (p := scr x n 6) hR (by omega)
  refine J_aload_n (pq := 828) dL_law_827 rfl rfl (J_aload_n (pq := 829) dL_law_828 rfl rfl (J_iload_n (pq := 830) dL_law_829 rfl rfl (J_iconst (pq := 831) dL_law_830 rfl c_iconst_1 (J_iadd (pq := 832) dL_law_831 rfl (J_sld (pq := 833) dL_law_832 rfl hb1 (J_aload_n (pq := 834) dL_law_833 rfl rfl (J_iload_n (pq := 835) dL_law_834 rfl rfl (J_iconst (pq := 836) dL_law_835 rfl c_iconst_2 (J_iadd (pq := 837) dL_law_836 rfl (J_sld (pq := 838) dL_law_837 rfl hb2 (J_aload_n (pq := 839) dL_law_838 rfl rfl (J_iload_n (pq := 840) dL_law_839 rfl rfl (J_iconst (pq := 841) dL_law_840 rfl c_iconst_3 (J_iadd (pq := 842) dL_law_841 rfl (J_sld (pq := 843) dL_law_842 rfl hb3 (J_aload_n (pq := 844) dL_law_843 rfl rfl (J_iload_n (pq := 845) dL_law_844 rfl rfl (J_iconst (pq := 846) dL_law_845 rfl c_iconst_4 (J_iadd (pq := 847) dL_law_846 rfl (J_sld (pq := 848) dL_law_847 rfl hb4 (J_aload_n (pq := 849) dL_law_848 rfl rfl (J_iload_n (pq := 850) dL_law_849 rfl rfl (J_iconst (pq := 851) dL_law_850 rfl c_iconst_5 (J_iadd (pq := 852) dL_law_851 rfl (J_sld (pq := 853) dL_law_852 rfl hb5 (J_aload_n (pq := 854) dL_law_853 rfl rfl (J_iload_n (pq := 855) dL_law_854 rfl rfl (J_bipush (pq := 857) dL_law_855 rfl c_bipush_6 (J_iadd (pq := 858) dL_law_857 rfl (J_sld (pq := 859) dL_law_858 rfl hb6 (J_virt (pq := 862) dL_law_859 rfl (m1) rfl tg_X8_burn l_L_89 vi_X8_burn (hK.at rfl) ⟨by decide, rfl⟩ (Nat.le_of_ble_eq_true rfl) (by omega) (by omega) (Nat.le_of_ble_eq_true rfl) (fun v g hq => ?_))))))))))))))))))))))))))))))))
  obtain ⟨w, Q2, rfl, hK1, m3, m4⟩ := m2 _ _ hq
  refine J_aload_n (pq := 863) dL_law_862 rfl rfl (J_aload_n (pq := 864) dL_law_863 rfl rfl (J_iload_n (pq := 865) dL_law_864 rfl rfl (J_iconst (pq := 866) dL_law_865 rfl c_iconst_1 (J_iadd (pq := 867) dL_law_866 rfl (J_sld (pq := 868) dL_law_867 rfl hb1 (J_aload_n (pq := 869) dL_law_868 rfl rfl (J_iload_n (pq := 870) dL_law_869 rfl rfl (J_iconst (pq := 871) dL_law_870 rfl c_iconst_2 (J_iadd (pq := 872) dL_law_871 rfl (J_sld (pq := 873) dL_law_872 rfl hb2 (J_aload_n (pq := 874) dL_law_873 rfl rfl (J_iload_n (pq := 875) dL_law_874 rfl rfl (J_iconst (pq := 876) dL_law_875 rfl c_iconst_3 (J_iadd (pq := 877) dL_law_876 rfl (J_sld (pq := 878) dL_law_877 rfl hb3 (J_aload_n (pq := 879) dL_law_878 rfl rfl (J_iload_n (pq := 880) dL_law_879 rfl rfl (J_iconst (pq := 881) dL_law_880 rfl c_iconst_4 (J_iadd (pq := 882) dL_law_881 rfl (J_sld (pq := 883) dL_law_882 rfl hb4 (J_aload_n (pq := 884) dL_law_883 rfl rfl (J_iload_n (pq := 885) dL_law_884 rfl rfl (J_iconst (pq := 886) dL_law_885 rfl c_iconst_5 (J_iadd (pq := 887) dL_law_886 rfl (J_sld (pq := 888) dL_law_887 rfl hb5 (J_aload_n (pq := 889) dL_law_888 rfl rfl (J_iload_n (pq := 890) dL_law_889 rfl rfl (J_bipush (pq := 892) dL_law_890 rfl c_bipush_6 (J_iadd (pq := 893) dL_law_892 rfl (J_sld (pq := 894) dL_law_893 rfl hb6 (J_virt (pq := 897) dL_law_894 rfl (m3) rfl tg_X9_burn l_L_93 vi_X9_burn (hK1.at rfl) ⟨by decide, rfl⟩ (Nat.le_of_ble_eq_true rfl) (Nat.zero_le _) (Nat.zero_le _) (Nat.le_of_ble_eq_true rfl) (fun v g hq => ?_))))))))))))))))))))))))))))))))
  obtain ⟨rfl, hR2⟩ := m4 _ _ hq
  refine J_icmp_eq (pq := 900) (tgt := 1037) dL_law_897 rfl rfl (fun c => ?_) (fun c => ?_)
  · exact kN _ _ _ (by omega) (by omega) hR2
  · exact absurd rfl c
theorem lc_wrong {n r : Nat} {h : JH} (hR : REL h n) (hn : n ≤ 511) (hb1 : vp_in (nI (9 * n) + 1) (xL x)) (hb2 : vp_in (nI (9 * n) + 2) (xL x)) (hb3 : vp_in (nI (9 * n) + 3) (xL x)) (hb4 : vp_in (nI (9 * n) + 4) (xL x)) (hb5 : vp_in (nI (9 * n) + 5) (xL x)) (hb6 : vp_in (nI (9 * n) + 6) (xL x)) (hb7 : vp_in (nI (9 * n) + 7) (xL x)) (hb8 : vp_in (nI (9 * n) + 8) (xL x)) (kN : ∀ ck cs h2, 8 * r ≤ ck → 373 * r ≤ cs → REL h2 (n + 1) → J x yL_law cL_law 4 ret 30 ck cs LQ 1037 (lsL n) [] h2) : J x yL_law cL_law 4 ret 30 (8 * (r + 1)) (373 * (r + 1)) LQ 902 (lsL n) [] h := by
  have hK := hR.1
  obtain ⟨Q1, m1, m2⟩ := z_wrong (x := x) (v := scr x n 1) (f := scr x n 2) (w := scr x n 3) hR
  refine J_aload_n (pq := 903) dL_law_902 rfl rfl (J_aload_n (pq := 904) dL_law_903 rfl rfl (J_iload_n (pq := 905) dL_law_904 rfl rfl (J_iconst (pq := 906) dL_law_905 rfl c_iconst_1 (J_iadd (pq := 907) dL_law_906 rfl (J_sld (pq := 908) dL_law_907 rfl hb1 (J_aload_n (pq := 909) dL_law_908 rfl rfl (J_iload_n (pq := 910) dL_law_909 rfl rfl (J_iconst (pq := 911) dL_law_910 rfl c_iconst_2 (J_iadd (pq := 912) dL_law_911 rfl (J_sld (pq := 913) dL_law_912 rfl hb2 (J_aload_n (pq := 914) dL_law_913 rfl rfl (J_iload_n (pq := 915) dL_law_914 rfl rfl (J_iconst (pq := 916) dL_law_915 rfl c_iconst_3 (J_iadd (pq := 917) dL_law_916 rfl (J_sld (pq := 918) dL_law_917 rfl hb3 (J_virt (pq := 921) dL_law_918 rfl (m1) rfl tg_X8_wrong l_L_94 vi_X8_wrong (hK.at rfl) ⟨by decide, rfl⟩ (Nat.le_of_ble_eq_true rfl) (Nat.zero_le _) (Nat.zero_le _) (Nat.le_of_ble_eq_true rfl) (fun v g hq => ?_)))))))))))))))))
  obtain ⟨w, Q2, rfl, hK1, m3, m4⟩ := m2 _ _ hq
  refine J_aload_n (pq := 922) dL_law_921 rfl rfl (J_aload_n (pq := 923) dL_law_922 rfl rfl (J_iload_n (pq := 924) dL_law_923 rfl rfl (J_iconst (pq := 925) dL_law_924 rfl c_iconst_1 (J_iadd (pq := 926) dL_law_925 rfl (J_sld (pq := 927) dL_law_926 rfl hb1 (J_aload_n (pq := 928) dL_law_927 rfl rfl (J_iload_n (pq := 929) dL_law_928 rfl rfl (J_iconst (pq := 930) dL_law_929 rfl c_iconst_2 (J_iadd (pq := 931) dL_law_930 rfl (J_sld (pq := 932) dL_law_931 rfl hb2 (J_aload_n (pq := 933) dL_law_932 rfl rfl (J_iload_n (pq := 934) dL_law_933 rfl rfl (J_iconst (pq := 935) dL_law_934 rfl c_iconst_3 (J_iadd (pq := 936) dL_law_935 rfl (J_sld (pq := 937) dL_law_936 rfl hb3 (J_virt (pq := 940) dL_law_937 rfl (m3) rfl tg_X9_wrong l_L_97 vi_X9_wrong (hK1.at rfl) ⟨by decide, rfl⟩ (Nat.le_of_ble_eq_true rfl) (Nat.zero_le _) (Nat.zero_le _) (Nat.le_of_ble_eq_true rfl) (fun v g hq => ?_)))))))))))))))))
  obtain ⟨rfl, hR2⟩ := m4 _ _ hq
  refine J_icmp_eq (pq := 943) (tgt := 1037) dL_law_940 rfl rfl (fun c => ?_) (fun c => ?_)
  · exact kN _ _ _ (by omega) (by omega) hR2
  · exact absurd rfl c
theorem lc_read {n r : Nat} {h : JH} (hR : REL h n) (hn : n ≤ 511) (hb1 : vp_in (nI (9 * n) + 1) (xL x)) (hb2 : vp_in (nI (9 * n) + 2) (xL x)) (hb3 : vp_in (nI (9 * n) + 3) (xL x)) (hb4 : vp_in (nI (9 * n) + 4) (xL x)) (hb5 : vp_in (nI (9 * n) + 5) (xL x)) (hb6 : vp_in (nI (9 * n) + 6) (xL x)) (hb7 : vp_in (nI (9 * n) + 7) (xL x)) (hb8 : vp_in (nI (9 * n) + 8) (xL x)) (kN : ∀ ck cs h2, 8 * r ≤ ck → 373 * r ≤ cs → REL h2 (n + 1) → J x yL_law cL_law 4 ret 30 ck cs LQ 1037 (lsL n) [] h2) : J x yL_law cL_law 4 ret 30 (8 * (r + 1)) (373 * (r + 1)) LQ 945 (lsL n) [] h := by
  have hK := hR.1
  obtain ⟨Q1, m1, m2⟩ := z_read (x := x) (v := scr x n 1) (u := bi (decide (¬ scr x n 2 = 0))) (f := scr x n 3) (w := scr x n 4) hR
  refine J_cut (σ := Unit) 964 (fun _ => lsL n) (fun _ => [.int (bi (decide (¬ scr x n 2 = 0))), .int (scr x n 1), .ref 0]) (fun _ => h) (fun _ => True) (fun _ _ => ?_) (fun kc => ?_)
  rotate_left
  · refine J_aload_n (pq := 946) dL_law_945 rfl rfl (J_aload_n (pq := 947) dL_law_946 rfl rfl (J_iload_n (pq := 948) dL_law_947 rfl rfl (J_iconst (pq := 949) dL_law_948 rfl c_iconst_1 (J_iadd (pq := 950) dL_law_949 rfl (J_sld (pq := 951) dL_law_950 rfl hb1 (J_aload_n (pq := 952) dL_law_951 rfl rfl (J_iload_n (pq := 953) dL_law_952 rfl rfl (J_iconst (pq := 954) dL_law_953 rfl c_iconst_2 (J_iadd (pq := 955) dL_law_954 rfl (J_sld (pq := 956) dL_law_955 rfl hb2 (J_if_eq (pq := 959) (tgt := 963) dL_law_956 rfl rfl (fun c => ?_) (fun c => ?_))))))))))))
    · have e0 : bi (decide (¬ scr x n 2 = 0)) = 0 := by rw [decide_eq_false (fun z => z c)]; rfl
      rw [e0] at kc
      refine J_iconst (pq := 964) dL_law_963 rfl c_iconst_0 (?_)
      exact kc () trivial
    · have e0 : bi (decide (¬ scr x n 2 = 0)) = 1 := by rw [decide_eq_true c]; rfl
      rw [e0] at kc
      refine J_iconst (pq := 960) dL_law_959 rfl c_iconst_1 (J_goto (tgt := 964) dL_law_960 rfl (?_))
      exact kc () trivial
  refine J_aload_n (pq := 965) dL_law_964 rfl rfl (J_iload_n (pq := 966) dL_law_965 rfl rfl (J_iconst (pq := 967) dL_law_966 rfl c_iconst_3 (J_iadd (pq := 968) dL_law_967 rfl (J_sld (pq := 969) dL_law_968 rfl hb3 (J_aload_n (pq := 970) dL_law_969 rfl rfl (J_iload_n (pq := 971) dL_law_970 rfl rfl (J_iconst (pq := 972) dL_law_971 rfl c_iconst_4 (J_iadd (pq := 973) dL_law_972 rfl (J_sld (pq := 974) dL_law_973 rfl hb4 (J_virt (pq := 977) dL_law_974 rfl (m1) rfl tg_X8_read l_L_98 vi_X8_read (hK.at rfl) ⟨by decide, rfl⟩ (Nat.le_of_ble_eq_true rfl) (Nat.zero_le _) (Nat.zero_le _) (Nat.le_of_ble_eq_true rfl) (fun v g hq => ?_)))))))))))
  obtain ⟨w, Q2, rfl, hK1, m3, m4⟩ := m2 _ _ hq
  refine J_cut (σ := Unit) 996 (fun _ => lsL n) (fun _ => [.int (bi (decide (¬ scr x n 2 = 0))), .int (scr x n 1), .ref 38, .int w]) (fun _ => g) (fun _ => True) (fun _ _ => ?_) (fun kc => ?_)
  rotate_left
  · refine J_aload_n (pq := 978) dL_law_977 rfl rfl (J_aload_n (pq := 979) dL_law_978 rfl rfl (J_iload_n (pq := 980) dL_law_979 rfl rfl (J_iconst (pq := 981) dL_law_980 rfl c_iconst_1 (J_iadd (pq := 982) dL_law_981 rfl (J_sld (pq := 983) dL_law_982 rfl hb1 (J_aload_n (pq := 984) dL_law_983 rfl rfl (J_iload_n (pq := 985) dL_law_984 rfl rfl (J_iconst (pq := 986) dL_law_985 rfl c_iconst_2 (J_iadd (pq := 987) dL_law_986 rfl (J_sld (pq := 988) dL_law_987 rfl hb2 (J_if_eq (pq := 991) (tgt := 995) dL_law_988 rfl rfl (fun c => ?_) (fun c => ?_))))))))))))
    · have e0 : bi (decide (¬ scr x n 2 = 0)) = 0 := by rw [decide_eq_false (fun z => z c)]; rfl
      rw [e0] at kc
      refine J_iconst (pq := 996) dL_law_995 rfl c_iconst_0 (?_)
      exact kc () trivial
    · have e0 : bi (decide (¬ scr x n 2 = 0)) = 1 := by rw [decide_eq_true c]; rfl
      rw [e0] at kc
      refine J_iconst (pq := 992) dL_law_991 rfl c_iconst_1 (J_goto (tgt := 996) dL_law_992 rfl (?_))
      exact kc () trivial
  refine J_aload_n (pq := 997) dL_law_996 rfl rfl (J_iload_n (pq := 998) dL_law_997 rfl rfl (J_iconst (pq := 999) dL_law_998 rfl c_iconst_3 (J_iadd (pq := 1000) dL_law_999 rfl (J_sld (pq := 1001) dL_law_1000 rfl hb3 (J_aload_n (pq := 1002) dL_law_1001 rfl rfl (J_iload_n (pq := 1003) dL_law_1002 rfl rfl (J_iconst (pq := 1004) dL_law_1003 rfl c_iconst_4 (J_iadd (pq := 1005) dL_law_1004 rfl (J_sld (pq := 1006) dL_law_1005 rfl hb4 (J_virt (pq := 1009) dL_law_1006 rfl (m3) rfl tg_X9_read l_L_102 vi_X9_read (hK1.at rfl) ⟨by decide, rfl⟩ (Nat.le_of_ble_eq_true rfl) (Nat.zero_le _) (Nat.zero_le _) (Nat.le_of_ble_eq_true rfl) (fun v g hq => ?_)))))))))))
  obtain ⟨rfl, hR2⟩ := m4 _ _ hq
  refine J_icmp_eq (pq := 1012) (tgt := 1037) dL_law_1009 rfl rfl (fun c => ?_) (fun c => ?_)
  · exact kN _ _ _ (by omega) (by omega) hR2
  · exact absurd rfl c
theorem lc_about {n r : Nat} {h : JH} (hR : REL h n) (hn : n ≤ 511) (hb1 : vp_in (nI (9 * n) + 1) (xL x)) (hb2 : vp_in (nI (9 * n) + 2) (xL x)) (hb3 : vp_in (nI (9 * n) + 3) (xL x)) (hb4 : vp_in (nI (9 * n) + 4) (xL x)) (hb5 : vp_in (nI (9 * n) + 5) (xL x)) (hb6 : vp_in (nI (9 * n) + 6) (xL x)) (hb7 : vp_in (nI (9 * n) + 7) (xL x)) (hb8 : vp_in (nI (9 * n) + 8) (xL x)) (kN : ∀ ck cs h2, 8 * r ≤ ck → 373 * r ≤ cs → REL h2 (n + 1) → J x yL_law cL_law 4 ret 30 ck cs LQ 1037 (lsL n) [] h2) : J x yL_law cL_law 4 ret 30 (8 * (r + 1)) (373 * (r + 1)) LQ 1014 (lsL n) [] h := by
  have hK := hR.1
  obtain ⟨Q1, m1, m2⟩ := z_about (x := x) (v := scr x n 1) hR (by omega)
  refine J_aload_n (pq := 1015) dL_law_1014 rfl rfl (J_aload_n (pq := 1016) dL_law_1015 rfl rfl (J_iload_n (pq := 1017) dL_law_1016 rfl rfl (J_iconst (pq := 1018) dL_law_1017 rfl c_iconst_1 (J_iadd (pq := 1019) dL_law_1018 rfl (J_sld (pq := 1020) dL_law_1019 rfl hb1 (J_virt (pq := 1023) dL_law_1020 rfl (m1) rfl tg_X8_about l_L_103 vi_X8_about (hK.at rfl) ⟨by decide, rfl⟩ (Nat.le_of_ble_eq_true rfl) (Nat.zero_le _) (Nat.zero_le _) (Nat.le_of_ble_eq_true rfl) (fun v g hq => ?_)))))))
  obtain ⟨w, Q2, rfl, hK1, m3, m4⟩ := m2 _ _ hq
  refine J_aload_n (pq := 1024) dL_law_1023 rfl rfl (J_aload_n (pq := 1025) dL_law_1024 rfl rfl (J_iload_n (pq := 1026) dL_law_1025 rfl rfl (J_iconst (pq := 1027) dL_law_1026 rfl c_iconst_1 (J_iadd (pq := 1028) dL_law_1027 rfl (J_sld (pq := 1029) dL_law_1028 rfl hb1 (J_virt (pq := 1032) dL_law_1029 rfl (m3) rfl tg_X9_about l_L_106 vi_X9_about (hK1.at rfl) ⟨by decide, rfl⟩ (Nat.le_of_ble_eq_true rfl) (Nat.zero_le _) (Nat.zero_le _) (Nat.le_of_ble_eq_true rfl) (fun v g hq => ?_)))))))
  obtain ⟨rfl, hR2⟩ := m4 _ _ hq
  refine J_icmp_eq (pq := 1035) (tgt := 1037) dL_law_1032 rfl rfl (fun c => ?_) (fun c => ?_)
  · exact kN _ _ _ (by omega) (by omega) hR2
  · exact absurd rfl c
end LW
