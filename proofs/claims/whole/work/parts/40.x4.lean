-- the reference at work on a byte: the whole of a recipe
section X4
variable {x : JX} {h : JH} {i r a : Nat} {d : Int32} {F : JH × Nat}
theorem tS_6 {p : Nat} {s : JH × Nat × Bool × Nat} {T : Nat → Int32} {L : Int32} (hI : wkI h s.1) (hp : p < 100) (hr : r < 4) (o : Nat) (ho : o = 63 ∨ o = 64 ∨ o = 65) : vp_in (nI (100 * r) + nI p) 500 ∧ gi (tS s.1 T L) o (ix (nI (100 * r) + nI p)) = gi h o (100 * r + p) := by
  have ea : nI (100 * r) + nI p = nI (100 * r + p) := nI_add _ _
  refine ⟨vinN ea (by omega) (by omega), ?_⟩
  rw [ea, ixn (by omega), tS_o (by omega) (by omega), hI.2.2.2.1 o _ (by omega) (by omega) (by omega) (by omega)]
/-- a plain order -/
theorem wk_leaf {p o k n : Nat} {s : JH × Nat × Bool × Nat} {T : Nat → Int32} (hI : Kp (wkI h) 100000 s) (hr : r < 4) (hi : i < 4) (ha : a < 64) (ho : o ≤ 80) (hp : p < o) (h64 : gi h 64 (100 * r + p) = nI n) (hk : (k = 0 ∧ n ≤ 30) ∨ (k = 1 ∧ 1 ≤ n ∧ n ≤ 50) ∨ (k = 2 ∧ n = 0)) (hA : wkA x i r a d F (p + 1) (lfs (mPu i a d) (mRt i a d) k n s) T) :
    wJ x F 51 [some (.ref 38), some (.int (nI i)), some (.int (nI r)), some (.int (nI a)), some (.int d), some (.int (nI (100 * r))), some (.int (nI s.2.1)), some (.int (bi s.2.2.1)), some (.int (nI p)), some (.int (nI k)), some (.int (nI (p + 1))), none] (tS s.1 T (nI s.2.2.2)) := by
  have hI1 := lfs_kp (R := mRt i a d) (fun g v => wkI_P (h := h) i a d g v) k n s hI
  have hK' : Kin (tS s.1 T (nI s.2.2.2)) := hI.1.1.of2 rfl
  have hR' : MR (tS s.1 T (nI s.2.2.2)) := hI.1.2.1.of2 rfl
  obtain ⟨hb, e64⟩ := tS_6 (T := T) (L := nI s.2.2.2) hI.1 (show p < 100 by omega) hr 64 (by omega)
  rcases hk with ⟨rfl, hn⟩ | ⟨rfl, hn⟩ | ⟨rfl, rfl⟩
  · refine J_iload (pq := 53) dX9_work_51 rfl rfl (J_if_ne (pq := 56) (tgt := 68) dX9_work_53 rfl rfl (fun c => ?_) (fun c => ?_))
    · exact absurd rfl c
    · refine J_aload_n (pq := 57) dX9_work_56 rfl rfl (J_getA (pq := 60) dX9_work_57 rfl f_X9_94 (by decide +kernel) (hK'.at rfl) (hR' _ _ rfl) (J_iload (pq := 62) dX9_work_60 rfl rfl (J_iload (pq := 64) dX9_work_62 rfl rfl (J_iadd (pq := 65) dX9_work_64 rfl (J_iald (pq := 66) dX9_work_65 rfl (hK'.at rfl) (by assumption) (J_istore (pq := 68) dX9_work_66 rfl (Nat.le_of_ble_eq_true rfl) (Nat.le_of_ble_eq_true rfl) rfl (?_)))))))
      rw [e64, h64]
      exact wk_68 (by omega) (by omega) (wk_125 (by omega) (by omega) (wk_149 (by omega) (by omega) (wk_189 (by omega) (by omega) (wk_239 (by omega) (wk_269 (s := lfs (mPu i a d) (mRt i a d) 0 n s) hI1 hr hA)))))
  · refine wk_51 (by omega) (by omega) (wk_pulses hI hr hi ha (by omega) h64 hn.2 (fun u => ?_))
    exact wk_125 (by omega) (by omega) (wk_149 (by omega) (by omega) (wk_189 (by omega) (by omega) (wk_239 (by omega) (wk_269 (s := lfs (mPu i a d) (mRt i a d) 1 n s) hI1 hr hA))))
  · refine wk_51 (by omega) (by omega) (wk_68 (by omega) (by omega) ?_)
    have hR0 : mRt i a d (tS s.1 T (nI s.2.2.2)) = mRt i a d s.1 := by
      unfold mRt
      rw [tS_o (by decide) (by simp), tS_o (by decide) (by simp)]
    refine J_cut (σ := Unit) 149 (fun _ => [some (.ref 38), some (.int (nI i)), some (.int (nI r)), some (.int (nI a)), some (.int d), some (.int (nI (100 * r))), some (.int (nI s.2.1)), some (.int (bi (mRt i a d s.1))), some (.int (nI p)), some (.int (nI 2)), some (.int (nI (p + 1))), none]) (fun _ => []) (fun _ => tS s.1 T (nI s.2.2.2)) (fun _ => True) (fun _ _ => ?_) (fun k149 => ?_)
    · exact wk_149 (by omega) (by omega) (wk_189 (by omega) (by omega) (wk_239 (by omega) (wk_269 (s := lfs (mPu i a d) (mRt i a d) 2 0 s) hI1 hr hA)))
    · refine J_iload (pq := 127) dX9_work_125 rfl rfl (J_iconst (pq := 128) dX9_work_127 rfl c_iconst_2 (J_icmp_ne (pq := 131) (tgt := 149) dX9_work_128 rfl rfl (fun c => ?_) (fun c => ?_)))
      · exact absurd rfl c
      · refine J_aload_n (pq := 132) dX9_work_131 rfl rfl (J_iload_n (pq := 133) dX9_work_132 rfl rfl (J_iload_n (pq := 134) dX9_work_133 rfl rfl (J_iload (pq := 136) dX9_work_134 rfl rfl (J_virtF (pq := 139) dX9_work_136 rfl (j_X9_isWrong hK' hR' (by omega)) rfl tg_X9_isWrong l_X9_330 vi_X9_isWrong (hK'.at rfl) ⟨by decide, rfl⟩ (Nat.le_of_ble_eq_true rfl) (Nat.zero_le _) (Nat.zero_le _) (Nat.le_of_ble_eq_true rfl) (J_if_ne (pq := 142) (tgt := 146) dX9_work_139 rfl rfl (fun c => ?_) (fun c => ?_))))))
        · rw [bi_0, mRt_n, hR0, Bool.not_eq_false, Bool.not_eq_true'] at c
          refine J_iconst (pq := 147) dX9_work_146 rfl c_iconst_0 (J_istore (pq := 149) dX9_work_147 rfl (Nat.le_of_ble_eq_true rfl) (Nat.le_of_ble_eq_true rfl) rfl (?_))
          refine J_eq ?_ rfl rfl (k149 () trivial)
          rw [c]; rfl
        · rw [bi_0, mRt_n, hR0, Bool.not_eq_false'] at c
          refine J_iconst (pq := 143) dX9_work_142 rfl c_iconst_1 (J_goto (tgt := 147) dX9_work_143 rfl (J_istore (pq := 149) dX9_work_147 rfl (Nat.le_of_ble_eq_true rfl) (Nat.le_of_ble_eq_true rfl) rfl (?_)))
          refine J_eq ?_ rfl rfl (k149 () trivial)
          rw [c]; rfl
/-- a try's first order -/
theorem wk_try {p m o n : Nat} {s : JH × Nat × Bool × Nat} {T : Nat → Int32} (hI : Kp (wkI h) 100000 s) (hr : r < 4) (ho : o ≤ 80) (hp : p < o) (h64 : gi h 64 (100 * r + p) = nI n) (h65 : gi h 65 (100 * r + p) = nI (m + 1)) (hA1 : s.2.2.1 = true → wkA x i r a d F (m + 1) s (fun j => if j = p then nI n else T j)) (hA2 : s.2.2.1 = false → wkA x i r a d F (p + 1) s (fun j => if j = p then nI n else T j)) :
    wJ x F 51 [some (.ref 38), some (.int (nI i)), some (.int (nI r)), some (.int (nI a)), some (.int d), some (.int (nI (100 * r))), some (.int (nI s.2.1)), some (.int (bi s.2.2.1)), some (.int (nI p)), some (.int (nI 3)), some (.int (nI (p + 1))), none] (tS s.1 T (nI s.2.2.2)) := by
  have hK' : Kin (tS s.1 T (nI s.2.2.2)) := hI.1.1.of2 rfl
  have hR' : MR (tS s.1 T (nI s.2.2.2)) := hI.1.2.1.of2 rfl
  obtain ⟨hb, e64⟩ := tS_6 (T := T) (L := nI s.2.2.2) hI.1 (show p < 100 by omega) hr 64 (by omega)
  have hb100 : vp_in (nI p) 100 := vp_in_nI (by omega) (by omega)
  refine wk_51 (by omega) (by omega) (wk_68 (by omega) (by omega) (wk_125 (by omega) (by omega) ?_))
  refine J_iload (pq := 151) dX9_work_149 rfl rfl (J_iconst (pq := 152) dX9_work_151 rfl c_iconst_3 (J_icmp_ne (pq := 155) (tgt := 189) dX9_work_152 rfl rfl (fun c => ?_) (fun c => ?_)))
  · exact absurd rfl c
  · refine J_aload_n (pq := 156) dX9_work_155 rfl rfl (J_getA (pq := 159) dX9_work_156 rfl f_X9_127 (by decide +kernel) (hK'.at rfl) (hR' _ _ rfl) (J_iload (pq := 161) dX9_work_159 rfl rfl (J_aload_n (pq := 162) dX9_work_161 rfl rfl (J_getA (pq := 165) dX9_work_162 rfl f_X9_94 (by decide +kernel) (hK'.at rfl) (hR' _ _ rfl) (J_iload (pq := 167) dX9_work_165 rfl rfl (J_iload (pq := 169) dX9_work_167 rfl rfl (J_iadd (pq := 170) dX9_work_169 rfl (J_iald (pq := 171) dX9_work_170 rfl (hK'.at rfl) (by assumption) (J_iast (pq := 172) dX9_work_171 rfl (hK'.at rfl) (by assumption) (?_))))))))))
    rw [e64, h64, ixn (by omega), tS_75]
    have hK2 : Kin (tS s.1 (fun j => if j = p then nI n else T j) (nI s.2.2.2)) := hI.1.1.of2 rfl
    have hR2 : MR (tS s.1 (fun j => if j = p then nI n else T j) (nI s.2.2.2)) := hI.1.2.1.of2 rfl
    obtain ⟨-, e65⟩ := tS_6 (T := (fun j => if j = p then nI n else T j)) (L := nI s.2.2.2) hI.1 (show p < 100 by omega) hr 65 (by omega)
    refine J_iload (pq := 174) dX9_work_172 rfl rfl (J_if_eq (pq := 177) (tgt := 189) dX9_work_174 rfl rfl (fun c => ?_) (fun c => ?_))
    · rw [bi_0] at c
      exact wk_189 (by omega) (by omega) (wk_239 (by omega) (wk_269 hI hr (hA2 c)))
    · rw [bi_0, Bool.not_eq_false] at c
      refine J_aload_n (pq := 178) dX9_work_177 rfl rfl (J_getA (pq := 181) dX9_work_178 rfl f_X9_97 (by decide +kernel) (hK2.at rfl) (hR2 _ _ rfl) (J_iload (pq := 183) dX9_work_181 rfl rfl (J_iload (pq := 185) dX9_work_183 rfl rfl (J_iadd (pq := 186) dX9_work_185 rfl (J_iald (pq := 187) dX9_work_186 rfl (hK2.at rfl) (by assumption) (J_istore (pq := 189) dX9_work_187 rfl (Nat.le_of_ble_eq_true rfl) (Nat.le_of_ble_eq_true rfl) rfl (?_)))))))
      rw [e65, h65]
      exact wk_189 (by omega) (by omega) (wk_239 (by omega) (wk_269 hI hr (hA1 c)))
/-- a try's last order -/
theorem wk_again {p m o j : Nat} {s : JH × Nat × Bool × Nat} {T : Nat → Int32} (hI : Kp (wkI h) 100000 s) (hr : r < 4) (ho : o ≤ 80) (hm : m < o) (hp : p < o) (hj : 1 ≤ j ∧ j ≤ 50) (h65 : gi h 65 (100 * r + m) = nI p) (hT : T p = nI j) (hA1 : (j = 1 ∨ s.2.2.1 = true) → wkA x i r a d F (m + 1) s (fun k => if k = p then nI (j - 1) else T k)) (hA2 : j ≠ 1 → s.2.2.1 = false → wkA x i r a d F (p + 1) s (fun k => if k = p then nI (j - 1) else T k)) :
    wJ x F 51 [some (.ref 38), some (.int (nI i)), some (.int (nI r)), some (.int (nI a)), some (.int d), some (.int (nI (100 * r))), some (.int (nI s.2.1)), some (.int (bi s.2.2.1)), some (.int (nI m)), some (.int (nI 4)), some (.int (nI (m + 1))), none] (tS s.1 T (nI s.2.2.2)) := by
  have hK' : Kin (tS s.1 T (nI s.2.2.2)) := hI.1.1.of2 rfl
  have hR' : MR (tS s.1 T (nI s.2.2.2)) := hI.1.2.1.of2 rfl
  obtain ⟨hb, e65⟩ := tS_6 (T := T) (L := nI s.2.2.2) hI.1 (show m < 100 by omega) hr 65 (by omega)
  have hb100 : vp_in (nI p) 100 := vp_in_nI (by omega) (by omega)
  have hxp : ix (nI p) = p := ixn (by omega)
  refine wk_51 (by omega) (by omega) (wk_68 (by omega) (by omega) (wk_125 (by omega) (by omega) (wk_149 (by omega) (by omega) ?_)))
  refine J_iload (pq := 191) dX9_work_189 rfl rfl (J_iconst (pq := 192) dX9_work_191 rfl c_iconst_4 (J_icmp_ne (pq := 195) (tgt := 239) dX9_work_192 rfl rfl (fun c => ?_) (fun c => ?_)))
  · exact absurd rfl c
  · refine J_aload_n (pq := 196) dX9_work_195 rfl rfl (J_getA (pq := 199) dX9_work_196 rfl f_X9_97 (by decide +kernel) (hK'.at rfl) (hR' _ _ rfl) (J_iload (pq := 201) dX9_work_199 rfl rfl (J_iload (pq := 203) dX9_work_201 rfl rfl (J_iadd (pq := 204) dX9_work_203 rfl (J_iald (pq := 205) dX9_work_204 rfl (hK'.at rfl) (by assumption) (?_))))))
    rw [e65, h65]
    refine J_istore (pq := 207) dX9_work_205 rfl (Nat.le_of_ble_eq_true rfl) (Nat.le_of_ble_eq_true rfl) rfl (J_aload_n (pq := 208) dX9_work_207 rfl rfl (J_getA (pq := 211) dX9_work_208 rfl f_X9_127 (by decide +kernel) (hK'.at rfl) (hR' _ _ rfl) (J_iload (pq := 213) dX9_work_211 rfl rfl (J_dup2 (pq := 214) dX9_work_213 rfl rfl rfl (J_iald (pq := 215) dX9_work_214 rfl (hK'.at rfl) (by assumption) (J_iconst (pq := 216) dX9_work_215 rfl c_iconst_1 (J_isub (pq := 217) dX9_work_216 rfl (J_iast (pq := 218) dX9_work_217 rfl (hK'.at rfl) (by assumption) (?_)))))))))
    have e75 : gi (tS s.1 T (nI s.2.2.2)) 75 (ix (nI p)) = nI j := by rw [hxp]; exact hT
    rw [e75, show nI j - 1 = nI (j - 1) from by rw [show (1 : Int32) = nI 1 from rfl, pk_sub (by omega)], hxp, tS_75]
    have hK2 : Kin (tS s.1 (fun k => if k = p then nI (j - 1) else T k) (nI s.2.2.2)) := hI.1.1.of2 rfl
    have hR2 : MR (tS s.1 (fun k => if k = p then nI (j - 1) else T k) (nI s.2.2.2)) := hI.1.2.1.of2 rfl
    have e75' : gi (tS s.1 (fun k => if k = p then nI (j - 1) else T k) (nI s.2.2.2)) 75 (ix (nI p)) = nI (j - 1) := by rw [hxp]; show (if p = p then nI (j - 1) else T p) = _; rw [if_pos rfl]
    refine J_aload_n (pq := 219) dX9_work_218 rfl rfl (J_getA (pq := 222) dX9_work_219 rfl f_X9_127 (by decide +kernel) (hK2.at rfl) (hR2 _ _ rfl) (J_iload (pq := 224) dX9_work_222 rfl rfl (J_iald (pq := 225) dX9_work_224 rfl (hK2.at rfl) (by assumption) (J_if_le (pq := 228) (tgt := 239) dX9_work_225 rfl rfl (fun c => ?_) (fun c => ?_)))))
    · rw [e75', show (0 : Int32) = nI 0 from rfl, nI_leI (by omega) (by omega)] at c
      exact wk_239 (by omega) (wk_269 hI hr (hA1 (Or.inl (by omega))))
    · rw [e75', show (0 : Int32) = nI 0 from rfl, nI_leI (by omega) (by omega)] at c
      have c1 := c
      refine J_iload (pq := 230) dX9_work_228 rfl rfl (J_if_ne (pq := 233) (tgt := 239) dX9_work_230 rfl rfl (fun c => ?_) (fun c => ?_))
      · rw [bi_0, Bool.not_eq_false] at c
        exact wk_239 (by omega) (wk_269 hI hr (hA1 (Or.inr c)))
      · rw [bi_0] at c
        have c2 : s.2.2.1 = false := by
          cases hok : s.2.2.1
          · rfl
          · rw [hok] at c; exact absurd c (by decide)
        refine J_iload (pq := 235) dX9_work_233 rfl rfl (J_iconst (pq := 236) dX9_work_235 rfl c_iconst_1 (J_iadd (pq := 237) dX9_work_236 rfl (J_istore (pq := 239) dX9_work_237 rfl (Nat.le_of_ble_eq_true rfl) (Nat.le_of_ble_eq_true rfl) rfl (?_))))
        rw [nI_1]
        exact wk_239 (by omega) (wk_269 hI hr (hA2 (by omega) c2))
/-- an ok's first order -/
theorem wk_ok {p m o : Nat} {s : JH × Nat × Bool × Nat} {T : Nat → Int32} (hI : Kp (wkI h) 100000 s) (hr : r < 4) (ho : o ≤ 80) (hp : p < o) (h65 : gi h 65 (100 * r + p) = nI m) (hA1 : s.2.2.1 = true → wkA x i r a d F (p + 1) s T) (hA2 : s.2.2.1 = false → wkA x i r a d F m s T) :
    wJ x F 51 [some (.ref 38), some (.int (nI i)), some (.int (nI r)), some (.int (nI a)), some (.int d), some (.int (nI (100 * r))), some (.int (nI s.2.1)), some (.int (bi s.2.2.1)), some (.int (nI p)), some (.int (nI 5)), some (.int (nI (p + 1))), none] (tS s.1 T (nI s.2.2.2)) := by
  have hK' : Kin (tS s.1 T (nI s.2.2.2)) := hI.1.1.of2 rfl
  have hR' : MR (tS s.1 T (nI s.2.2.2)) := hI.1.2.1.of2 rfl
  obtain ⟨hb, e65⟩ := tS_6 (T := T) (L := nI s.2.2.2) hI.1 (show p < 100 by omega) hr 65 (by omega)
  refine wk_51 (by omega) (by omega) (wk_68 (by omega) (by omega) (wk_125 (by omega) (by omega) (wk_149 (by omega) (by omega) (wk_189 (by omega) (by omega) ?_))))
  refine J_iload (pq := 241) dX9_work_239 rfl rfl (J_iconst (pq := 242) dX9_work_241 rfl c_iconst_5 (J_icmp_ne (pq := 245) (tgt := 250) dX9_work_242 rfl rfl (fun c => ?_) (fun c => ?_)))
  · exact absurd rfl c
  · refine J_iload (pq := 247) dX9_work_245 rfl rfl (J_if_eq (pq := 250) (tgt := 257) dX9_work_247 rfl rfl (fun c => ?_) (fun c => ?_))
    · rw [bi_0] at c
      refine J_aload_n (pq := 258) dX9_work_257 rfl rfl (J_getA (pq := 261) dX9_work_258 rfl f_X9_97 (by decide +kernel) (hK'.at rfl) (hR' _ _ rfl) (J_iload (pq := 263) dX9_work_261 rfl rfl (J_iload (pq := 265) dX9_work_263 rfl rfl (J_iadd (pq := 266) dX9_work_265 rfl (J_iald (pq := 267) dX9_work_266 rfl (hK'.at rfl) (by assumption) (J_istore (pq := 269) dX9_work_267 rfl (Nat.le_of_ble_eq_true rfl) (Nat.le_of_ble_eq_true rfl) rfl (?_)))))))
      rw [e65, h65]
      exact wk_269 hI hr (hA2 c)
    · rw [bi_0, Bool.not_eq_false] at c
      have c1 := c
      refine J_iload (pq := 252) dX9_work_250 rfl rfl (J_bipush (pq := 254) dX9_work_252 rfl c_bipush_6 (J_icmp_ne (pq := 257) (tgt := 269) dX9_work_254 rfl rfl (fun c => ?_) (fun c => ?_)))
      · exact wk_269 hI hr (hA1 c1)
      · exact absurd c (by decide)
/-- the order between an ok's parts -/
theorem wk_else {p m o : Nat} {s : JH × Nat × Bool × Nat} {T : Nat → Int32} (hI : Kp (wkI h) 100000 s) (hr : r < 4) (ho : o ≤ 80) (hp : p < o) (h65 : gi h 65 (100 * r + p) = nI m) (hA : wkA x i r a d F m s T) :
    wJ x F 51 [some (.ref 38), some (.int (nI i)), some (.int (nI r)), some (.int (nI a)), some (.int d), some (.int (nI (100 * r))), some (.int (nI s.2.1)), some (.int (bi s.2.2.1)), some (.int (nI p)), some (.int (nI 6)), some (.int (nI (p + 1))), none] (tS s.1 T (nI s.2.2.2)) := by
  have hK' : Kin (tS s.1 T (nI s.2.2.2)) := hI.1.1.of2 rfl
  have hR' : MR (tS s.1 T (nI s.2.2.2)) := hI.1.2.1.of2 rfl
  obtain ⟨hb, e65⟩ := tS_6 (T := T) (L := nI s.2.2.2) hI.1 (show p < 100 by omega) hr 65 (by omega)
  refine wk_51 (by omega) (by omega) (wk_68 (by omega) (by omega) (wk_125 (by omega) (by omega) (wk_149 (by omega) (by omega) (wk_189 (by omega) (by omega) ?_))))
  refine J_iload (pq := 241) dX9_work_239 rfl rfl (J_iconst (pq := 242) dX9_work_241 rfl c_iconst_5 (J_icmp_ne (pq := 245) (tgt := 250) dX9_work_242 rfl rfl (fun c => ?_) (fun c => ?_)))
  · refine J_iload (pq := 252) dX9_work_250 rfl rfl (J_bipush (pq := 254) dX9_work_252 rfl c_bipush_6 (J_icmp_ne (pq := 257) (tgt := 269) dX9_work_254 rfl rfl (fun c => ?_) (fun c => ?_)))
    · exact absurd rfl c
    · refine J_aload_n (pq := 258) dX9_work_257 rfl rfl (J_getA (pq := 261) dX9_work_258 rfl f_X9_97 (by decide +kernel) (hK'.at rfl) (hR' _ _ rfl) (J_iload (pq := 263) dX9_work_261 rfl rfl (J_iload (pq := 265) dX9_work_263 rfl rfl (J_iadd (pq := 266) dX9_work_265 rfl (J_iald (pq := 267) dX9_work_266 rfl (hK'.at rfl) (by assumption) (J_istore (pq := 269) dX9_work_267 rfl (Nat.le_of_ble_eq_true rfl) (Nat.le_of_ble_eq_true rfl) rfl (?_)))))))
      rw [e65, h65]
      exact wk_269 hI hr hA
  · exact absurd c (by decide)
end X4
