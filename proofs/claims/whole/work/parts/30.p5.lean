-- the reference's reading of a recipe: a closing brace
theorem mulL {a m : Nat} (ha : a ≤ 1000001) (hm : m ≤ 50) : lg_cmp ((nI a).toInt64 * (nI m).toInt64) 1000000 ≤ 0 ↔ a * m ≤ 1000000 := by
  have h : a * m ≤ 1000001 * 50 := Nat.mul_le_mul ha hm
  rw [lg_cmp_le, nI_l (by omega), nI_l (by omega), lN_mul, show (1000000 : Int64) = lN 1000000 from rfl, pk_lLE (by omega) (by omega)]
theorem mClo_o {h : JH} {L A B a b : Nat} (hc : ¬ (a = 38 ∧ 47 ≤ b ∧ b ≤ 49)) : gi (mClo h L A B) a b = gi h a b := by
  unfold mClo
  rw [gi_si, if_neg (fun q => hc ⟨q.1, by omega⟩), gi_si, if_neg (fun q => hc ⟨q.1, by omega⟩), gi_si, if_neg (fun q => hc ⟨q.1, by omega⟩)]
theorem TK_of {h g : JH} {t : Nat → Int32} {n p : Nat} (hT : TK h t n p) (hc : ∀ b, 37 ≤ b → b ≤ 40 → gi g 38 b = gi h 38 b) : TK g t n p := ⟨(hc 37 (by omega) (by omega)).trans hT.1, (hc 38 (by omega) (by omega)).trans hT.2.1, (hc 39 (by omega) (by omega)).trans hT.2.2.1, fun q => (hc 40 (by omega) (by omega)).trans (hT.2.2.2 q)⟩
theorem PI_clo {g : JH} {t : Nat → Int32} {n p e o A B : Nat} {fs : List Fr} {cur : Cond} (hK : Kin g) (hR : MR g) (hn : gi g 38 2 = nI n) (ht : gi g 40 = t) (hp : p ≤ n) (hT : TK g t n p) (h50 : gi g 38 50 = nI o) (h51 : gi g 38 51 = nI e) (hZ : MZ (gi g) fs cur o) (hf : fs.length ≤ 5) (he : e ≤ 40) (ho : o + fwant fs ≤ 2 * e) (hA : A = cap (pP cur)) (hB : B = cap (pW cur)) : PI (mClo g fs.length A B) t n p fs cur e o := by
  refine ⟨hK, hR, ?_, ?_, hp, TK_of hT (fun b _ _ => mClo_o (by omega)), ?_, ?_, ?_, ?_, ?_, MZ_same hZ (fun a b hab => mClo_o (by omega)), hf, he, ho⟩
  · rw [mClo_o (by decide)]; exact hn
  · rw [← ht]; exact funext fun b => mClo_o (by simp)
  · simp [mClo, gi_si]
  · simp [mClo, gi_si, hA]
  · simp [mClo, gi_si, hB]
  · rw [mClo_o (by decide)]; exact h50
  · rw [mClo_o (by decide)]; exact h51
section P5
variable {x : JX} {h : JH}
set_option maxHeartbeats 4000000 in
theorem j_X9_brace {t : Nat → Int32} {n p e o : Nat} {fs : List Fr} {cur : Cond} (hn4 : n ≤ 200) (hby : tby t) (hP : PI h t n p fs cur e o) (hC4 : tkC t n p = 4) : JM x yX9_brace cX9_brace 4 (some .int) 4 0 0 [.ref 38] h (StP t n (pstep t n p fs cur e) h) := by
  obtain ⟨hK, hR, hn, ht, hp, hT, h47, h48, h49, h50, h51, hZ, hf5, he40, hob⟩ := hP
  refine JM_of [some (.ref 38), none, none, none] (by decide) (Nat.le_of_ble_eq_true rfl) rfl ?_
  rcases fs with _ | ⟨⟨acc, part, num, a⟩, fs⟩
  · have hst : pstep t n p [] cur e = .inl (1, tkQ t n p) := by unfold pstep; rw [if_pos hC4]
    rw [hst]
    refine J_aload_n (pq := 1) dX9_brace_0 rfl rfl (J_getI (pq := 4) dX9_brace_1 rfl f_X9_256 jsI (hK.at rfl) (J_if_ne (pq := 7) (tgt := 9) dX9_brace_4 rfl rfl (fun c => ?_) (fun c => ?_)))
    · exact absurd h47 c
    · refine J_iconst (pq := 8) dX9_brace_7 rfl c_iconst_1 (J_iret dX9_brace_8 rfl rfl ?_)
      exact ⟨RF.rf h, rfl, hT.2.1, by simp, by simp⟩
  have hE0 := tkE_b (t := t) hp
  generalize hp1 : tkE t n p = p1 at *
  have hE1 := tkE_b (t := t) (n := n) (p := p1) hE0.2.1
  have hlt1 := tkC_lt t n p1
  generalize hp2 : tkE t n p1 = p2 at *
  have hE2 := tkE_b (t := t) (n := n) (p := p2) hE1.2.1
  have hlt2 := tkC_lt t n p2
  have hst : pstep t n p ((acc, part, num, a) :: fs) cur e = if part = 0 then .inr (p1, fs, papp acc (pT num cur pN), e)
      else if part = 1 then
        (if tkC t n p1 = 11 then (if tkC t n p2 = 3 then .inr (tkE t n p2, (acc, 2, 0, cur) :: fs, pN, e) else .inl (1, tkQ t n p2)) else .inl (1, tkQ t n p1))
      else .inr (p1, fs, papp acc (pO a cur pN), e) := by
    unfold pstep
    rw [if_pos hC4, hp1, hp2]
  rw [hst]
  simp only [List.length_cons] at h47 hf5
  generalize hL : fs.length = L at *
  obtain ⟨k, s, z1, z2, z3, z4, z5, z6⟩ := hZ
  rw [hL] at z4 z5 z6
  have hs : gi h 38 47 - 1 = nI L := by rw [h47, nI_pred]
  have hxL : ix (nI L) = L := ixn (by omega)
  have hbL : vp_in (nI L) 6 := vp_in_nI (by omega) (by omega)
  have hcP := cap_lt (pP cur)
  have hcW := cap_lt (pW cur)
  have haP := cap_lt (pP acc)
  have haW := cap_lt (pW acc)
  have hso := (MS_le cur z2 _ _ z3).1
  have hfw : fwant ((acc, part, num, a) :: fs) = (if part = 2 then 0 else 1) + fwant fs := rfl
  rw [hfw] at hob
  -- the token behind
  generalize hh2 : mTok h t n p1 = h2
  have hT2 : TK h2 t n p1 := by rw [← hh2]; exact mTok_T
  have e22 : h2.2 = h.2 := by rw [← hh2, mTok_2]
  have hg2 : ∀ a b, ¬ (a = 38 ∧ 37 ≤ b ∧ b ≤ 40) → gi h2 a b = gi h a b := by
    intro a b x1
    rw [← hh2, mTok_o x1]
  have hK2 : Kin h2 := hK.of2 e22
  have hR2 : MR h2 := hR.of2 e22
  have hn2 : gi h2 38 2 = nI n := by rw [hg2 38 2 (by decide)]; exact hn
  have ht2 : gi h2 40 = t := by rw [← ht]; exact funext fun b => hg2 40 b (by simp)
  have q47 : gi h2 38 47 = nI (L + 1) := by rw [hg2 38 47 (by decide)]; exact h47
  have q48 : gi h2 38 48 = nI (cap (pP cur)) := by rw [hg2 38 48 (by decide)]; exact h48
  have q49 : gi h2 38 49 = nI (cap (pW cur)) := by rw [hg2 38 49 (by decide)]; exact h49
  have q50 : gi h2 38 50 = nI o := by rw [hg2 38 50 (by decide)]; exact h50
  have q51 : gi h2 38 51 = nI e := by rw [hg2 38 51 (by decide)]; exact h51
  have hF2 : RF h h2 := by rw [← hh2]; exact RF.tok _ _ _ _
  have pre : ∀ (kk : Nat) (Q : Option Value → JH → Prop), gi h 68 L = nI kk → J x yX9_brace cX9_brace 4 (some .int) 4 0 0 Q 27 [some (.ref 38), some (.int (nI L)), some (.int (nI kk)), none] [] h2 → J x yX9_brace cX9_brace 4 (some .int) 4 0 0 Q 0 [some (.ref 38), none, none, none] [] h := by
    intro kk Q hkk k27
    refine J_aload_n (pq := 1) dX9_brace_0 rfl rfl (J_getI (pq := 4) dX9_brace_1 rfl f_X9_256 jsI (hK.at rfl) (J_if_ne (pq := 7) (tgt := 9) dX9_brace_4 rfl rfl (fun c => ?_) (fun c => ?_)))
    · refine J_aload_n (pq := 10) dX9_brace_9 rfl rfl (J_getI (pq := 13) dX9_brace_10 rfl f_X9_256 jsI (hK.at rfl) (J_iconst (pq := 14) dX9_brace_13 rfl c_iconst_1 (J_isub (pq := 15) dX9_brace_14 rfl (?_))))
      rw [hs]
      refine J_istore_m 1 (pq := 16) dX9_brace_15 rfl rfl (Nat.le_of_ble_eq_true rfl) (Nat.le_of_ble_eq_true rfl) rfl (J_aload_n (pq := 17) dX9_brace_16 rfl rfl (J_getA (pq := 20) dX9_brace_17 rfl f_X9_106 (by decide +kernel) (hK.at rfl) (hR _ _ rfl) (J_iload_n (pq := 21) dX9_brace_20 rfl rfl (J_iald (pq := 22) dX9_brace_21 rfl (hK.at rfl) (by assumption) (?_)))))
      rw [hxL, hkk]
      refine J_istore_m 2 (pq := 23) dX9_brace_22 rfl rfl (Nat.le_of_ble_eq_true rfl) (Nat.le_of_ble_eq_true rfl) rfl (J_aload_n (pq := 24) dX9_brace_23 rfl rfl (J_virtF (pq := 27) dX9_brace_24 rfl (j_X9_nx hK hR hn hn4 ht hby hp (by rw [hp1]; exact (hp1 ▸ hT.1))) rfl tg_X9_nextToken l_X9_272 vi_X9_nextToken (hK.at rfl) ⟨by decide, rfl⟩ (Nat.le_of_ble_eq_true rfl) (Nat.zero_le _) (Nat.zero_le _) (Nat.le_of_ble_eq_true rfl) (?_)))
      rw [hp1, hh2]
      exact k27
    · rw [h47, show (0 : Int32) = nI 0 from rfl, nI_eq (by omega) (by omega)] at c
      omega
  have hbk : ∀ kk, kk < 100 → vp_in ((400 : Int32) + nI kk) 500 := fun kk hk => vinN (k := 400 + kk) (by rw [show (400 : Int32) = nI 400 from rfl, nI_add]) (by omega) (by omega)
  have hxk : ∀ kk, kk < 100 → ix ((400 : Int32) + nI kk) = 400 + kk := fun kk hk => by rw [show (400 : Int32) = nI 400 from rfl, nI_add, ixn (by omega)]
  have t69 : gi h2 69 (ix (nI L)) = gi h 69 L := by rw [hxL, hg2 69 L (by simp)]
  have zc : ∀ g : JH, (∀ a b, ¬ (a = 38 ∧ 37 ≤ b ∧ b ≤ 51) → ¬ (a = 65 ∧ b = 400 + k) → ¬ ((a = 63 ∨ a = 64 ∨ a = 65) ∧ b = 400 + o) → ¬ (68 ≤ a ∧ a ≤ 73 ∧ b = L) → gi g a b = gi h a b) → k < s → MZ (gi g) fs acc k := by
    intro g hg hks
    refine MZ_congr fs (fun j hj => ⟨hg _ _ (by simp) (by simp) (by omega) (by simp), hg _ _ (by simp) (by simp) (by omega) (by simp), hg _ _ (by simp) (by omega) (by omega) (by simp)⟩) (fun u hu q h1 h2 => hg _ _ (by omega) (by omega) (by omega) (by omega)) z1
  rcases z6 with ⟨w1, w2, w3, w4, w5, w6, w7, w8⟩ | ⟨w1, w2, w3, w4, w5⟩ | ⟨w1, w2, m, w3, w4, w5, w6, w7, w8, w9, w10, w11⟩
  · -- a try ends
    subst w1
    simp only [if_true, if_neg (show ¬ (0 : Nat) = 2 by decide)] at hob ⊢
    refine pre k _ w5 ?_
    have hk1 : k < 100 := by omega
    have ho1 : o < 100 := by omega
    have hord := j_X9_order (x := x) (w := 4) (n := 0) (p := nI k) hK2 hR2 q50 ho1
    generalize hh3 : mOrd h2 o 4 0 (nI k) = h3 at *
    have hg3 : ∀ a b, ¬ ((a = 63 ∨ a = 64 ∨ a = 65) ∧ b = 400 + o) → ¬ (a = 38 ∧ b = 50) → gi h3 a b = gi h2 a b := fun a b x1 x2 => by rw [← hh3, mOrd_o x1 x2]
    have hK3 : Kin h3 := by rw [← hh3]; exact hK2
    have hR3 : MR h3 := by rw [← hh3]; exact hR2
    have e50 : gi h3 38 50 = nI (o + 1) := by rw [← hh3, mOrd_50]
    generalize hh4 : si h3 65 (400 + k) (nI (o + 1)) = h4
    have hg4 : ∀ a b, ¬ (a = 65 ∧ b = 400 + k) → gi h4 a b = gi h3 a b := fun a b x1 => by rw [← hh4, gi_si, if_neg x1]
    have hK4 : Kin h4 := by rw [← hh4]; exact hK3
    have hR4 : MR h4 := by rw [← hh4]; exact hR3
    have hg : ∀ a b, ¬ (a = 38 ∧ 37 ≤ b ∧ b ≤ 51) → ¬ (a = 65 ∧ b = 400 + k) → ¬ ((a = 63 ∨ a = 64 ∨ a = 65) ∧ b = 400 + o) → gi h4 a b = gi h a b := fun a b x1 x2 x3 => by rw [hg4 a b x2, hg3 a b x3 (fun q => x1 ⟨q.1, by omega⟩), hg2 a b (fun q => x1 ⟨q.1, by omega⟩)]
    have n4 : gi h4 64 (ix ((400 : Int32) + nI k)) = nI num := by rw [hxk k hk1, hg 64 _ (by simp) (by simp) (by omega)]; exact w3
    have f4 : ∀ b, b ≠ 50 → gi h4 38 b = gi h2 38 b := fun b hb => by rw [hg4 38 b (by simp), hg3 38 b (by simp) (by omega)]
    have r48 : gi h4 38 48 = nI (cap (pP cur)) := by rw [f4 48 (by decide)]; exact q48
    have r49 : gi h4 38 49 = nI (cap (pW cur)) := by rw [f4 49 (by decide)]; exact q49
    have u70 : gi h4 70 L = nI (cap (pP acc)) := by rw [hg 70 L (by simp) (by simp) (by simp)]; exact z4
    have u71 : gi h4 71 L = nI (cap (pW acc)) := by rw [hg 71 L (by simp) (by simp) (by simp)]; exact z5
    have hcl := j_X9_close (x := x) (a := cap (num * pP cur)) (b := cap (num * pW cur)) hK4 hR4 (by rw [f4 47 (by decide)]; exact q47) (by omega) u70 u71 haP haW (cap_lt _) (cap_lt _)
    refine J_aload_n (pq := 28) dX9_brace_27 rfl rfl (J_getA (pq := 31) dX9_brace_28 rfl f_X9_109 (by decide +kernel) (hK2.at rfl) (hR2 _ _ rfl) (J_iload_n (pq := 32) dX9_brace_31 rfl rfl (J_iald (pq := 33) dX9_brace_32 rfl (hK2.at rfl) (by assumption) (J_if_ne (pq := 36) (tgt := 129) dX9_brace_33 rfl rfl (fun c => ?_) (fun c => ?_)))))
    · rw [t69, w6] at c; exact absurd rfl c
    · refine J_aload_n (pq := 37) dX9_brace_36 rfl rfl (J_iconst (pq := 38) dX9_brace_37 rfl c_iconst_4 (J_iconst (pq := 39) dX9_brace_38 rfl c_iconst_0 (J_iload_n (pq := 40) dX9_brace_39 rfl rfl (J_virtF (pq := 43) dX9_brace_40 rfl (hord) rfl tg_X9_order l_X9_275 vi_X9_order (hK2.at rfl) ⟨by decide, rfl⟩ (Nat.le_of_ble_eq_true rfl) (Nat.zero_le _) (Nat.zero_le _) (Nat.le_of_ble_eq_true rfl) (J_pop (pq := 44) dX9_brace_43 rfl rfl (?_))))))
      have hb1 := hbk k hk1
      refine J_aload_n (pq := 45) dX9_brace_44 rfl rfl (J_getA (pq := 48) dX9_brace_45 rfl f_X9_97 (by decide +kernel) (hK3.at rfl) (hR3 _ _ rfl) (J_sipush (pq := 51) dX9_brace_48 rfl c_sipush_400 (J_iload_n (pq := 52) dX9_brace_51 rfl rfl (J_iadd (pq := 53) dX9_brace_52 rfl (J_aload_n (pq := 54) dX9_brace_53 rfl rfl (J_getI (pq := 57) dX9_brace_54 rfl f_X9_253 jsI (hK3.at rfl) (J_iast (pq := 58) dX9_brace_57 rfl (hK3.at rfl) (by assumption) (?_))))))))
      rw [hxk k hk1, e50, hh4]
      refine J_aload_n (pq := 59) dX9_brace_58 rfl rfl (J_getA (pq := 62) dX9_brace_59 rfl f_X9_94 (by decide +kernel) (hK4.at rfl) (hR4 _ _ rfl) (J_sipush (pq := 65) dX9_brace_62 rfl c_sipush_400 (J_iload_n (pq := 66) dX9_brace_65 rfl rfl (J_iadd (pq := 67) dX9_brace_66 rfl (J_iald (pq := 68) dX9_brace_67 rfl (hK4.at rfl) (by assumption) (?_))))))
      rw [n4]
      refine J_cut (σ := Unit) 97 (fun _ => [some (.ref 38), none, none, some (.int (nI num))]) (fun _ => [.int (nI (cap (num * pP cur))), .ref 38]) (fun _ => h4) (fun _ => True) (fun _ _ => ?_) (fun k97 => ?_)
      · refine J_cut (σ := Unit) 124 (fun _ => [some (.ref 38), none, none, some (.int (nI num))]) (fun _ => [.int (nI (cap (num * pW cur))), .int (nI (cap (num * pP cur))), .ref 38]) (fun _ => h4) (fun _ => True) (fun _ _ => ?_) (fun k124 => ?_)
        · refine J_virtF (pq := 127) dX9_brace_124 rfl (hcl) rfl tg_X9_close l_X9_286 vi_X9_close (hK4.at rfl) ⟨by decide, rfl⟩ (Nat.le_of_ble_eq_true rfl) (Nat.zero_le _) (Nat.zero_le _) (Nat.le_of_ble_eq_true rfl) (J_iconst (pq := 128) dX9_brace_127 rfl c_iconst_0 (J_iret dX9_brace_128 rfl rfl ?_))
          rw [← hL]
          refine ⟨?_, rfl, o + 1, PI_clo hK4 hR4 ?_ ?_ hE0.2.1 ?_ ?_ ?_ ?_ (by omega) he40 (by simp only; omega) ?_ ?_⟩
          · refine (hF2.tr ?_).tr (RF.clo _ _ _ _)
            rw [← hh4, ← hh3]
            refine (RF.ord h2 o 4 0 (nI k)).tr ⟨rfl, fun a b _ y _ => ?_⟩
            rw [gi_si, if_neg (fun q => y ⟨by omega, by omega⟩)]
          · rw [f4 2 (by decide)]; exact hn2
          · rw [← ht]; exact funext fun b => hg 40 b (by simp) (by simp) (by simp)
          · exact TK_of hT2 (fun b _ _ => f4 b (by omega))
          · rw [hg4 38 50 (by simp)]; exact e50
          · rw [f4 51 (by decide)]; exact q51
          · refine MZ_put (zc h4 (fun a b x1 x2 x3 _ => hg a b x1 x2 x3) (by omega)) ⟨z2, trivial⟩ ⟨o, ?_, ?_, ?_, ?_, ?_, ?_, rfl⟩
            · rw [hg 63 _ (by simp) (by simp) (by omega)]; exact w2
            · rw [hg 64 _ (by simp) (by simp) (by omega)]; exact w3
            · rw [← hh4, gi_si, if_pos ⟨rfl, rfl⟩]
            · rw [← w4]
              exact MS_congr cur z2 _ _ (fun j hj1 hj2 => ⟨hg 63 _ (by simp) (by simp) (by omega), hg 64 _ (by simp) (by simp) (by omega), hg 65 _ (by simp) (by omega) (by omega)⟩) z3
            · rw [hg4 63 _ (by simp), ← hh3, mOrd_63]; rfl
            · rw [hg4 65 _ (by omega), ← hh3, mOrd_65]
          · have zp := (MZ_le fs z1).1
            rw [pP_app _ acc zp, cap_add2]; rfl
          · have zp := (MZ_le fs z1).1
            rw [pW_app _ acc zp]
            show _ = cap (pW acc + (1 + num * pW cur + 0))
            unfold cap; omega
        have hmw := mulL (a := cap (pW cur)) (m := num) hcW w8
        have hcm := cap_mul (a := pW cur) w7
        refine J_aload_n (pq := 98) dX9_brace_97 rfl rfl (J_getI (pq := 101) dX9_brace_98 rfl f_X9_262 jsI (hK4.at rfl) (J_i2l (pq := 102) dX9_brace_101 rfl (J_iload_n (pq := 103) dX9_brace_102 rfl rfl (J_i2l (pq := 104) dX9_brace_103 rfl (J_lmul (pq := 105) dX9_brace_104 rfl (J_ldc2 (pq := 108) dX9_brace_105 rfl k_X9_284 (J_lcmp (pq := 109) dX9_brace_108 rfl (J_if_le (pq := 112) (tgt := 118) dX9_brace_109 rfl rfl (fun c => ?_) (fun c => ?_)))))))))
        · rw [r49] at c
          have hc := hmw.1 c
          rw [if_neg (by omega)] at hcm
          refine J_aload_n (pq := 119) dX9_brace_118 rfl rfl (J_getI (pq := 122) dX9_brace_119 rfl f_X9_262 jsI (hK4.at rfl) (J_iload_n (pq := 123) dX9_brace_122 rfl rfl (J_imul (pq := 124) dX9_brace_123 rfl (?_))))
          rw [r49, pk_mul, hcm]
          exact J_weak (by simp [lsub]) rfl rfl (k124 () trivial)
        · rw [r49] at c
          have hc : ¬ (cap (pW cur) * num ≤ 1000000) := fun q => c (hmw.2 q)
          rw [if_pos (by omega)] at hcm
          refine J_ldcw (pq := 115) dX9_brace_112 rfl k_X9_265 (J_goto (tgt := 124) dX9_brace_115 rfl (?_))
          have := k124 () trivial
          rw [← hcm] at this
          exact J_weak (by simp [lsub]) rfl rfl this
      have hmw := mulL (a := cap (pP cur)) (m := num) hcP w8
      have hcm := cap_mul (a := pP cur) w7
      refine J_istore_m 3 (pq := 69) dX9_brace_68 rfl rfl (Nat.le_of_ble_eq_true rfl) (Nat.le_of_ble_eq_true rfl) rfl (J_aload_n (pq := 70) dX9_brace_69 rfl rfl (J_aload_n (pq := 71) dX9_brace_70 rfl rfl (J_getI (pq := 74) dX9_brace_71 rfl f_X9_259 jsI (hK4.at rfl) (J_i2l (pq := 75) dX9_brace_74 rfl (J_iload_n (pq := 76) dX9_brace_75 rfl rfl (J_i2l (pq := 77) dX9_brace_76 rfl (J_lmul (pq := 78) dX9_brace_77 rfl (J_ldc2 (pq := 81) dX9_brace_78 rfl k_X9_284 (J_lcmp (pq := 82) dX9_brace_81 rfl (J_if_le (pq := 85) (tgt := 91) dX9_brace_82 rfl rfl (fun c => ?_) (fun c => ?_)))))))))))
      · rw [r48] at c
        have hc := hmw.1 c
        rw [if_neg (by omega)] at hcm
        refine J_aload_n (pq := 92) dX9_brace_91 rfl rfl (J_getI (pq := 95) dX9_brace_92 rfl f_X9_259 jsI (hK4.at rfl) (J_iload_n (pq := 96) dX9_brace_95 rfl rfl (J_imul (pq := 97) dX9_brace_96 rfl (?_))))
        rw [r48, pk_mul, hcm]
        exact J_weak (by simp [lsub]) rfl rfl (k97 () trivial)
      · rw [r48] at c
        have hc : ¬ (cap (pP cur) * num ≤ 1000000) := fun q => c (hmw.2 q)
        rw [if_pos (by omega)] at hcm
        refine J_ldcw (pq := 88) dX9_brace_85 rfl k_X9_265 (J_goto (tgt := 97) dX9_brace_88 rfl (?_))
        have := k97 () trivial
        rw [← hcm] at this
        exact J_weak (by simp [lsub]) rfl rfl this
  · -- the ok part ends, the else part begins
    subst w1
    simp only [if_true, if_neg (show ¬ (1 : Nat) = 2 by decide), if_neg (show ¬ (1 : Nat) = 0 by decide)] at hob ⊢
    refine pre k _ w4 ?_
    have hk1 : k < 100 := by omega
    have ho1 : o < 100 := by omega
    refine J_aload_n (pq := 28) dX9_brace_27 rfl rfl (J_getA (pq := 31) dX9_brace_28 rfl f_X9_109 (by decide +kernel) (hK2.at rfl) (hR2 _ _ rfl) (J_iload_n (pq := 32) dX9_brace_31 rfl rfl (J_iald (pq := 33) dX9_brace_32 rfl (hK2.at rfl) (by assumption) (J_if_ne (pq := 36) (tgt := 129) dX9_brace_33 rfl rfl (fun c => ?_) (fun c => ?_)))))
    · refine J_aload_n (pq := 130) dX9_brace_129 rfl rfl (J_getA (pq := 133) dX9_brace_130 rfl f_X9_109 (by decide +kernel) (hK2.at rfl) (hR2 _ _ rfl) (J_iload_n (pq := 134) dX9_brace_133 rfl rfl (J_iald (pq := 135) dX9_brace_134 rfl (hK2.at rfl) (by assumption) (J_iconst (pq := 136) dX9_brace_135 rfl c_iconst_1 (J_icmp_ne (pq := 139) (tgt := 237) dX9_brace_136 rfl rfl (fun c => ?_) (fun c => ?_))))))
      · rw [t69, w5] at c; exact absurd rfl c
      · refine J_aload_n (pq := 140) dX9_brace_139 rfl rfl (J_getI (pq := 143) dX9_brace_140 rfl f_X9_236 jsI (hK2.at rfl) (J_bipush (pq := 145) dX9_brace_143 rfl c_bipush_11 (J_icmp_eq (pq := 148) (tgt := 150) dX9_brace_145 rfl rfl (fun c => ?_) (fun c => ?_))))
        · rw [hT2.2.2.1, show (11 : Int32) = nI 11 from rfl, nI_eq (by omega) (by omega)] at c
          rw [if_pos c]
          have hnx := j_X9_nx (x := x) hK2 hR2 hn2 hn4 ht2 hby hE0.2.1 hT2.1
          rw [hp2] at hnx
          generalize hh3 : mTok h2 t n p2 = h3 at *
          have hT3 : TK h3 t n p2 := by rw [← hh3]; exact mTok_T
          have e32 : h3.2 = h2.2 := by rw [← hh3, mTok_2]
          have hg3 : ∀ a b, ¬ (a = 38 ∧ 37 ≤ b ∧ b ≤ 40) → gi h3 a b = gi h2 a b := by
            intro a b x1
            rw [← hh3, mTok_o x1]
          have hK3 : Kin h3 := hK2.of2 e32
          have hR3 : MR h3 := hR2.of2 e32
          have hF3 : RF h h3 := by rw [← hh3]; exact hF2.tr (RF.tok _ _ _ _)
          refine J_aload_n (pq := 151) dX9_brace_150 rfl rfl (J_virtF (pq := 154) dX9_brace_151 rfl (hnx) rfl tg_X9_nextToken l_X9_272 vi_X9_nextToken (hK2.at rfl) ⟨by decide, rfl⟩ (Nat.le_of_ble_eq_true rfl) (Nat.zero_le _) (Nat.zero_le _) (Nat.le_of_ble_eq_true rfl) (?_))
          refine J_aload_n (pq := 155) dX9_brace_154 rfl rfl (J_getI (pq := 158) dX9_brace_155 rfl f_X9_236 jsI (hK3.at rfl) (J_iconst (pq := 159) dX9_brace_158 rfl c_iconst_3 (J_icmp_eq (pq := 162) (tgt := 164) dX9_brace_159 rfl rfl (fun c => ?_) (fun c => ?_))))
          · rw [hT3.2.2.1, show (3 : Int32) = nI 3 from rfl, nI_eq (by omega) (by omega)] at c
            rw [if_pos c]
            have hn3 : gi h3 38 2 = nI n := by rw [hg3 38 2 (by decide)]; exact hn2
            have ht3 : gi h3 40 = t := by rw [← ht2]; exact funext fun b => hg3 40 b (by simp)
            have hnx2 := j_X9_nx (x := x) hK3 hR3 hn3 hn4 ht3 hby hE1.2.1 hT3.1
            generalize hp3 : tkE t n p2 = p3 at *
            generalize hh4 : mTok h3 t n p3 = h4 at *
            have hT4 : TK h4 t n p3 := by rw [← hh4]; exact mTok_T
            have e42 : h4.2 = h3.2 := by rw [← hh4, mTok_2]
            have hg4 : ∀ a b, ¬ (a = 38 ∧ 37 ≤ b ∧ b ≤ 40) → gi h4 a b = gi h a b := by
              intro a b x1
              rw [← hh4, mTok_o x1, hg3 a b x1, hg2 a b x1]
            have hK4 : Kin h4 := hK3.of2 e42
            have hR4 : MR h4 := hR3.of2 e42
            have hF4 : RF h h4 := by rw [← hh4]; exact hF3.tr (RF.tok _ _ _ _)
            refine J_aload_n (pq := 165) dX9_brace_164 rfl rfl (J_virtF (pq := 168) dX9_brace_165 rfl (hnx2) rfl tg_X9_nextToken l_X9_272 vi_X9_nextToken (hK3.at rfl) ⟨by decide, rfl⟩ (Nat.le_of_ble_eq_true rfl) (Nat.zero_le _) (Nat.zero_le _) (Nat.le_of_ble_eq_true rfl) (?_))
            have hord := j_X9_order (x := x) (w := 6) (n := 0) (p := 0) hK4 hR4 (by rw [hg4 38 50 (by decide)]; exact h50) ho1
            generalize hh5 : mOrd h4 o 6 0 0 = h5 at *
            have hK5 : Kin h5 := by rw [← hh5]; exact hK4
            have hR5 : MR h5 := by rw [← hh5]; exact hR4
            have e50 : gi h5 38 50 = nI (o + 1) := by rw [← hh5, mOrd_50]
            have hg5 : ∀ a b, ¬ ((a = 63 ∨ a = 64 ∨ a = 65) ∧ b = 400 + o) → ¬ (a = 38 ∧ b = 50) → gi h5 a b = gi h4 a b := fun a b x1 x2 => by rw [← hh5, mOrd_o x1 x2]
            refine J_aload_n (pq := 169) dX9_brace_168 rfl rfl (J_bipush (pq := 171) dX9_brace_169 rfl c_bipush_6 (J_iconst (pq := 172) dX9_brace_171 rfl c_iconst_0 (J_iconst (pq := 173) dX9_brace_172 rfl c_iconst_0 (J_virtF (pq := 176) dX9_brace_173 rfl (hord) rfl tg_X9_order l_X9_275 vi_X9_order (hK4.at rfl) ⟨by decide, rfl⟩ (Nat.le_of_ble_eq_true rfl) (Nat.zero_le _) (Nat.zero_le _) (Nat.le_of_ble_eq_true rfl) (J_istore_m 3 (pq := 177) dX9_brace_176 rfl rfl (Nat.le_of_ble_eq_true rfl) (Nat.le_of_ble_eq_true rfl) rfl (?_))))))
            have hb1 := hbk k hk1
            refine J_aload_n (pq := 178) dX9_brace_177 rfl rfl (J_getA (pq := 181) dX9_brace_178 rfl f_X9_97 (by decide +kernel) (hK5.at rfl) (hR5 _ _ rfl) (J_sipush (pq := 184) dX9_brace_181 rfl c_sipush_400 (J_iload_n (pq := 185) dX9_brace_184 rfl rfl (J_iadd (pq := 186) dX9_brace_185 rfl (J_aload_n (pq := 187) dX9_brace_186 rfl rfl (J_getI (pq := 190) dX9_brace_187 rfl f_X9_253 jsI (hK5.at rfl) (J_iast (pq := 191) dX9_brace_190 rfl (hK5.at rfl) (by assumption) (?_))))))))
            rw [hxk k hk1, e50]
            generalize hh6 : si h5 65 (400 + k) (nI (o + 1)) = h6
            have hK6 : Kin h6 := by rw [← hh6]; exact hK5
            have hR6 : MR h6 := by rw [← hh6]; exact hR5
            have g6 : ∀ a b, ¬ (a = 65 ∧ b = 400 + k) → gi h6 a b = gi h5 a b := fun a b x1 => by rw [← hh6, gi_si, if_neg x1]
            refine J_aload_n (pq := 192) dX9_brace_191 rfl rfl (J_getA (pq := 195) dX9_brace_192 rfl f_X9_106 (by decide +kernel) (hK6.at rfl) (hR6 _ _ rfl) (J_iload_n (pq := 196) dX9_brace_195 rfl rfl (J_iload_n (pq := 197) dX9_brace_196 rfl rfl (J_iast (pq := 198) dX9_brace_197 rfl (hK6.at rfl) (by assumption) (J_aload_n (pq := 199) dX9_brace_198 rfl rfl (J_getA (pq := 202) dX9_brace_199 rfl f_X9_109 (by decide +kernel) (hK6.at rfl) (hR6 _ _ rfl) (J_iload_n (pq := 203) dX9_brace_202 rfl rfl (J_iconst (pq := 204) dX9_brace_203 rfl c_iconst_2 (J_iast (pq := 205) dX9_brace_204 rfl (hK6.at rfl) (by assumption) (?_))))))))))
            rw [hxL]
            generalize hh7 : si (si h6 68 L (nI o)) 69 L 2 = h7
            have hK7 : Kin h7 := by rw [← hh7]; exact hK6
            have hR7 : MR h7 := by rw [← hh7]; exact hR6
            have g7 : ∀ a b, ¬ ((a = 68 ∨ a = 69) ∧ b = L) → gi h7 a b = gi h6 a b := fun a b x1 => by rw [← hh7, gi_si, if_neg (by omega), gi_si, if_neg (by omega)]
            have s48 : gi h7 38 48 = nI (cap (pP cur)) := by rw [g7 38 48 (by simp), g6 38 48 (by simp), hg5 38 48 (by simp) (by decide), hg4 38 48 (by decide)]; exact h48
            have s49 : gi h7 38 49 = nI (cap (pW cur)) := by rw [g7 38 49 (by simp), g6 38 49 (by simp), hg5 38 49 (by simp) (by decide), hg4 38 49 (by decide)]; exact h49
            refine J_aload_n (pq := 206) dX9_brace_205 rfl rfl (J_getA (pq := 209) dX9_brace_206 rfl f_X9_118 (by decide +kernel) (hK7.at rfl) (hR7 _ _ rfl) (J_iload_n (pq := 210) dX9_brace_209 rfl rfl (J_aload_n (pq := 211) dX9_brace_210 rfl rfl (J_getI (pq := 214) dX9_brace_211 rfl f_X9_259 jsI (hK7.at rfl) (J_iast (pq := 215) dX9_brace_214 rfl (hK7.at rfl) (by assumption) (J_aload_n (pq := 216) dX9_brace_215 rfl rfl (J_getA (pq := 219) dX9_brace_216 rfl f_X9_121 (by decide +kernel) (hK7.at rfl) (hR7 _ _ rfl) (J_iload_n (pq := 220) dX9_brace_219 rfl rfl (J_aload_n (pq := 221) dX9_brace_220 rfl rfl (J_getI (pq := 224) dX9_brace_221 rfl f_X9_262 jsI (hK7.at rfl) (J_iast (pq := 225) dX9_brace_224 rfl (hK7.at rfl) (by assumption) (J_aload_n (pq := 226) dX9_brace_225 rfl rfl (J_iconst (pq := 227) dX9_brace_226 rfl c_iconst_0 (J_putI (pq := 230) dX9_brace_227 rfl f_X9_259 (Or.inl rfl) (hK7.at rfl) (J_aload_n (pq := 231) dX9_brace_230 rfl rfl (J_iconst (pq := 232) dX9_brace_231 rfl c_iconst_0 (J_putI (pq := 235) dX9_brace_232 rfl f_X9_262 (Or.inl rfl) (hK7.at rfl) (?_))))))))))))))))))
            rw [hxL, s48, gi_si, if_neg (by simp), s49]
            generalize hh8 : si (si (si (si h7 72 L (nI (cap (pP cur)))) 73 L (nI (cap (pW cur)))) 38 48 0) 38 49 0 = h8
            refine J_iconst (pq := 236) dX9_brace_235 rfl c_iconst_0 (J_iret dX9_brace_236 rfl rfl ?_)
            have g8 : ∀ a b, ¬ (a = 38 ∧ (b = 48 ∨ b = 49)) → ¬ ((a = 72 ∨ a = 73) ∧ b = L) → gi h8 a b = gi h7 a b := fun a b x1 x2 => by rw [← hh8, gi_si, if_neg (by omega), gi_si, if_neg (by omega), gi_si, if_neg (by omega), gi_si, if_neg (by omega)]
            have gg : ∀ a b, ¬ (a = 38 ∧ 37 ≤ b ∧ b ≤ 51) → ¬ (a = 65 ∧ b = 400 + k) → ¬ ((a = 63 ∨ a = 64 ∨ a = 65) ∧ b = 400 + o) → ¬ (68 ≤ a ∧ a ≤ 73 ∧ b = L) → gi h8 a b = gi h a b := fun a b x1 x2 x3 x4 => by
              rw [g8 a b (by omega) (by omega), g7 a b (by omega), g6 a b x2, hg5 a b x3 (by omega), hg4 a b (by omega)]
            have f8 : ∀ b, b ≠ 48 → b ≠ 49 → b ≠ 50 → gi h8 38 b = gi h4 38 b := fun b x1 x2 x3 => by rw [g8 38 b (by omega) (by simp), g7 38 b (by simp), g6 38 b (by simp), hg5 38 b (by simp) (by omega)]
            refine ⟨?_, rfl, o + 1, ?_, ?_, ?_, ?_, hE2.2.1, TK_of hT4 (fun b _ _ => f8 b (by omega) (by omega) (by omega)), ?_, ?_, ?_, ?_, ?_, ?_, by simp; omega, he40, ?_⟩
            · refine hF4.tr ?_
              refine ⟨by rw [← hh8, ← hh7, ← hh6, ← hh5]; rfl, fun a b y1 y2 y3 => ?_⟩
              rw [g8 a b (by omega) (by omega), g7 a b (by omega), g6 a b (by omega), hg5 a b (by omega) (by omega)]
            · rw [← hh8]; exact hK7
            · rw [← hh8]; exact hR7
            · rw [f8 2 (by decide) (by decide) (by decide), hg4 38 2 (by decide)]; exact hn
            · rw [← ht]; exact funext fun b => gg 40 b (by simp) (by simp) (by simp) (by simp)
            · rw [f8 47 (by decide) (by decide) (by decide), hg4 38 47 (by decide), List.length_cons, hL]; exact h47
            · rw [← hh8, gi_si, if_neg (by decide), gi_si, if_pos ⟨rfl, rfl⟩]; rfl
            · rw [← hh8, gi_si, if_pos ⟨rfl, rfl⟩]; rfl
            · rw [g8 38 50 (by decide) (by simp), g7 38 50 (by simp), g6 38 50 (by simp)]; exact e50
            · rw [f8 51 (by decide) (by decide) (by decide), hg4 38 51 (by decide)]; exact h51
            · refine ⟨k, o + 1, zc h8 gg (by omega), trivial, rfl, ?_, ?_, Or.inr (Or.inr ⟨rfl, ?_, o, z2, ?_, ?_, ?_, rfl, ?_, ?_, ?_, ?_⟩)⟩
              · rw [hL, g8 70 L (by simp) (by simp), g7 70 L (by simp), g6 70 L (by simp), hg5 70 L (by simp) (by simp), hg4 70 L (by simp)]; exact z4
              · rw [hL, g8 71 L (by simp) (by simp), g7 71 L (by simp), g6 71 L (by simp), hg5 71 L (by simp) (by simp), hg4 71 L (by simp)]; exact z5
              · rw [gg 63 _ (by simp) (by simp) (by omega) (by simp)]; exact w2
              · rw [← w3]
                exact MS_congr cur z2 _ _ (fun j hj1 hj2 => ⟨gg 63 _ (by simp) (by simp) (by omega) (by simp), gg 64 _ (by simp) (by simp) (by omega) (by simp), gg 65 _ (by simp) (by omega) (by omega) (by simp)⟩) z3
              · rw [g8 63 _ (by simp) (by simp), g7 63 _ (by simp), g6 63 _ (by simp), ← hh5, mOrd_63]; rfl
              · rw [g8 65 _ (by simp) (by simp), g7 65 _ (by simp), ← hh6, gi_si, if_pos ⟨rfl, rfl⟩]
              · rw [hL, g8 68 _ (by simp) (by simp), ← hh7, gi_si, if_neg (by simp), gi_si, if_pos ⟨rfl, rfl⟩]
              · rw [hL, g8 69 _ (by simp) (by simp), ← hh7, gi_si, if_pos ⟨rfl, rfl⟩]; rfl
              · rw [hL, ← hh8, gi_si, if_neg (by simp), gi_si, if_neg (by simp), gi_si, if_neg (by simp), gi_si, if_pos ⟨rfl, rfl⟩]
              · rw [hL, ← hh8, gi_si, if_neg (by simp), gi_si, if_neg (by simp), gi_si, if_pos ⟨rfl, rfl⟩]
            · have : fwant ((acc, 2, 0, cur) :: fs) = (if (2 : Nat) = 2 then 0 else 1) + fwant fs := rfl
              simp only [this, if_true]; omega
          · rw [hT3.2.2.1, show (3 : Int32) = nI 3 from rfl, nI_eq (by omega) (by omega)] at c
            rw [if_neg c]
            refine J_iconst (pq := 163) dX9_brace_162 rfl c_iconst_1 (J_iret dX9_brace_163 rfl rfl ?_)
            exact ⟨hF3, rfl, hT3.2.1, by simp, by simp⟩
        · rw [hT2.2.2.1, show (11 : Int32) = nI 11 from rfl, nI_eq (by omega) (by omega)] at c
          rw [if_neg c]
          refine J_iconst (pq := 149) dX9_brace_148 rfl c_iconst_1 (J_iret dX9_brace_149 rfl rfl ?_)
          exact ⟨hF2, rfl, hT2.2.1, by simp, by simp⟩
    · rw [t69, w5] at c; exact absurd c (by decide)
  · -- the else part ends
    subst w1
    simp only [if_neg (show ¬ (2 : Nat) = 1 by decide), if_neg (show ¬ (2 : Nat) = 0 by decide), if_true] at hob ⊢
    have hma := (MS_le a w3 _ _ w4).1
    refine pre m _ w8 ?_
    have hm1 : m < 100 := by omega
    have ho1 : o < 100 := by omega
    have hg : ∀ a b, ¬ (a = 38 ∧ 37 ≤ b ∧ b ≤ 40) → ¬ (a = 65 ∧ b = 400 + m) → gi (si h2 65 (400 + m) (nI o)) a b = gi h a b := fun a b x1 x2 => by rw [gi_si, if_neg x2, hg2 a b x1]
    have hf : ∀ b, gi (si h2 65 (400 + m) (nI o)) 38 b = gi h2 38 b := fun b => by rw [gi_si, if_neg (by simp)]
    generalize hh3 : si h2 65 (400 + m) (nI o) = h3 at *
    have hK3 : Kin h3 := by rw [← hh3]; exact hK2
    have hR3 : MR h3 := by rw [← hh3]; exact hR2
    have r48 : gi h3 38 48 = nI (cap (pP cur)) := by rw [hf]; exact q48
    have r49 : gi h3 38 49 = nI (cap (pW cur)) := by rw [hf]; exact q49
    have r72 : gi h3 72 (ix (nI L)) = nI (cap (pP a)) := by rw [hxL, hg 72 L (by simp) (by simp)]; exact w10
    have r73 : gi h3 73 (ix (nI L)) = nI (cap (pW a)) := by rw [hxL, hg 73 L (by simp) (by simp)]; exact w11
    have u70 : gi h3 70 L = nI (cap (pP acc)) := by rw [hg 70 L (by simp) (by simp)]; exact z4
    have u71 : gi h3 71 L = nI (cap (pW acc)) := by rw [hg 71 L (by simp) (by simp)]; exact z5
    have hqP := cap_lt (pP a)
    have hqW := cap_lt (pW a)
    have hcl := j_X9_close (x := x) (a := cap (max (pP a) (pP cur))) (b := cap (max (pW a) (pW cur))) hK3 hR3 (by rw [hf]; exact q47) (by omega) u70 u71 haP haW (cap_lt _) (cap_lt _)
    refine J_aload_n (pq := 28) dX9_brace_27 rfl rfl (J_getA (pq := 31) dX9_brace_28 rfl f_X9_109 (by decide +kernel) (hK2.at rfl) (hR2 _ _ rfl) (J_iload_n (pq := 32) dX9_brace_31 rfl rfl (J_iald (pq := 33) dX9_brace_32 rfl (hK2.at rfl) (by assumption) (J_if_ne (pq := 36) (tgt := 129) dX9_brace_33 rfl rfl (fun c => ?_) (fun c => ?_)))))
    · refine J_aload_n (pq := 130) dX9_brace_129 rfl rfl (J_getA (pq := 133) dX9_brace_130 rfl f_X9_109 (by decide +kernel) (hK2.at rfl) (hR2 _ _ rfl) (J_iload_n (pq := 134) dX9_brace_133 rfl rfl (J_iald (pq := 135) dX9_brace_134 rfl (hK2.at rfl) (by assumption) (J_iconst (pq := 136) dX9_brace_135 rfl c_iconst_1 (J_icmp_ne (pq := 139) (tgt := 237) dX9_brace_136 rfl rfl (fun c => ?_) (fun c => ?_))))))
      · have hb1 := hbk m hm1
        refine J_aload_n (pq := 238) dX9_brace_237 rfl rfl (J_getA (pq := 241) dX9_brace_238 rfl f_X9_97 (by decide +kernel) (hK2.at rfl) (hR2 _ _ rfl) (J_sipush (pq := 244) dX9_brace_241 rfl c_sipush_400 (J_iload_n (pq := 245) dX9_brace_244 rfl rfl (J_iadd (pq := 246) dX9_brace_245 rfl (J_aload_n (pq := 247) dX9_brace_246 rfl rfl (J_getI (pq := 250) dX9_brace_247 rfl f_X9_253 jsI (hK2.at rfl) (J_iast (pq := 251) dX9_brace_250 rfl (hK2.at rfl) (by assumption) (?_))))))))
        rw [hxk m hm1, q50, hh3]
        refine J_cut (σ := Unit) 278 (fun _ => [some (.ref 38), some (.int (nI L)), none, none]) (fun _ => [.int (nI (cap (max (pP a) (pP cur)))), .ref 38]) (fun _ => h3) (fun _ => True) (fun _ _ => ?_) (fun k278 => ?_)
        · refine J_cut (σ := Unit) 304 (fun _ => [some (.ref 38), none, none, none]) (fun _ => [.int (nI (cap (max (pW a) (pW cur)))), .int (nI (cap (max (pP a) (pP cur)))), .ref 38]) (fun _ => h3) (fun _ => True) (fun _ _ => ?_) (fun k304 => ?_)
          · refine J_virtF (pq := 307) dX9_brace_304 rfl (hcl) rfl tg_X9_close l_X9_286 vi_X9_close (hK3.at rfl) ⟨by decide, rfl⟩ (Nat.le_of_ble_eq_true rfl) (Nat.zero_le _) (Nat.zero_le _) (Nat.le_of_ble_eq_true rfl) (J_iconst (pq := 308) dX9_brace_307 rfl c_iconst_0 (J_iret dX9_brace_308 rfl rfl ?_))
            rw [← hL]
            refine ⟨?_, rfl, o, PI_clo hK3 hR3 ?_ ?_ hE0.2.1 ?_ ?_ ?_ ?_ (by omega) he40 (by simp only; omega) ?_ ?_⟩
            · refine (hF2.tr ?_).tr (RF.clo _ _ _ _)
              rw [← hh3]
              refine ⟨rfl, fun a b _ y _ => ?_⟩
              rw [gi_si, if_neg (fun q => y ⟨by omega, by omega⟩)]
            · rw [hf]; exact hn2
            · rw [← ht]; exact funext fun b => hg 40 b (by simp) (by simp)
            · exact TK_of hT2 (fun b _ _ => hf b)
            · rw [hf]; exact q50
            · rw [hf]; exact q51
            · refine MZ_put (MZ_congr fs (fun j hj => ⟨hg _ _ (by simp) (by simp), hg _ _ (by simp) (by simp), hg _ _ (by simp) (by omega)⟩) (fun u hu q h1 h2 => hg _ _ (by omega) (by omega)) z1) ⟨w3, z2, trivial⟩ ⟨m, o, ?_, ?_, ?_, ?_, ?_, ?_, rfl⟩
              · rw [hg 63 _ (by simp) (by simp)]; exact w2
              · rw [hg 65 _ (by simp) (by omega)]; exact w6
              · exact MS_congr a w3 _ _ (fun j hj1 hj2 => ⟨hg 63 _ (by simp) (by simp), hg 64 _ (by simp) (by simp), hg 65 _ (by simp) (by omega)⟩) w4
              · rw [hg 63 _ (by simp) (by simp)]; exact w5
              · rw [← hh3, gi_si, if_pos ⟨rfl, rfl⟩]
              · rw [← w7]
                exact MS_congr cur z2 _ _ (fun j hj1 hj2 => ⟨hg 63 _ (by simp) (by simp), hg 64 _ (by simp) (by simp), hg 65 _ (by simp) (by omega)⟩) z3
            · have zp := (MZ_le fs z1).1
              rw [pP_app _ acc zp, cap_add2]; rfl
            · have zp := (MZ_le fs z1).1
              rw [pW_app _ acc zp]
              show _ = cap (pW acc + (1 + max (pW a) (pW cur) + 0))
              unfold cap; omega
          have hcm := cap_max (pW cur) (pW a)
          refine J_aload_n (pq := 279) dX9_brace_278 rfl rfl (J_getI (pq := 282) dX9_brace_279 rfl f_X9_262 jsI (hK3.at rfl) (J_aload_n (pq := 283) dX9_brace_282 rfl rfl (J_getA (pq := 286) dX9_brace_283 rfl f_X9_121 (by decide +kernel) (hK3.at rfl) (hR3 _ _ rfl) (J_iload_n (pq := 287) dX9_brace_286 rfl rfl (J_iald (pq := 288) dX9_brace_287 rfl (hK3.at rfl) (by assumption) (J_icmp_le (pq := 291) (tgt := 298) dX9_brace_288 rfl rfl (fun c => ?_) (fun c => ?_)))))))
          · rw [r49, r73, nI_leI (by omega) (by omega)] at c
            rw [if_neg (by omega)] at hcm
            refine J_aload_n (pq := 299) dX9_brace_298 rfl rfl (J_getA (pq := 302) dX9_brace_299 rfl f_X9_121 (by decide +kernel) (hK3.at rfl) (hR3 _ _ rfl) (J_iload_n (pq := 303) dX9_brace_302 rfl rfl (J_iald (pq := 304) dX9_brace_303 rfl (hK3.at rfl) (by assumption) (?_))))
            rw [r73, hcm]
            exact J_weak (by simp [lsub]) rfl rfl (k304 () trivial)
          · rw [r49, r73, nI_leI (by omega) (by omega)] at c
            rw [if_pos (by omega)] at hcm
            refine J_aload_n (pq := 292) dX9_brace_291 rfl rfl (J_getI (pq := 295) dX9_brace_292 rfl f_X9_262 jsI (hK3.at rfl) (J_goto (tgt := 304) dX9_brace_295 rfl (?_)))
            rw [r49, hcm]
            exact J_weak (by simp [lsub]) rfl rfl (k304 () trivial)
        have hcm := cap_max (pP cur) (pP a)
        refine J_aload_n (pq := 252) dX9_brace_251 rfl rfl (J_aload_n (pq := 253) dX9_brace_252 rfl rfl (J_getI (pq := 256) dX9_brace_253 rfl f_X9_259 jsI (hK3.at rfl) (J_aload_n (pq := 257) dX9_brace_256 rfl rfl (J_getA (pq := 260) dX9_brace_257 rfl f_X9_118 (by decide +kernel) (hK3.at rfl) (hR3 _ _ rfl) (J_iload_n (pq := 261) dX9_brace_260 rfl rfl (J_iald (pq := 262) dX9_brace_261 rfl (hK3.at rfl) (by assumption) (J_icmp_le (pq := 265) (tgt := 272) dX9_brace_262 rfl rfl (fun c => ?_) (fun c => ?_))))))))
        · rw [r48, r72, nI_leI (by omega) (by omega)] at c
          rw [if_neg (by omega)] at hcm
          refine J_aload_n (pq := 273) dX9_brace_272 rfl rfl (J_getA (pq := 276) dX9_brace_273 rfl f_X9_118 (by decide +kernel) (hK3.at rfl) (hR3 _ _ rfl) (J_iload_n (pq := 277) dX9_brace_276 rfl rfl (J_iald (pq := 278) dX9_brace_277 rfl (hK3.at rfl) (by assumption) (?_))))
          rw [r72, hcm]
          exact J_weak (by simp [lsub]) rfl rfl (k278 () trivial)
        · rw [r48, r72, nI_leI (by omega) (by omega)] at c
          rw [if_pos (by omega)] at hcm
          refine J_aload_n (pq := 266) dX9_brace_265 rfl rfl (J_getI (pq := 269) dX9_brace_266 rfl f_X9_259 jsI (hK3.at rfl) (J_goto (tgt := 278) dX9_brace_269 rfl (?_)))
          rw [r48, hcm]
          exact J_weak (by simp [lsub]) rfl rfl (k278 () trivial)
      · rw [t69, w9] at c; exact absurd c (by decide)
    · rw [t69, w9] at c; exact absurd c (by decide)
end P5
