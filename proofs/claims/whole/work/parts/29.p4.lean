section P4
variable {x : JX} {h : JH}
theorem dcap_30 {t : Nat → Int32} {a k : Nat} : dcap t a k ≤ 30 ↔ dval t a k ≤ 30 := by
  rcases dcap_or t a k with q | q
  · rw [q]
  · omega
theorem dcap_50 {t : Nat → Int32} {a k : Nat} : (1 ≤ dcap t a k ∧ dcap t a k ≤ 50) ↔ (1 ≤ dval t a k ∧ dval t a k ≤ 50) := by
  rcases dcap_or t a k with q | q
  · rw [q]
  · omega
theorem dcap_v {t : Nat → Int32} {a k : Nat} (h : dval t a k ≤ 50) : dcap t a k = dval t a k := by
  rcases dcap_or t a k with q | q
  · exact q
  · omega
set_option maxHeartbeats 4000000 in
theorem j_X9_step {t : Nat → Int32} {n p e o : Nat} {fs : List Fr} {cur : Cond} (hn4 : n ≤ 200) (hby : tby t) (hP : PI h t n p fs cur e o) (hC0 : tkC t n p ≠ 0) (hC4 : tkC t n p ≠ 4) : JM x yX9_step cX9_step 3 (some .int) 4 0 0 [.ref 38] h (StP t n (pstep t n p fs cur e) h) := by
  obtain ⟨hK, hR, hn, ht, hp, hT, h47, h48, h49, h50, h51, hZ, hf5, he40, hob⟩ := hP
  have hE0 := tkE_b (t := t) hp
  have hlt := tkC_lt t n p
  generalize hC : tkC t n p = C at *
  generalize hp1 : tkE t n p = p1 at *
  have hE1 := tkE_b (t := t) (n := n) (p := p1) hE0.2.1
  have hlt1 := tkC_lt t n p1
  generalize hp2 : tkE t n p1 = p2 at *
  have hE2 := tkE_b (t := t) (n := n) (p := p2) hE1.2.1
  have hlt2 := tkC_lt t n p2
  have hst : pstep t n p fs cur e = if 6 ≤ C ∧ C ≤ 10 then
    (if e = 40 ∨ (8 < C ∧ fs.length = 5) then .inl (3, tkQ t n p)
    else if C = 8 then (if tkC t n p1 = 2 then .inr (p2, fs, papp cur (pL 2 0 pN), e + 1) else .inl (1, tkQ t n p1))
    else if C = 10 then (if tkC t n p1 = 3 then .inr (p2, (cur, 1, 0, pN) :: fs, pN, e + 1) else .inl (1, tkQ t n p1))
    else if tkC t n p1 = 1 then
      (if (C = 6 ∧ dval t (tkQ t n p1) (p2 - tkQ t n p1) ≤ 30) ∨ (¬ C = 6 ∧ 1 ≤ dval t (tkQ t n p1) (p2 - tkQ t n p1) ∧ dval t (tkQ t n p1) (p2 - tkQ t n p1) ≤ 50) then
        (if C = 9 then (if tkC t n p2 = 3 then .inr (tkE t n p2, (cur, 0, dval t (tkQ t n p1) (p2 - tkQ t n p1), pN) :: fs, pN, e + 1) else .inl (1, tkQ t n p2))
        else (if tkC t n p2 = 2 then .inr (tkE t n p2, fs, papp cur (pL (C - 6) (dval t (tkQ t n p1) (p2 - tkQ t n p1)) pN), e + 1) else .inl (1, tkQ t n p2)))
      else .inl (2, tkQ t n p1))
    else .inl (1, tkQ t n p1))
  else .inl (1, tkQ t n p) := by
    unfold pstep
    rw [hC, if_neg hC4, hp1, hp2]
  have hC39 : gi h 38 39 = nI C := by rw [hT.2.2.1, hC]
  have l6 : (6 : Int32) = nI 6 := rfl
  have l8 : (8 : Int32) = nI 8 := rfl
  have l10 : (10 : Int32) = nI 10 := rfl
  have l3 : (3 : Int32) = nI 3 := rfl
  have l1 : (1 : Int32) = nI 1 := rfl
  refine JM_of [some (.ref 38), none, none] (by decide) (Nat.le_of_ble_eq_true rfl) rfl ?_
  rw [hst]
  have hi : isin (gi h 38 39) 6 10 = decide (6 ≤ C ∧ C ≤ 10) := by
    rw [hC39, Bool.eq_iff_iff, isin_t, decide_eq_true_eq, nI_toInt (by omega)]
    simp; omega
  refine J_aload_n (pq := 1) dX9_step_0 rfl rfl (J_getI (pq := 4) dX9_step_1 rfl f_X9_236 jsI (hK.at rfl) (J_istore_m 1 (pq := 5) dX9_step_4 rfl rfl (Nat.le_of_ble_eq_true rfl) (Nat.le_of_ble_eq_true rfl) rfl (J_iload_n (pq := 6) dX9_step_5 rfl rfl (J_bipush (pq := 8) dX9_step_6 rfl c_bipush_6 (J_bipush (pq := 10) dX9_step_8 rfl c_bipush_10 (J_statF (pq := 13) dX9_step_10 rfl (j_X9_isIn) rfl tg_X9_isIn l_X9_137 st_X9_isIn (Nat.le_of_ble_eq_true rfl) (Nat.zero_le _) (Nat.zero_le _) (Nat.le_of_ble_eq_true rfl) (J_if_ne (pq := 16) (tgt := 18) dX9_step_13 rfl rfl (fun c => ?_) (fun c => ?_))))))))
  · rw [bi_0, Bool.not_eq_false, hi, decide_eq_true_eq] at c
    have c6 := c
    rw [if_pos c]
    refine J_cut (σ := Unit) 41 (fun _ => [some (.ref 38), none, none]) (fun _ => []) (fun _ => h) (fun _ => e = 40 ∨ (8 < C ∧ fs.length = 5)) (fun _ hc => ?_) (fun k41 => ?_)
    · rw [if_pos hc]
      refine J_iconst (pq := 42) dX9_step_41 rfl c_iconst_3 (J_iret dX9_step_42 rfl rfl ?_)
      exact ⟨RF.rf h, rfl, hT.2.1, by simp, by simp⟩
    refine J_cut (σ := Unit) 43 (fun _ => [some (.ref 38), some (.int (nI C)), none]) (fun _ => []) (fun _ => h) (fun _ => ¬ (e = 40 ∨ (8 < C ∧ fs.length = 5))) (fun _ hc => ?_) (fun k43 => ?_)
    · rw [if_neg hc]
      have he : e < 40 := by omega
      -- the step is counted, the next token taken
      generalize hh1 : si h 38 51 (nI (e + 1)) = h1
      have hK1 : Kin h1 := by rw [← hh1]; exact hK
      have hR1 : MR h1 := by rw [← hh1]; exact hR
      have hn1 : gi h1 38 2 = nI n := by rw [← hh1, gi_si, if_neg (by decide)]; exact hn
      have ht1 : gi h1 40 = t := by rw [← hh1]; exact ht
      have hat1 : gi h1 38 37 = nI (tkE t n p) := by rw [← hh1, gi_si, if_neg (by decide)]; exact hT.1
      refine J_aload_n (pq := 44) dX9_step_43 rfl rfl (J_dup (pq := 45) dX9_step_44 rfl rfl (J_getI (pq := 48) dX9_step_45 rfl f_X9_269 jsI (hK.at rfl) (J_iconst (pq := 49) dX9_step_48 rfl c_iconst_1 (J_iadd (pq := 50) dX9_step_49 rfl (J_putI (pq := 53) dX9_step_50 rfl f_X9_269 (Or.inl rfl) (hK.at rfl) (?_))))))
      rw [h51, nI_1, hh1]
      refine J_aload_n (pq := 54) dX9_step_53 rfl rfl (J_virtF (pq := 57) dX9_step_54 rfl (j_X9_nx hK1 hR1 hn1 hn4 ht1 hby hp hat1) rfl tg_X9_nextToken l_X9_272 vi_X9_nextToken (hK1.at rfl) ⟨by decide, rfl⟩ (Nat.le_of_ble_eq_true rfl) (Nat.zero_le _) (Nat.zero_le _) (Nat.le_of_ble_eq_true rfl) (?_))
      rw [hp1]
      generalize hh2 : mTok h1 t n p1 = h2
      have hT2 : TK h2 t n p1 := by rw [← hh2]; exact mTok_T
      have e22 : h2.2 = h.2 := by rw [← hh2, mTok_2, ← hh1]; rfl
      have hg2 : ∀ a b, ¬ (a = 38 ∧ 37 ≤ b ∧ b ≤ 40) → ¬ (a = 38 ∧ b = 51) → gi h2 a b = gi h a b := by
        intro a b x1 x2
        rw [← hh2, mTok_o x1, ← hh1, gi_si, if_neg x2]
      have hK2 : Kin h2 := hK.of2 e22
      have hR2 : MR h2 := hR.of2 e22
      have hn2 : gi h2 38 2 = nI n := by rw [hg2 38 2 (by decide) (by decide)]; exact hn
      have ht2 : gi h2 40 = t := by rw [← ht]; exact funext fun b => hg2 40 b (by simp) (by simp)
      have q47 : gi h2 38 47 = nI fs.length := by rw [hg2 38 47 (by decide) (by decide)]; exact h47
      have q48 : gi h2 38 48 = nI (cap (pP cur)) := by rw [hg2 38 48 (by decide) (by decide)]; exact h48
      have q49 : gi h2 38 49 = nI (cap (pW cur)) := by rw [hg2 38 49 (by decide) (by decide)]; exact h49
      have q50 : gi h2 38 50 = nI o := by rw [hg2 38 50 (by decide) (by decide)]; exact h50
      have q51 : gi h2 38 51 = nI (e + 1) := by rw [← hh2, mTok_o (by decide), ← hh1, gi_si, if_pos ⟨rfl, rfl⟩]
      have hZ2 : MZ (gi h2) fs cur o := MZ_same hZ (fun a b hab => hg2 a b (by omega) (by omega))
      have hF2 : RF h h2 := by rw [← hh2, ← hh1]; exact (RF.f38 h 51 _ (by omega)).tr (RF.tok _ _ _ _)
      have hPG := (MZ_le fs hZ).1
      have hcP := cap_lt (pP cur)
      have hcW := cap_lt (pW cur)
      have ho99 : o < 100 := by omega
      -- leaf: an order, the sums, the semicolon
      have leaf : ∀ (k m : Nat) (g : JH) (pp : Nat), k ≤ 2 → m ≤ 50 → RF h2 g → Kin g → MR g → gi g 38 2 = nI n → gi g 40 = t → pp ≤ n → TK g t n pp → gi g 38 47 = nI fs.length → gi g 38 50 = nI (o + 1) → gi g 38 51 = nI (e + 1) → MZ (gi g) fs (papp cur (pL k m pN)) (o + 1) → gi g 38 48 = nI (cap (pP cur + (if k = 1 then m else 0))) → gi g 38 49 = nI (cap (pW cur + 1)) → ∀ ls, J x yX9_step cX9_step 3 (some .int) 4 0 0 (StP t n (if tkC t n pp = 2 then .inr (tkE t n pp, fs, papp cur (pL k m pN), e + 1) else .inl (1, tkQ t n pp)) h) 270 ([some (.ref 38)] ++ ls) [] g := by
        intro k m g pp hk hm f0 f1 f2 f3 f4 f5 f6 f7 f8 f9 f10 f11 f12 ls
        have hE := tkE_b (t := t) (n := n) (p := pp) f5
        refine J_aload_n (pq := 271) dX9_step_270 rfl rfl (J_virtF (pq := 274) dX9_step_271 rfl (j_X9_semicolon f1 f2 f3 hn4 f4 hby f5 f6) rfl tg_X9_semicolon l_X9_278 vi_X9_semicolon (hK.at rfl) ⟨by decide, rfl⟩ (Nat.le_of_ble_eq_true rfl) (Nat.zero_le _) (Nat.zero_le _) (Nat.le_of_ble_eq_true rfl) (J_iret dX9_step_274 rfl rfl ?_))
        by_cases hc2 : tkC t n pp = 2
        · rw [if_pos hc2, if_pos hc2, if_pos hc2]
          refine ⟨(hF2.tr f0).tr (RF.tok _ _ _ _), rfl, o + 1, f1.of2 mTok_2, f2.of2 mTok_2, ?_, ?_, hE.2.1, mTok_T, ?_, ?_, ?_, ?_, ?_, ?_, hf5, by omega, by omega⟩
          · rw [mTok_o (by decide)]; exact f3
          · rw [← f4]; exact funext fun b => mTok_o (by simp)
          · rw [mTok_o (by decide)]; exact f7
          · rw [mTok_o (by decide), f11, pP_app _ cur hPG]; rfl
          · rw [mTok_o (by decide), f12, pW_app _ cur hPG]; rfl
          · rw [mTok_o (by decide)]; exact f8
          · rw [mTok_o (by decide)]; exact f9
          · exact MZ_same f10 (fun a b hab => mTok_o (by omega))
        · rw [if_neg hc2, if_neg hc2, if_neg hc2]
          exact ⟨hF2.tr f0, rfl, f6.2.1, by simp, by simp⟩
      have leaf87 : ∀ (k m : Nat) (g : JH) (pp : Nat), k ≤ 2 → m ≤ 50 → RF h2 g → Kin g → MR g → gi g 38 2 = nI n → gi g 40 = t → pp ≤ n → TK g t n pp → gi g 38 47 = nI fs.length → gi g 38 50 = nI (o + 1) → gi g 38 51 = nI (e + 1) → MZ (gi g) fs (papp cur (pL k m pN)) (o + 1) → gi g 38 48 = nI (cap (pP cur + (if k = 1 then m else 0))) → gi g 38 49 = nI (cap (pW cur + 1)) → ∀ ls, J x yX9_step cX9_step 3 (some .int) 4 0 0 (StP t n (if tkC t n pp = 2 then .inr (tkE t n pp, fs, papp cur (pL k m pN), e + 1) else .inl (1, tkQ t n pp)) h) 87 ([some (.ref 38)] ++ ls) [] g := by
        intro k m g pp hk hm f0 f1 f2 f3 f4 f5 f6 f7 f8 f9 f10 f11 f12 ls
        have hE := tkE_b (t := t) (n := n) (p := pp) f5
        refine J_aload_n (pq := 88) dX9_step_87 rfl rfl (J_virtF (pq := 91) dX9_step_88 rfl (j_X9_semicolon f1 f2 f3 hn4 f4 hby f5 f6) rfl tg_X9_semicolon l_X9_278 vi_X9_semicolon (hK.at rfl) ⟨by decide, rfl⟩ (Nat.le_of_ble_eq_true rfl) (Nat.zero_le _) (Nat.zero_le _) (Nat.le_of_ble_eq_true rfl) (J_iret dX9_step_91 rfl rfl ?_))
        by_cases hc2 : tkC t n pp = 2
        · rw [if_pos hc2, if_pos hc2, if_pos hc2]
          refine ⟨(hF2.tr f0).tr (RF.tok _ _ _ _), rfl, o + 1, f1.of2 mTok_2, f2.of2 mTok_2, ?_, ?_, hE.2.1, mTok_T, ?_, ?_, ?_, ?_, ?_, ?_, hf5, by omega, by omega⟩
          · rw [mTok_o (by decide)]; exact f3
          · rw [← f4]; exact funext fun b => mTok_o (by simp)
          · rw [mTok_o (by decide)]; exact f7
          · rw [mTok_o (by decide), f11, pP_app _ cur hPG]; rfl
          · rw [mTok_o (by decide), f12, pW_app _ cur hPG]; rfl
          · rw [mTok_o (by decide)]; exact f8
          · rw [mTok_o (by decide)]; exact f9
          · exact MZ_same f10 (fun a b hab => mTok_o (by omega))
        · rw [if_neg hc2, if_neg hc2, if_neg hc2]
          exact ⟨hF2.tr f0, rfl, f6.2.1, by simp, by simp⟩
      have l1000001 : (1000001 : Int32) = nI 1000001 := rfl
      -- a step that opens: an order, the frame, the token behind the brace
      have opn : ∀ (g : JH) (pp part num : Nat) (w v : Int32), RF h2 g → Kin g → MR g → (∀ a b, ¬ (a = 38 ∧ 37 ≤ b ∧ b ≤ 40) → gi g a b = gi h2 a b) → pp ≤ n → TK g t n pp → tkC t n pp = 3 → ((part = 0 ∧ w = 3 ∧ v = nI num ∧ 1 ≤ num ∧ num ≤ 50) ∨ (part = 1 ∧ w = 5 ∧ num = 0)) → fs.length < 5 → StP t n (.inr (tkE t n pp, (cur, part, num, pN) :: fs, pN, e + 1)) h (some (.int 0)) (mTok (mBeg (mOrd g o w v 0) fs.length o (if w = 3 then 0 else 1) (gi g 38 48) (gi g 38 49)) t n (tkE t n pp)) := by
        intro g pp part num w v f0 f1 f2 f3 f4 f5 f6 f7 f8
        have hE := tkE_b (t := t) (n := n) (p := pp) f4
        generalize hpt : (if w = 3 then (0 : Int32) else 1) = pt
        have gB : ∀ a b, ¬ (a = 38 ∧ 37 ≤ b ∧ b ≤ 51) → ¬ ((a = 63 ∨ a = 64 ∨ a = 65) ∧ b = 400 + o) → ¬ (68 ≤ a ∧ a ≤ 71 ∧ b = fs.length) → gi (mTok (mBeg (mOrd g o w v 0) fs.length o pt (gi g 38 48) (gi g 38 49)) t n (tkE t n pp)) a b = gi h2 a b := by
          intro a b x1 x2 x3
          rw [mTok_o (fun q => x1 ⟨q.1, by omega⟩)]
          unfold mBeg
          rw [gi_si, if_neg (fun q => x1 ⟨q.1, by omega⟩), gi_si, if_neg (fun q => x1 ⟨q.1, by omega⟩), gi_si, if_neg (fun q => x1 ⟨q.1, by omega⟩), gi_si, if_neg (fun q => x3 ⟨by omega, by omega, q.2⟩), gi_si, if_neg (fun q => x3 ⟨by omega, by omega, q.2⟩), gi_si, if_neg (fun q => x3 ⟨by omega, by omega, q.2⟩), gi_si, if_neg (fun q => x3 ⟨by omega, by omega, q.2⟩), mOrd_o x2 (fun q => x1 ⟨q.1, by omega⟩)]
          exact f3 a b (fun q => x1 ⟨q.1, by omega⟩)
        have g48 : gi g 38 48 = nI (cap (pP cur)) := by rw [f3 38 48 (by decide)]; exact q48
        have g49 : gi g 38 49 = nI (cap (pW cur)) := by rw [f3 38 49 (by decide)]; exact q49
        have g51 : gi g 38 51 = nI (e + 1) := by rw [f3 38 51 (by decide)]; exact q51
        have gt40 : ∀ b, gi (mTok (mBeg (mOrd g o w v 0) fs.length o pt (gi g 38 48) (gi g 38 49)) t n (tkE t n pp)) 40 b = t b := fun b => by rw [gB 40 b (by simp) (by simp) (by simp), ht2]
        refine ⟨(hF2.tr f0).tr (((RF.ord _ _ _ _ _).tr (RF.beg _ _ _ _ _ _)).tr (RF.tok _ _ _ _)), rfl, o + 1, f1.of2 mTok_2, f2.of2 mTok_2, ?_, ?_, hE.2.1, mTok_T, ?_, ?_, ?_, ?_, ?_, ?_, by simp; omega, by omega, ?_⟩
        · rw [gB 38 2 (by decide) (by simp) (by simp)]; exact hn2
        · exact funext gt40
        · rw [mTok_o (by decide)]; unfold mBeg; rw [gi_si, if_pos ⟨rfl, rfl⟩]; simp
        · rw [mTok_o (by decide)]; unfold mBeg; rw [gi_si, if_neg (by decide), gi_si, if_neg (by decide), gi_si, if_pos ⟨rfl, rfl⟩]; rfl
        · rw [mTok_o (by decide)]; unfold mBeg; rw [gi_si, if_neg (by decide), gi_si, if_pos ⟨rfl, rfl⟩]; rfl
        · rw [mTok_o (by decide)]; unfold mBeg; rw [gi_si, if_neg (by decide), gi_si, if_neg (by decide), gi_si, if_neg (by decide), gi_si, if_neg (by simp), gi_si, if_neg (by simp), gi_si, if_neg (by simp), gi_si, if_neg (by simp), mOrd_50]
        · rw [mTok_o (by decide)]; unfold mBeg; rw [gi_si, if_neg (by decide), gi_si, if_neg (by decide), gi_si, if_neg (by decide), gi_si, if_neg (by simp), gi_si, if_neg (by simp), gi_si, if_neg (by simp), gi_si, if_neg (by simp), mOrd_o (by simp) (by decide)]; exact g51
        · have s63 : gi (mTok (mBeg (mOrd g o w v 0) fs.length o pt (gi g 38 48) (gi g 38 49)) t n (tkE t n pp)) 63 (400 + o) = w := by
            rw [mTok_o (by simp)]; unfold mBeg; rw [gi_si, if_neg (by simp), gi_si, if_neg (by simp), gi_si, if_neg (by simp), gi_si, if_neg (by simp), gi_si, if_neg (by simp), gi_si, if_neg (by simp), gi_si, if_neg (by simp), mOrd_63]
          have s64 : gi (mTok (mBeg (mOrd g o w v 0) fs.length o pt (gi g 38 48) (gi g 38 49)) t n (tkE t n pp)) 64 (400 + o) = v := by
            rw [mTok_o (by simp)]; unfold mBeg; rw [gi_si, if_neg (by simp), gi_si, if_neg (by simp), gi_si, if_neg (by simp), gi_si, if_neg (by simp), gi_si, if_neg (by simp), gi_si, if_neg (by simp), gi_si, if_neg (by simp), mOrd_64]
          have s68 : gi (mTok (mBeg (mOrd g o w v 0) fs.length o pt (gi g 38 48) (gi g 38 49)) t n (tkE t n pp)) 68 fs.length = nI o := by
            rw [mTok_o (by simp)]; unfold mBeg; rw [gi_si, if_neg (by simp), gi_si, if_neg (by simp), gi_si, if_neg (by simp), gi_si, if_neg (by simp), gi_si, if_neg (by simp), gi_si, if_neg (by simp), gi_si, if_pos ⟨rfl, rfl⟩]
          have s69 : gi (mTok (mBeg (mOrd g o w v 0) fs.length o pt (gi g 38 48) (gi g 38 49)) t n (tkE t n pp)) 69 fs.length = pt := by
            rw [mTok_o (by simp)]; unfold mBeg; rw [gi_si, if_neg (by simp), gi_si, if_neg (by simp), gi_si, if_neg (by simp), gi_si, if_neg (by simp), gi_si, if_neg (by simp), gi_si, if_pos ⟨rfl, rfl⟩]
          have s70 : gi (mTok (mBeg (mOrd g o w v 0) fs.length o pt (gi g 38 48) (gi g 38 49)) t n (tkE t n pp)) 70 fs.length = nI (cap (pP cur)) := by
            rw [mTok_o (by simp)]; unfold mBeg; rw [gi_si, if_neg (by simp), gi_si, if_neg (by simp), gi_si, if_neg (by simp), gi_si, if_neg (by simp), gi_si, if_pos ⟨rfl, rfl⟩]; exact g48
          have s71 : gi (mTok (mBeg (mOrd g o w v 0) fs.length o pt (gi g 38 48) (gi g 38 49)) t n (tkE t n pp)) 71 fs.length = nI (cap (pW cur)) := by
            rw [mTok_o (by simp)]; unfold mBeg; rw [gi_si, if_neg (by simp), gi_si, if_neg (by simp), gi_si, if_neg (by simp), gi_si, if_pos ⟨rfl, rfl⟩]; exact g49
          refine ⟨o, o + 1, MZ_congr fs (fun k hk => ⟨gB 63 _ (by simp) (by omega) (by simp), gB 64 _ (by simp) (by omega) (by simp), gB 65 _ (by simp) (by omega) (by simp)⟩) (fun u hu q x1 x2 => gB q u (by omega) (by omega) (by omega)) hZ2, trivial, rfl, s70, s71, ?_⟩
          rcases f7 with ⟨rfl, rfl, rfl, y1, y2⟩ | ⟨rfl, rfl, rfl⟩
          · exact Or.inl ⟨rfl, s63, s64, rfl, s68, s69.trans (by rw [← hpt]; rfl), y1, y2⟩
          · exact Or.inr (Or.inl ⟨rfl, s63, rfl, s68, s69.trans (by rw [← hpt]; rfl)⟩)
        · rcases f7 with ⟨rfl, -⟩ | ⟨rfl, -⟩ <;> (simp [fwant]; omega)
      sorry
    refine J_aload_n (pq := 19) dX9_step_18 rfl rfl (J_getI (pq := 22) dX9_step_19 rfl f_X9_269 jsI (hK.at rfl) (J_bipush (pq := 24) dX9_step_22 rfl c_bipush_40 (J_icmp_eq (pq := 27) (tgt := 41) dX9_step_24 rfl rfl (fun c => ?_) (fun c => ?_))))
    · rw [h51, show (40 : Int32) = nI 40 from rfl, nI_eq (by omega) (by omega)] at c
      exact J_weak (by simp [lsub]) rfl rfl (k41 () (Or.inl c))
    · rw [h51, show (40 : Int32) = nI 40 from rfl, nI_eq (by omega) (by omega)] at c
      have ce := c
      refine J_iload_n (pq := 28) dX9_step_27 rfl rfl (J_bipush (pq := 30) dX9_step_28 rfl c_bipush_8 (J_icmp_le (pq := 33) (tgt := 43) dX9_step_30 rfl rfl (fun c => ?_) (fun c => ?_)))
      · rw [hC39, l8, nI_leI (by omega) (by omega)] at c
        rw [hC39]
        exact J_weak (by simp [lsub]) rfl rfl (k43 () (by omega))
      · rw [hC39, l8, nI_leI (by omega) (by omega)] at c
        have c8 := c
        refine J_aload_n (pq := 34) dX9_step_33 rfl rfl (J_getI (pq := 37) dX9_step_34 rfl f_X9_256 jsI (hK.at rfl) (J_iconst (pq := 38) dX9_step_37 rfl c_iconst_5 (J_icmp_ne (pq := 41) (tgt := 43) dX9_step_38 rfl rfl (fun c => ?_) (fun c => ?_))))
        · rw [h47, show (5 : Int32) = nI 5 from rfl, nI_eq (by omega) (by omega)] at c
          rw [hC39]
          exact J_weak (by simp [lsub]) rfl rfl (k43 () (by omega))
        · rw [h47, show (5 : Int32) = nI 5 from rfl, nI_eq (by omega) (by omega)] at c
          exact J_weak (by simp [lsub]) rfl rfl (k41 () (Or.inr ⟨by omega, c⟩))
  · rw [bi_0, hi, decide_eq_false_iff_not] at c
    rw [if_neg c]
    refine J_iconst (pq := 17) dX9_step_16 rfl c_iconst_1 (J_iret dX9_step_17 rfl rfl ?_)
    exact ⟨RF.rf h, rfl, hT.2.1, by simp, by simp⟩
end P4
