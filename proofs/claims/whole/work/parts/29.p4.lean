section P4
variable {x : JX} {h : JH}
theorem dcap_30 {t : Nat → Int32} {a k : Nat} : dcap t a k ≤ 30 ↔ dval t a k ≤ 30 := by
  rcases dcap_or t a k with q | q
  · rw [q]
  · omega
theorem dcap_50 {t : Nat → Int32} {a k : Nat} : (1 ≤ dcap t a k ∧ dcap t a k ≤ 50) ↔ (1 ≤ dval t a k ∧ dval t a k ≤ 50) := by
  rcases dcap_or t a k with q | q
  · rw [q]
  · omega
theorem dcap_v {t : Nat → Int32} {a k : Nat} (h : dval t a k ≤ 50) : dcap t a k = dval t a k := by
  rcases dcap_or t a k with q | q
  · exact q
  · omega
set_option maxHeartbeats 4000000 in
theorem j_X9_step {t : Nat → Int32} {n p e o : Nat} {fs : List Fr} {cur : Cond} (hn4 : n ≤ 200) (hby : tby t) (hP : PI h t n p fs cur e o) (hC0 : tkC t n p ≠ 0) (hC4 : tkC t n p ≠ 4) : JM x yX9_step cX9_step 3 (some .int) 4 0 0 [.ref 38] h (StP t n (pstep t n p fs cur e) h) := by
  obtain ⟨hK, hR, hn, ht, hp, hT, h47, h48, h49, h50, h51, hZ, hf5, he40, hob⟩ := hP
  have hE0 := tkE_b (t := t) hp
  have hlt := tkC_lt t n p
  generalize hC : tkC t n p = C at *
  generalize hp1 : tkE t n p = p1 at *
  have hE1 := tkE_b (t := t) (n := n) (p := p1) hE0.2.1
  have hlt1 := tkC_lt t n p1
  generalize hp2 : tkE t n p1 = p2 at *
  have hE2 := tkE_b (t := t) (n := n) (p := p2) hE1.2.1
  have hlt2 := tkC_lt t n p2
  have hst : pstep t n p fs cur e = if 6 ≤ C ∧ C ≤ 10 then
    (if e = 40 ∨ (8 < C ∧ fs.length = 5) then .inl (3, tkQ t n p)
    else if C = 8 then (if tkC t n p1 = 2 then .inr (p2, fs, papp cur (pL 2 0 pN), e + 1) else .inl (1, tkQ t n p1))
    else if C = 10 then (if tkC t n p1 = 3 then .inr (p2, (cur, 1, 0, pN) :: fs, pN, e + 1) else .inl (1, tkQ t n p1))
    else if tkC t n p1 = 1 then
      (if (C = 6 ∧ dval t (tkQ t n p1) (p2 - tkQ t n p1) ≤ 30) ∨ (¬ C = 6 ∧ 1 ≤ dval t (tkQ t n p1) (p2 - tkQ t n p1) ∧ dval t (tkQ t n p1) (p2 - tkQ t n p1) ≤ 50) then
        (if C = 9 then (if tkC t n p2 = 3 then .inr (tkE t n p2, (cur, 0, dval t (tkQ t n p1) (p2 - tkQ t n p1), pN) :: fs, pN, e + 1) else .inl (1, tkQ t n p2))
        else (if tkC t n p2 = 2 then .inr (tkE t n p2, fs, papp cur (pL (C - 6) (dval t (tkQ t n p1) (p2 - tkQ t n p1)) pN), e + 1) else .inl (1, tkQ t n p2)))
      else .inl (2, tkQ t n p1))
    else .inl (1, tkQ t n p1))
  else .inl (1, tkQ t n p) := by
    unfold pstep
    rw [hC, if_neg hC4, hp1, hp2]
  have hC39 : gi h 38 39 = nI C := by rw [hT.2.2.1, hC]
  have l6 : (6 : Int32) = nI 6 := rfl
  have l8 : (8 : Int32) = nI 8 := rfl
  have l10 : (10 : Int32) = nI 10 := rfl
  have l3 : (3 : Int32) = nI 3 := rfl
  have l1 : (1 : Int32) = nI 1 := rfl
  refine JM_of [some (.ref 38), none, none] (by decide) (Nat.le_of_ble_eq_true rfl) rfl ?_
  rw [hst]
  have hi : isin (gi h 38 39) 6 10 = decide (6 ≤ C ∧ C ≤ 10) := by
    rw [hC39, Bool.eq_iff_iff, isin_t, decide_eq_true_eq, nI_toInt (by omega)]
    simp; omega
  refine J_aload_n (pq := 1) dX9_step_0 rfl rfl (J_getI (pq := 4) dX9_step_1 rfl f_X9_236 jsI (hK.at rfl) (J_istore_m 1 (pq := 5) dX9_step_4 rfl rfl (Nat.le_of_ble_eq_true rfl) (Nat.le_of_ble_eq_true rfl) rfl (J_iload_n (pq := 6) dX9_step_5 rfl rfl (J_bipush (pq := 8) dX9_step_6 rfl c_bipush_6 (J_bipush (pq := 10) dX9_step_8 rfl c_bipush_10 (J_statF (pq := 13) dX9_step_10 rfl (j_X9_isIn) rfl tg_X9_isIn l_X9_137 st_X9_isIn (Nat.le_of_ble_eq_true rfl) (Nat.zero_le _) (Nat.zero_le _) (Nat.le_of_ble_eq_true rfl) (J_if_ne (pq := 16) (tgt := 18) dX9_step_13 rfl rfl (fun c => ?_) (fun c => ?_))))))))
  · rw [bi_0, Bool.not_eq_false, hi, decide_eq_true_eq] at c
    have c6 := c
    rw [if_pos c]
    refine J_cut (σ := Unit) 41 (fun _ => [some (.ref 38), none, none]) (fun _ => []) (fun _ => h) (fun _ => e = 40 ∨ (8 < C ∧ fs.length = 5)) (fun _ hc => ?_) (fun k41 => ?_)
    · rw [if_pos hc]
      refine J_iconst (pq := 42) dX9_step_41 rfl c_iconst_3 (J_iret dX9_step_42 rfl rfl ?_)
      exact ⟨RF.rf h, rfl, hT.2.1, by simp, by simp⟩
    refine J_cut (σ := Unit) 43 (fun _ => [some (.ref 38), some (.int (nI C)), none]) (fun _ => []) (fun _ => h) (fun _ => ¬ (e = 40 ∨ (8 < C ∧ fs.length = 5))) (fun _ hc => ?_) (fun k43 => ?_)
    · rw [if_neg hc]
      have he : e < 40 := by omega
      -- the step is counted, the next token taken
      generalize hh1 : si h 38 51 (nI (e + 1)) = h1
      have hK1 : Kin h1 := by rw [← hh1]; exact hK
      have hR1 : MR h1 := by rw [← hh1]; exact hR
      have hn1 : gi h1 38 2 = nI n := by rw [← hh1, gi_si, if_neg (by decide)]; exact hn
      have ht1 : gi h1 40 = t := by rw [← hh1]; exact ht
      have hat1 : gi h1 38 37 = nI (tkE t n p) := by rw [← hh1, gi_si, if_neg (by decide)]; exact hT.1
      refine J_aload_n (pq := 44) dX9_step_43 rfl rfl (J_dup (pq := 45) dX9_step_44 rfl rfl (J_getI (pq := 48) dX9_step_45 rfl f_X9_269 jsI (hK.at rfl) (J_iconst (pq := 49) dX9_step_48 rfl c_iconst_1 (J_iadd (pq := 50) dX9_step_49 rfl (J_putI (pq := 53) dX9_step_50 rfl f_X9_269 (Or.inl rfl) (hK.at rfl) (?_))))))
      rw [h51, nI_1, hh1]
      refine J_aload_n (pq := 54) dX9_step_53 rfl rfl (J_virtF (pq := 57) dX9_step_54 rfl (j_X9_nx hK1 hR1 hn1 hn4 ht1 hby hp hat1) rfl tg_X9_nextToken l_X9_272 vi_X9_nextToken (hK1.at rfl) ⟨by decide, rfl⟩ (Nat.le_of_ble_eq_true rfl) (Nat.zero_le _) (Nat.zero_le _) (Nat.le_of_ble_eq_true rfl) (?_))
      rw [hp1]
      generalize hh2 : mTok h1 t n p1 = h2
      have hT2 : TK h2 t n p1 := by rw [← hh2]; exact mTok_T
      have e22 : h2.2 = h.2 := by rw [← hh2, mTok_2, ← hh1]; rfl
      have hg2 : ∀ a b, ¬ (a = 38 ∧ 37 ≤ b ∧ b ≤ 40) → ¬ (a = 38 ∧ b = 51) → gi h2 a b = gi h a b := by
        intro a b x1 x2
        rw [← hh2, mTok_o x1, ← hh1, gi_si, if_neg x2]
      have hK2 : Kin h2 := hK.of2 e22
      have hR2 : MR h2 := hR.of2 e22
      have hn2 : gi h2 38 2 = nI n := by rw [hg2 38 2 (by decide) (by decide)]; exact hn
      have ht2 : gi h2 40 = t := by rw [← ht]; exact funext fun b => hg2 40 b (by simp) (by simp)
      have q47 : gi h2 38 47 = nI fs.length := by rw [hg2 38 47 (by decide) (by decide)]; exact h47
      have q48 : gi h2 38 48 = nI (cap (pP cur)) := by rw [hg2 38 48 (by decide) (by decide)]; exact h48
      have q49 : gi h2 38 49 = nI (cap (pW cur)) := by rw [hg2 38 49 (by decide) (by decide)]; exact h49
      have q50 : gi h2 38 50 = nI o := by rw [hg2 38 50 (by decide) (by decide)]; exact h50
      have q51 : gi h2 38 51 = nI (e + 1) := by rw [← hh2, mTok_o (by decide), ← hh1, gi_si, if_pos ⟨rfl, rfl⟩]
      have hZ2 : MZ (gi h2) fs cur o := MZ_same hZ (fun a b hab => hg2 a b (by omega) (by omega))
      have hF2 : RF h h2 := by rw [← hh2, ← hh1]; exact (RF.f38 h 51 _ (by omega)).tr (RF.tok _ _ _ _)
      have hPG := (MZ_le fs hZ).1
      have hcP := cap_lt (pP cur)
      have hcW := cap_lt (pW cur)
      have ho99 : o < 100 := by omega
      -- leaf: an order, the sums, the semicolon
      have leaf : ∀ (k m : Nat) (g : JH) (pp : Nat), k ≤ 2 → m ≤ 50 → RF h2 g → Kin g → MR g → gi g 38 2 = nI n → gi g 40 = t → pp ≤ n → TK g t n pp → gi g 38 47 = nI fs.length → gi g 38 50 = nI (o + 1) → gi g 38 51 = nI (e + 1) → MZ (gi g) fs (papp cur (pL k m pN)) (o + 1) → gi g 38 48 = nI (cap (pP cur + (if k = 1 then m else 0))) → gi g 38 49 = nI (cap (pW cur + 1)) → ∀ ls, J x yX9_step cX9_step 3 (some .int) 4 0 0 (StP t n (if tkC t n pp = 2 then .inr (tkE t n pp, fs, papp cur (pL k m pN), e + 1) else .inl (1, tkQ t n pp)) h) 270 ([some (.ref 38)] ++ ls) [] g := by
        intro k m g pp hk hm f0 f1 f2 f3 f4 f5 f6 f7 f8 f9 f10 f11 f12 ls
        have hE := tkE_b (t := t) (n := n) (p := pp) f5
        refine J_aload_n (pq := 271) dX9_step_270 rfl rfl (J_virtF (pq := 274) dX9_step_271 rfl (j_X9_semicolon f1 f2 f3 hn4 f4 hby f5 f6) rfl tg_X9_semicolon l_X9_278 vi_X9_semicolon (f1.at rfl) ⟨by decide, rfl⟩ (Nat.le_of_ble_eq_true rfl) (Nat.zero_le _) (Nat.zero_le _) (Nat.le_of_ble_eq_true rfl) (J_iret dX9_step_274 rfl rfl ?_))
        by_cases hc2 : tkC t n pp = 2
        · rw [if_pos hc2, if_pos hc2, if_pos hc2]
          refine ⟨(hF2.tr f0).tr (RF.tok _ _ _ _), rfl, o + 1, f1.of2 mTok_2, f2.of2 mTok_2, ?_, ?_, hE.2.1, mTok_T, ?_, ?_, ?_, ?_, ?_, ?_, hf5, by simp only; omega, by simp only; omega⟩
          · rw [mTok_o (by decide)]; exact f3
          · rw [← f4]; exact funext fun b => mTok_o (by simp)
          · rw [mTok_o (by decide)]; exact f7
          · rw [mTok_o (by decide), f11, pP_app _ cur hPG]; rfl
          · rw [mTok_o (by decide), f12, pW_app _ cur hPG]; rfl
          · rw [mTok_o (by decide)]; exact f8
          · rw [mTok_o (by decide)]; exact f9
          · exact MZ_same f10 (fun a b hab => mTok_o (by omega))
        · rw [if_neg hc2, if_neg hc2, if_neg hc2]
          exact ⟨hF2.tr f0, rfl, f6.2.1, by simp, by simp⟩
      have leaf87 : ∀ (k m : Nat) (g : JH) (pp : Nat), k ≤ 2 → m ≤ 50 → RF h2 g → Kin g → MR g → gi g 38 2 = nI n → gi g 40 = t → pp ≤ n → TK g t n pp → gi g 38 47 = nI fs.length → gi g 38 50 = nI (o + 1) → gi g 38 51 = nI (e + 1) → MZ (gi g) fs (papp cur (pL k m pN)) (o + 1) → gi g 38 48 = nI (cap (pP cur + (if k = 1 then m else 0))) → gi g 38 49 = nI (cap (pW cur + 1)) → ∀ ls, J x yX9_step cX9_step 3 (some .int) 4 0 0 (StP t n (if tkC t n pp = 2 then .inr (tkE t n pp, fs, papp cur (pL k m pN), e + 1) else .inl (1, tkQ t n pp)) h) 87 ([some (.ref 38)] ++ ls) [] g := by
        intro k m g pp hk hm f0 f1 f2 f3 f4 f5 f6 f7 f8 f9 f10 f11 f12 ls
        have hE := tkE_b (t := t) (n := n) (p := pp) f5
        refine J_aload_n (pq := 88) dX9_step_87 rfl rfl (J_virtF (pq := 91) dX9_step_88 rfl (j_X9_semicolon f1 f2 f3 hn4 f4 hby f5 f6) rfl tg_X9_semicolon l_X9_278 vi_X9_semicolon (f1.at rfl) ⟨by decide, rfl⟩ (Nat.le_of_ble_eq_true rfl) (Nat.zero_le _) (Nat.zero_le _) (Nat.le_of_ble_eq_true rfl) (J_iret dX9_step_91 rfl rfl ?_))
        by_cases hc2 : tkC t n pp = 2
        · rw [if_pos hc2, if_pos hc2, if_pos hc2]
          refine ⟨(hF2.tr f0).tr (RF.tok _ _ _ _), rfl, o + 1, f1.of2 mTok_2, f2.of2 mTok_2, ?_, ?_, hE.2.1, mTok_T, ?_, ?_, ?_, ?_, ?_, ?_, hf5, by simp only; omega, by simp only; omega⟩
          · rw [mTok_o (by decide)]; exact f3
          · rw [← f4]; exact funext fun b => mTok_o (by simp)
          · rw [mTok_o (by decide)]; exact f7
          · rw [mTok_o (by decide), f11, pP_app _ cur hPG]; rfl
          · rw [mTok_o (by decide), f12, pW_app _ cur hPG]; rfl
          · rw [mTok_o (by decide)]; exact f8
          · rw [mTok_o (by decide)]; exact f9
          · exact MZ_same f10 (fun a b hab => mTok_o (by omega))
        · rw [if_neg hc2, if_neg hc2, if_neg hc2]
          exact ⟨hF2.tr f0, rfl, f6.2.1, by simp, by simp⟩
      have l1000001 : (1000001 : Int32) = nI 1000001 := rfl
      -- a step that opens: an order, the frame, the token behind the brace
      have opn : ∀ (g : JH) (pp part num : Nat) (w v : Int32), RF h2 g → Kin g → MR g → (∀ a b, ¬ (a = 38 ∧ 37 ≤ b ∧ b ≤ 40) → gi g a b = gi h2 a b) → pp ≤ n → TK g t n pp → tkC t n pp = 3 → ((part = 0 ∧ w = 3 ∧ v = nI num ∧ 1 ≤ num ∧ num ≤ 50) ∨ (part = 1 ∧ w = 5 ∧ num = 0)) → fs.length < 5 → StP t n (.inr (tkE t n pp, (cur, part, num, pN) :: fs, pN, e + 1)) h (some (.int 0)) (mTok (mBeg (mOrd g o w v 0) fs.length o (if w = 3 then 0 else 1) (gi g 38 48) (gi g 38 49)) t n (tkE t n pp)) := by
        intro g pp part num w v f0 f1 f2 f3 f4 f5 f6 f7 f8
        have hE := tkE_b (t := t) (n := n) (p := pp) f4
        generalize hpt : (if w = 3 then (0 : Int32) else 1) = pt
        have gB : ∀ a b, ¬ (a = 38 ∧ 37 ≤ b ∧ b ≤ 51) → ¬ ((a = 63 ∨ a = 64 ∨ a = 65) ∧ b = 400 + o) → ¬ (68 ≤ a ∧ a ≤ 71 ∧ b = fs.length) → gi (mTok (mBeg (mOrd g o w v 0) fs.length o pt (gi g 38 48) (gi g 38 49)) t n (tkE t n pp)) a b = gi h2 a b := by
          intro a b x1 x2 x3
          rw [mTok_o (fun q => x1 ⟨q.1, by omega⟩)]
          unfold mBeg
          rw [gi_si, if_neg (fun q => x1 ⟨q.1, by omega⟩), gi_si, if_neg (fun q => x1 ⟨q.1, by omega⟩), gi_si, if_neg (fun q => x1 ⟨q.1, by omega⟩), gi_si, if_neg (fun q => x3 ⟨by omega, by omega, q.2⟩), gi_si, if_neg (fun q => x3 ⟨by omega, by omega, q.2⟩), gi_si, if_neg (fun q => x3 ⟨by omega, by omega, q.2⟩), gi_si, if_neg (fun q => x3 ⟨by omega, by omega, q.2⟩), mOrd_o x2 (fun q => x1 ⟨q.1, by omega⟩)]
          exact f3 a b (fun q => x1 ⟨q.1, by omega⟩)
        have g48 : gi g 38 48 = nI (cap (pP cur)) := by rw [f3 38 48 (by decide)]; exact q48
        have g49 : gi g 38 49 = nI (cap (pW cur)) := by rw [f3 38 49 (by decide)]; exact q49
        have g51 : gi g 38 51 = nI (e + 1) := by rw [f3 38 51 (by decide)]; exact q51
        have gt40 : ∀ b, gi (mTok (mBeg (mOrd g o w v 0) fs.length o pt (gi g 38 48) (gi g 38 49)) t n (tkE t n pp)) 40 b = t b := fun b => by rw [gB 40 b (by simp) (by simp) (by simp), ht2]
        refine ⟨(hF2.tr f0).tr (((RF.ord _ _ _ _ _).tr (RF.beg _ _ _ _ _ _)).tr (RF.tok _ _ _ _)), rfl, o + 1, f1.of2 mTok_2, f2.of2 mTok_2, ?_, ?_, hE.2.1, mTok_T, ?_, ?_, ?_, ?_, ?_, ?_, by simp; omega, by simp only; omega, ?_⟩
        · rw [gB 38 2 (by decide) (by simp) (by simp)]; exact hn2
        · exact funext gt40
        · rw [mTok_o (by decide)]; unfold mBeg; rw [gi_si, if_pos ⟨rfl, rfl⟩]; simp
        · rw [mTok_o (by decide)]; unfold mBeg; rw [gi_si, if_neg (by decide), gi_si, if_neg (by decide), gi_si, if_pos ⟨rfl, rfl⟩]; rfl
        · rw [mTok_o (by decide)]; unfold mBeg; rw [gi_si, if_neg (by decide), gi_si, if_pos ⟨rfl, rfl⟩]; rfl
        · rw [mTok_o (by decide)]; unfold mBeg; rw [gi_si, if_neg (by decide), gi_si, if_neg (by decide), gi_si, if_neg (by decide), gi_si, if_neg (by simp), gi_si, if_neg (by simp), gi_si, if_neg (by simp), gi_si, if_neg (by simp), mOrd_50]
        · rw [mTok_o (by decide)]; unfold mBeg; rw [gi_si, if_neg (by decide), gi_si, if_neg (by decide), gi_si, if_neg (by decide), gi_si, if_neg (by simp), gi_si, if_neg (by simp), gi_si, if_neg (by simp), gi_si, if_neg (by simp), mOrd_o (by simp) (by decide)]; exact g51
        · have s63 : gi (mTok (mBeg (mOrd g o w v 0) fs.length o pt (gi g 38 48) (gi g 38 49)) t n (tkE t n pp)) 63 (400 + o) = w := by
            rw [mTok_o (by simp)]; unfold mBeg; rw [gi_si, if_neg (by simp), gi_si, if_neg (by simp), gi_si, if_neg (by simp), gi_si, if_neg (by simp), gi_si, if_neg (by simp), gi_si, if_neg (by simp), gi_si, if_neg (by simp), mOrd_63]
          have s64 : gi (mTok (mBeg (mOrd g o w v 0) fs.length o pt (gi g 38 48) (gi g 38 49)) t n (tkE t n pp)) 64 (400 + o) = v := by
            rw [mTok_o (by simp)]; unfold mBeg; rw [gi_si, if_neg (by simp), gi_si, if_neg (by simp), gi_si, if_neg (by simp), gi_si, if_neg (by simp), gi_si, if_neg (by simp), gi_si, if_neg (by simp), gi_si, if_neg (by simp), mOrd_64]
          have s68 : gi (mTok (mBeg (mOrd g o w v 0) fs.length o pt (gi g 38 48) (gi g 38 49)) t n (tkE t n pp)) 68 fs.length = nI o := by
            rw [mTok_o (by simp)]; unfold mBeg; rw [gi_si, if_neg (by simp), gi_si, if_neg (by simp), gi_si, if_neg (by simp), gi_si, if_neg (by simp), gi_si, if_neg (by simp), gi_si, if_neg (by simp), gi_si, if_pos ⟨rfl, rfl⟩]
          have s69 : gi (mTok (mBeg (mOrd g o w v 0) fs.length o pt (gi g 38 48) (gi g 38 49)) t n (tkE t n pp)) 69 fs.length = pt := by
            rw [mTok_o (by simp)]; unfold mBeg; rw [gi_si, if_neg (by simp), gi_si, if_neg (by simp), gi_si, if_neg (by simp), gi_si, if_neg (by simp), gi_si, if_neg (by simp), gi_si, if_pos ⟨rfl, rfl⟩]
          have s70 : gi (mTok (mBeg (mOrd g o w v 0) fs.length o pt (gi g 38 48) (gi g 38 49)) t n (tkE t n pp)) 70 fs.length = nI (cap (pP cur)) := by
            rw [mTok_o (by simp)]; unfold mBeg; rw [gi_si, if_neg (by simp), gi_si, if_neg (by simp), gi_si, if_neg (by simp), gi_si, if_neg (by simp), gi_si, if_pos ⟨rfl, rfl⟩]; exact g48
          have s71 : gi (mTok (mBeg (mOrd g o w v 0) fs.length o pt (gi g 38 48) (gi g 38 49)) t n (tkE t n pp)) 71 fs.length = nI (cap (pW cur)) := by
            rw [mTok_o (by simp)]; unfold mBeg; rw [gi_si, if_neg (by simp), gi_si, if_neg (by simp), gi_si, if_neg (by simp), gi_si, if_pos ⟨rfl, rfl⟩]; exact g49
          refine ⟨o, o + 1, MZ_congr fs (fun k hk => ⟨gB 63 _ (by simp) (by omega) (by simp), gB 64 _ (by simp) (by omega) (by simp), gB 65 _ (by simp) (by omega) (by simp)⟩) (fun u hu q x1 x2 => gB q u (by omega) (by omega) (by omega)) hZ2, trivial, rfl, s70, s71, ?_⟩
          rcases f7 with ⟨rfl, rfl, rfl, y1, y2⟩ | ⟨rfl, rfl, rfl⟩
          · exact Or.inl ⟨rfl, s63, s64, rfl, s68, s69.trans (by rw [← hpt]; rfl), y1, y2⟩
          · exact Or.inr (Or.inl ⟨rfl, s63, rfl, s68, s69.trans (by rw [← hpt]; rfl)⟩)
        · rcases f7 with ⟨rfl, -⟩ | ⟨rfl, -⟩ <;> (simp [fwant]; omega)
      have cts : ∀ (g : JH) (pp : Nat) (w v : Int32), Kin g → MR g → (∀ a b, ¬ (a = 38 ∧ 37 ≤ b ∧ b ≤ 40) → gi g a b = gi h2 a b) → pp ≤ n → TK g t n pp → fs.length < 5 →
          JF x yX9_order cX9_order 5 (some .int) 0 0 0 [.ref 38, .int w, .int v, .int 0] g (some (.int (nI o))) (mOrd g o w v 0) ∧
          JF x yX9_begin cX9_begin 2 none 0 0 0 [.ref 38, .int (nI o)] (mOrd g o w v 0) none (mBeg (mOrd g o w v 0) fs.length o (if w = 3 then 0 else 1) (gi g 38 48) (gi g 38 49)) ∧
          JF x yX9_nextToken cX9_nextToken 4 none 2 0 0 [.ref 38] (mBeg (mOrd g o w v 0) fs.length o (if w = 3 then 0 else 1) (gi g 38 48) (gi g 38 49)) none (mTok (mBeg (mOrd g o w v 0) fs.length o (if w = 3 then 0 else 1) (gi g 38 48) (gi g 38 49)) t n (tkE t n pp)) := by
        intro g pp w v f1 f2 f3 f4 f5 f8
        refine ⟨j_X9_order f1 f2 (by rw [f3 38 50 (by decide)]; exact q50) ho99, ?_, ?_⟩
        · have := j_X9_begin (x := x) (h := mOrd g o w v 0) (o := o) (L := fs.length) (pt := if w = 3 then 0 else 1) f1 f2 ho99 (by rw [mOrd_o (by simp) (by decide), f3 38 47 (by decide)]; exact q47) (by omega) (by rw [mOrd_63])
          rw [mOrd_o (by simp) (by decide), mOrd_o (by simp) (by decide)] at this
          exact this
        · refine j_X9_nx f1 f2 ?_ hn4 ?_ hby f4 ?_
          · unfold mBeg
            rw [gi_si, if_neg (by decide), gi_si, if_neg (by decide), gi_si, if_neg (by decide), gi_si, if_neg (by simp), gi_si, if_neg (by simp), gi_si, if_neg (by simp), gi_si, if_neg (by simp), mOrd_o (by simp) (by decide), f3 38 2 (by decide)]
            exact hn2
          · rw [← ht2]
            refine funext fun b => ?_
            unfold mBeg
            rw [gi_si, if_neg (by simp), gi_si, if_neg (by simp), gi_si, if_neg (by simp), gi_si, if_neg (by simp), gi_si, if_neg (by simp), gi_si, if_neg (by simp), gi_si, if_neg (by simp), mOrd_o (by simp) (by simp), f3 40 b (by simp)]
          · unfold mBeg
            rw [gi_si, if_neg (by decide), gi_si, if_neg (by decide), gi_si, if_neg (by decide), gi_si, if_neg (by simp), gi_si, if_neg (by simp), gi_si, if_neg (by simp), gi_si, if_neg (by simp), mOrd_o (by simp) (by decide)]
            exact f5.1
      have c39 : gi h2 38 39 = nI (tkC t n p1) := hT2.2.2.1
      refine J_iload_n (pq := 58) dX9_step_57 rfl rfl (J_bipush (pq := 60) dX9_step_58 rfl c_bipush_8 (J_icmp_ne (pq := 63) (tgt := 92) dX9_step_60 rfl rfl (fun c => ?_) (fun c => ?_)))
      · rw [l8, nI_eq (by omega) (by omega)] at c
        have c8 := c
        rw [if_neg c8]
        refine J_iload_n (pq := 93) dX9_step_92 rfl rfl (J_bipush (pq := 95) dX9_step_93 rfl c_bipush_10 (J_icmp_ne (pq := 98) (tgt := 125) dX9_step_95 rfl rfl (fun c => ?_) (fun c => ?_)))
        · rw [l10, nI_eq (by omega) (by omega)] at c
          have c10 := c
          rw [if_neg c10]
          refine J_aload_n (pq := 126) dX9_step_125 rfl rfl (J_getI (pq := 129) dX9_step_126 rfl f_X9_236 jsI (hK2.at rfl) (J_iconst (pq := 130) dX9_step_129 rfl c_iconst_1 (J_icmp_eq (pq := 133) (tgt := 135) dX9_step_130 rfl rfl (fun c => ?_) (fun c => ?_))))
          · rw [c39, l1, nI_eq (by omega) (by omega)] at c
            have c1 := c
            rw [if_pos c1]
            have hto := hT2.2.2.2 c1
            rw [hp2] at hto
            generalize hD : dval t (tkQ t n p1) (p2 - tkQ t n p1) = D at *
            have d30 := dcap_30 (t := t) (a := tkQ t n p1) (k := p2 - tkQ t n p1)
            have d50 := dcap_50 (t := t) (a := tkQ t n p1) (k := p2 - tkQ t n p1)
            have dv : D ≤ 50 → dcap t (tkQ t n p1) (p2 - tkQ t n p1) = D := fun q => by rw [← hD]; exact dcap_v (by rw [hD]; exact q)
            have dor := dcap_or t (tkQ t n p1) (p2 - tkQ t n p1)
            rw [hD] at d30 d50 dor
            have dlt := dcap_lt t (tkQ t n p1) (fun _ => Or.inr trivial) (p2 - tkQ t n p1) (hE1.2.2.2.2 c1)
            generalize dcap t (tkQ t n p1) (p2 - tkQ t n p1) = D' at *
            refine J_cut (σ := Unit) 166 (fun _ => [some (.ref 38), some (.int (nI C)), none]) (fun _ => []) (fun _ => h2) (fun _ => ¬ ((C = 6 ∧ D ≤ 30) ∨ (¬ C = 6 ∧ 1 ≤ D ∧ D ≤ 50))) (fun _ hc => ?_) (fun k166 => ?_)
            · rw [if_neg hc]
              refine J_iconst (pq := 167) dX9_step_166 rfl c_iconst_2 (J_iret dX9_step_167 rfl rfl ?_)
              exact ⟨hF2, rfl, hT2.2.1, by simp, by simp⟩
            refine J_cut (σ := Unit) 168 (fun _ => [some (.ref 38), some (.int (nI C)), none]) (fun _ => []) (fun _ => h2) (fun _ => ((C = 6 ∧ D ≤ 30) ∨ (¬ C = 6 ∧ 1 ≤ D ∧ D ≤ 50))) (fun _ hc => ?_) (fun k168 => ?_)
            · rw [if_pos hc]
              have hD50 : D ≤ 50 := by omega
              rw [dv hD50] at hto
              refine J_aload_n (pq := 169) dX9_step_168 rfl rfl (J_getI (pq := 172) dX9_step_169 rfl f_X9_242 jsI (hK2.at rfl) (J_istore_m 2 (pq := 173) dX9_step_172 rfl rfl (Nat.le_of_ble_eq_true rfl) (Nat.le_of_ble_eq_true rfl) rfl (J_aload_n (pq := 174) dX9_step_173 rfl rfl (J_virtF (pq := 177) dX9_step_174 rfl (j_X9_nx hK2 hR2 hn2 hn4 ht2 hby hE0.2.1 hT2.1) rfl tg_X9_nextToken l_X9_272 vi_X9_nextToken (hK2.at rfl) ⟨by decide, rfl⟩ (Nat.le_of_ble_eq_true rfl) (Nat.zero_le _) (Nat.zero_le _) (Nat.le_of_ble_eq_true rfl) (?_)))))
              rw [hp2, hto]
              generalize hh3 : mTok h2 t n p2 = h3
              have hT3 : TK h3 t n p2 := by rw [← hh3]; exact mTok_T
              have e32 : h3.2 = h2.2 := by rw [← hh3, mTok_2]
              have hg3 : ∀ a b, ¬ (a = 38 ∧ 37 ≤ b ∧ b ≤ 40) → gi h3 a b = gi h2 a b := by
                intro a b x1
                rw [← hh3, mTok_o x1]
              have hK3 : Kin h3 := hK2.of2 e32
              have hR3 : MR h3 := hR2.of2 e32
              have hF3 : RF h2 h3 := by rw [← hh3]; exact RF.tok _ _ _ _
              have d39 : gi h3 38 39 = nI (tkC t n p2) := hT3.2.2.1
              refine J_iload_n (pq := 178) dX9_step_177 rfl rfl (J_bipush (pq := 180) dX9_step_178 rfl c_bipush_9 (J_icmp_ne (pq := 183) (tgt := 210) dX9_step_180 rfl rfl (fun c => ?_) (fun c => ?_)))
              · rw [show (9 : Int32) = nI 9 from rfl, nI_eq (by omega) (by omega)] at c
                rw [if_neg c]
                have hord := j_X9_order (x := x) (w := nI (C - 6)) (n := nI D) (p := 0) hK3 hR3 (by rw [hg3 38 50 (by decide)]; exact q50) ho99
                generalize hh4 : mOrd h3 o (nI (C - 6)) (nI D) 0 = h4 at *
                have hK4 : Kin h4 := by rw [← hh4]; exact hK3
                have hR4 : MR h4 := by rw [← hh4]; exact hR3
                have hF4 : RF h2 h4 := by rw [← hh4]; exact hF3.tr (RF.ord _ _ _ _ _)
                have hg4 : ∀ b, b ≠ 50 → gi h4 38 b = gi h3 38 b := fun b hb => by rw [← hh4, mOrd_o (by simp) (by simp; omega)]
                have hZ3 : MZ (gi h3) fs cur o := MZ_same hZ2 (fun a b hab => hg3 a b (by omega))
                have r48 : gi h4 38 48 = nI (cap (pP cur)) := by rw [hg4 48 (by decide), hg3 38 48 (by decide)]; exact q48
                have r49 : gi h4 38 49 = nI (cap (pW cur)) := by rw [hg4 49 (by decide), hg3 38 49 (by decide)]; exact q49
                generalize hh5 : si h4 38 48 (nI (min 1000001 (cap (pP cur) + (if C - 6 = 1 then D else 0)))) = h5
                have hK5 : Kin h5 := by rw [← hh5]; exact hK4
                have hR5 : MR h5 := by rw [← hh5]; exact hR4
                have s49 : gi h5 38 49 + 1 = nI (cap (pW cur) + 1) := by rw [← hh5, gi_si, if_neg (by decide), r49, nI_1]
                have fin : ∀ ls, J x yX9_step cX9_step 3 (some .int) 4 0 0 (StP t n (if tkC t n p2 = 2 then .inr (tkE t n p2, fs, papp cur (pL (C - 6) D pN), e + 1) else .inl (1, tkQ t n p2)) h) 254 ([some (.ref 38)] ++ ls) [] h5 := by
                  intro ls
                  refine J_aload_n (pq := 255) dX9_step_254 rfl rfl (J_ldcw (pq := 258) dX9_step_255 rfl k_X9_265 (J_aload_n (pq := 259) dX9_step_258 rfl rfl (J_getI (pq := 262) dX9_step_259 rfl f_X9_262 jsI (hK5.at rfl) (J_iconst (pq := 263) dX9_step_262 rfl c_iconst_1 (J_iadd (pq := 264) dX9_step_263 rfl (?_))))))
                  rw [s49]
                  refine J_statF (pq := 267) dX9_step_264 rfl (j_X9_lesser (a := 1000001) (by omega) (by omega)) rfl tg_X9_lesser l_X9_266 st_X9_lesser (Nat.le_of_ble_eq_true rfl) (Nat.zero_le _) (Nat.zero_le _) (Nat.le_of_ble_eq_true rfl) (J_putI (pq := 270) dX9_step_267 rfl f_X9_262 (Or.inl rfl) (hK5.at rfl) (?_))
                  have g6 : ∀ a b, ¬ (a = 38 ∧ (b = 48 ∨ b = 49)) → gi (si h5 38 49 (nI (min 1000001 (cap (pW cur) + 1)))) a b = gi h4 a b := fun a b q => by
                    rw [gi_si, if_neg (by omega), ← hh5, gi_si, if_neg (by omega)]
                  refine leaf (C - 6) D (si h5 38 49 (nI (min 1000001 (cap (pW cur) + 1)))) p2 (by omega) hD50 ?_ hK5 hR5 ?_ ?_ hE1.2.1 ?_ ?_ ?_ ?_ ?_ ?_ ?_ ls
                  · rw [← hh5]; exact (hF4.tr (RF.f38 _ 48 _ (by omega))).tr (RF.f38 _ 49 _ (by omega))
                  · rw [g6 38 2 (by decide), hg4 2 (by decide), hg3 38 2 (by decide)]; exact hn2
                  · rw [← ht2]; exact funext fun b => by rw [g6 40 b (by simp), ← hh4, mOrd_o (by simp) (by simp), hg3 40 b (by simp)]
                  · refine ⟨?_, ?_, ?_, fun q => ?_⟩
                    · rw [g6 38 37 (by decide), hg4 37 (by decide)]; exact hT3.1
                    · rw [g6 38 38 (by decide), hg4 38 (by decide)]; exact hT3.2.1
                    · rw [g6 38 39 (by decide), hg4 39 (by decide)]; exact hT3.2.2.1
                    · rw [g6 38 40 (by decide), hg4 40 (by decide)]; exact hT3.2.2.2 q
                  · rw [g6 38 47 (by decide), hg4 47 (by decide), hg3 38 47 (by decide)]; exact q47
                  · rw [g6 38 50 (by decide), ← hh4, mOrd_50]
                  · rw [g6 38 51 (by decide), hg4 51 (by decide), hg3 38 51 (by decide)]; exact q51
                  · exact MZ_ord (w := nI (C - 6)) (v := nI D) (p := 0) hZ3 rfl rfl (fun a b hab => by rw [g6 a b (by omega), hh4])
                  · rw [gi_si, if_neg (by decide), ← hh5, gi_si, if_pos ⟨rfl, rfl⟩, cap_add]
                  · rw [gi_si, if_pos ⟨rfl, rfl⟩, cap_add]
                have h67 : C = 6 ∨ C = 7 := by omega
                rcases h67 with h6 | h6
                · refine J_aload_n (pq := 211) dX9_step_210 rfl rfl (J_iload_n (pq := 212) dX9_step_211 rfl rfl (J_bipush (pq := 214) dX9_step_212 rfl c_bipush_6 (J_icmp_ne (pq := 217) (tgt := 221) dX9_step_214 rfl rfl (fun c => ?_) (fun c => ?_))))
                  · rw [l6, nI_eq (by omega) (by omega)] at c; exact absurd h6 c
                  · rw [show (nI (C - 6)) = 0 from by rw [h6]; rfl] at hord
                    refine J_iconst (pq := 218) dX9_step_217 rfl c_iconst_0 (J_goto (tgt := 222) dX9_step_218 rfl (J_iload_n (pq := 223) dX9_step_222 rfl rfl (J_iconst (pq := 224) dX9_step_223 rfl c_iconst_0 (J_virtF (pq := 227) dX9_step_224 rfl (hord) rfl tg_X9_order l_X9_275 vi_X9_order (hK3.at rfl) ⟨by decide, rfl⟩ (Nat.le_of_ble_eq_true rfl) (Nat.zero_le _) (Nat.zero_le _) (Nat.le_of_ble_eq_true rfl) (J_pop (pq := 228) dX9_step_227 rfl rfl (?_))))))
                    refine J_aload_n (pq := 229) dX9_step_228 rfl rfl (J_ldcw (pq := 232) dX9_step_229 rfl k_X9_265 (J_aload_n (pq := 233) dX9_step_232 rfl rfl (J_getI (pq := 236) dX9_step_233 rfl f_X9_259 jsI (hK4.at rfl) (J_iload_n (pq := 237) dX9_step_236 rfl rfl (J_bipush (pq := 239) dX9_step_237 rfl c_bipush_7 (J_icmp_ne (pq := 242) (tgt := 246) dX9_step_239 rfl rfl (fun c => ?_) (fun c => ?_)))))))
                    · have s48 : gi h4 38 48 + 0 = nI (cap (pP cur) + (if C - 6 = 1 then D else 0)) := by rw [r48, if_neg (by omega), show (0 : Int32) = nI 0 from rfl, nI_add]
                      refine J_iconst (pq := 247) dX9_step_246 rfl c_iconst_0 (J_iadd (pq := 248) dX9_step_247 rfl (?_))
                      rw [s48]
                      refine J_statF (pq := 251) dX9_step_248 rfl (j_X9_lesser (a := 1000001) (by omega) (by split <;> omega)) rfl tg_X9_lesser l_X9_266 st_X9_lesser (Nat.le_of_ble_eq_true rfl) (Nat.zero_le _) (Nat.zero_le _) (Nat.le_of_ble_eq_true rfl) (J_putI (pq := 254) dX9_step_251 rfl f_X9_259 (Or.inl rfl) (hK4.at rfl) (?_))
                      rw [hh5]
                      exact fin _
                    · rw [show (7 : Int32) = nI 7 from rfl, nI_eq (by omega) (by omega)] at c; omega
                · refine J_aload_n (pq := 211) dX9_step_210 rfl rfl (J_iload_n (pq := 212) dX9_step_211 rfl rfl (J_bipush (pq := 214) dX9_step_212 rfl c_bipush_6 (J_icmp_ne (pq := 217) (tgt := 221) dX9_step_214 rfl rfl (fun c => ?_) (fun c => ?_))))
                  · rw [show (nI (C - 6)) = 1 from by rw [h6]; rfl] at hord
                    refine J_iconst (pq := 222) dX9_step_221 rfl c_iconst_1 (J_iload_n (pq := 223) dX9_step_222 rfl rfl (J_iconst (pq := 224) dX9_step_223 rfl c_iconst_0 (J_virtF (pq := 227) dX9_step_224 rfl (hord) rfl tg_X9_order l_X9_275 vi_X9_order (hK3.at rfl) ⟨by decide, rfl⟩ (Nat.le_of_ble_eq_true rfl) (Nat.zero_le _) (Nat.zero_le _) (Nat.le_of_ble_eq_true rfl) (J_pop (pq := 228) dX9_step_227 rfl rfl (?_)))))
                    refine J_aload_n (pq := 229) dX9_step_228 rfl rfl (J_ldcw (pq := 232) dX9_step_229 rfl k_X9_265 (J_aload_n (pq := 233) dX9_step_232 rfl rfl (J_getI (pq := 236) dX9_step_233 rfl f_X9_259 jsI (hK4.at rfl) (J_iload_n (pq := 237) dX9_step_236 rfl rfl (J_bipush (pq := 239) dX9_step_237 rfl c_bipush_7 (J_icmp_ne (pq := 242) (tgt := 246) dX9_step_239 rfl rfl (fun c => ?_) (fun c => ?_)))))))
                    · rw [show (7 : Int32) = nI 7 from rfl, nI_eq (by omega) (by omega)] at c; omega
                    · have s48 : gi h4 38 48 + nI D = nI (cap (pP cur) + (if C - 6 = 1 then D else 0)) := by rw [r48, if_pos (by omega), nI_add]
                      refine J_iload_n (pq := 243) dX9_step_242 rfl rfl (J_goto (tgt := 247) dX9_step_243 rfl (J_iadd (pq := 248) dX9_step_247 rfl (?_)))
                      rw [s48]
                      refine J_statF (pq := 251) dX9_step_248 rfl (j_X9_lesser (a := 1000001) (by omega) (by split <;> omega)) rfl tg_X9_lesser l_X9_266 st_X9_lesser (Nat.le_of_ble_eq_true rfl) (Nat.zero_le _) (Nat.zero_le _) (Nat.le_of_ble_eq_true rfl) (J_putI (pq := 254) dX9_step_251 rfl f_X9_259 (Or.inl rfl) (hK4.at rfl) (?_))
                      rw [hh5]
                      exact fin _
                  · rw [l6, nI_eq (by omega) (by omega)] at c; omega
              · rw [show (9 : Int32) = nI 9 from rfl, nI_eq (by omega) (by omega)] at c
                rw [if_pos c]
                have hf5' : fs.length < 5 := by omega
                have hct := cts h3 p2 3 (nI D) hK3 hR3 hg3 hE1.2.1 hT3 hf5'
                refine J_aload_n (pq := 184) dX9_step_183 rfl rfl (J_getI (pq := 187) dX9_step_184 rfl f_X9_236 jsI (hK3.at rfl) (J_iconst (pq := 188) dX9_step_187 rfl c_iconst_3 (J_icmp_eq (pq := 191) (tgt := 193) dX9_step_188 rfl rfl (fun c => ?_) (fun c => ?_))))
                · rw [d39, l3, nI_eq (by omega) (by omega)] at c
                  rw [if_pos c]
                  refine J_aload_n (pq := 194) dX9_step_193 rfl rfl (J_aload_n (pq := 195) dX9_step_194 rfl rfl (J_iconst (pq := 196) dX9_step_195 rfl c_iconst_3 (J_iload_n (pq := 197) dX9_step_196 rfl rfl (J_iconst (pq := 198) dX9_step_197 rfl c_iconst_0 (J_virtF (pq := 201) dX9_step_198 rfl (hct.1) rfl tg_X9_order l_X9_275 vi_X9_order (hK3.at rfl) ⟨by decide, rfl⟩ (Nat.le_of_ble_eq_true rfl) (Nat.zero_le _) (Nat.zero_le _) (Nat.le_of_ble_eq_true rfl) (J_virtF (pq := 204) dX9_step_201 rfl (hct.2.1) rfl tg_X9_begin l_X9_281 vi_X9_begin (hK3.at rfl) ⟨by decide, rfl⟩ (Nat.le_of_ble_eq_true rfl) (Nat.zero_le _) (Nat.zero_le _) (Nat.le_of_ble_eq_true rfl) (J_aload_n (pq := 205) dX9_step_204 rfl rfl (J_virtF (pq := 208) dX9_step_205 rfl (hct.2.2) rfl tg_X9_nextToken l_X9_272 vi_X9_nextToken (hK3.at rfl) ⟨by decide, rfl⟩ (Nat.le_of_ble_eq_true rfl) (Nat.zero_le _) (Nat.zero_le _) (Nat.le_of_ble_eq_true rfl) (J_iconst (pq := 209) dX9_step_208 rfl c_iconst_0 (J_iret dX9_step_209 rfl rfl ?_))))))))))
                  exact opn h3 p2 0 D 3 (nI D) hF3 hK3 hR3 hg3 hE1.2.1 hT3 c (Or.inl ⟨rfl, rfl, rfl, by omega, hD50⟩) hf5'
                · rw [d39, l3, nI_eq (by omega) (by omega)] at c
                  rw [if_neg c]
                  refine J_iconst (pq := 192) dX9_step_191 rfl c_iconst_1 (J_iret dX9_step_192 rfl rfl ?_)
                  exact ⟨hF2.tr hF3, rfl, hT3.2.1, by simp, by simp⟩
            refine J_iload_n (pq := 136) dX9_step_135 rfl rfl (J_bipush (pq := 138) dX9_step_136 rfl c_bipush_6 (J_icmp_ne (pq := 141) (tgt := 153) dX9_step_138 rfl rfl (fun c => ?_) (fun c => ?_)))
            · rw [l6, nI_eq (by omega) (by omega)] at c
              have c6n := c
              have hi5 : isin (gi h2 38 40) 1 50 = decide (1 ≤ D ∧ D ≤ 50) := by
                rw [hto, Bool.eq_iff_iff, isin_t, decide_eq_true_eq, nI_toInt (by omega)]
                simp; omega
              refine J_aload_n (pq := 154) dX9_step_153 rfl rfl (J_getI (pq := 157) dX9_step_154 rfl f_X9_242 jsI (hK2.at rfl) (J_iconst (pq := 158) dX9_step_157 rfl c_iconst_1 (J_bipush (pq := 160) dX9_step_158 rfl c_bipush_50 (J_statF (pq := 163) dX9_step_160 rfl (j_X9_isIn) rfl tg_X9_isIn l_X9_137 st_X9_isIn (Nat.le_of_ble_eq_true rfl) (Nat.zero_le _) (Nat.zero_le _) (Nat.le_of_ble_eq_true rfl) (J_if_ne (pq := 166) (tgt := 168) dX9_step_163 rfl rfl (fun c => ?_) (fun c => ?_))))))
              · rw [bi_0, Bool.not_eq_false, hi5, decide_eq_true_eq] at c
                exact J_weak (by simp [lsub]) rfl rfl (k168 () (Or.inr ⟨c6n, c⟩))
              · rw [bi_0, hi5, decide_eq_false_iff_not] at c
                exact J_weak (by simp [lsub]) rfl rfl (k166 () (by omega))
            · rw [l6, nI_eq (by omega) (by omega)] at c
              have c6n := c
              refine J_aload_n (pq := 142) dX9_step_141 rfl rfl (J_getI (pq := 145) dX9_step_142 rfl f_X9_242 jsI (hK2.at rfl) (J_bipush (pq := 147) dX9_step_145 rfl c_bipush_30 (J_icmp_le (pq := 150) (tgt := 168) dX9_step_147 rfl rfl (fun c => ?_) (fun c => ?_))))
              · rw [hto, show (30 : Int32) = nI 30 from rfl, nI_leI (by omega) (by omega)] at c
                exact J_weak (by simp [lsub]) rfl rfl (k168 () (Or.inl ⟨c6n, by omega⟩))
              · rw [hto, show (30 : Int32) = nI 30 from rfl, nI_leI (by omega) (by omega)] at c
                refine J_goto (tgt := 166) dX9_step_150 rfl (?_)
                exact J_weak (by simp [lsub]) rfl rfl (k166 () (by omega))
          · rw [c39, l1, nI_eq (by omega) (by omega)] at c
            rw [if_neg c]
            refine J_iconst (pq := 134) dX9_step_133 rfl c_iconst_1 (J_iret dX9_step_134 rfl rfl ?_)
            exact ⟨hF2, rfl, hT2.2.1, by simp, by simp⟩
        · rw [l10, nI_eq (by omega) (by omega)] at c
          rw [if_pos c]
          have hf5' : fs.length < 5 := by omega
          have hct := cts h2 p1 5 0 hK2 hR2 (fun a b _ => rfl) hE0.2.1 hT2 hf5'
          refine J_aload_n (pq := 99) dX9_step_98 rfl rfl (J_getI (pq := 102) dX9_step_99 rfl f_X9_236 jsI (hK2.at rfl) (J_iconst (pq := 103) dX9_step_102 rfl c_iconst_3 (J_icmp_eq (pq := 106) (tgt := 108) dX9_step_103 rfl rfl (fun c => ?_) (fun c => ?_))))
          · rw [c39, l3, nI_eq (by omega) (by omega)] at c
            rw [if_pos c]
            refine J_aload_n (pq := 109) dX9_step_108 rfl rfl (J_aload_n (pq := 110) dX9_step_109 rfl rfl (J_iconst (pq := 111) dX9_step_110 rfl c_iconst_5 (J_iconst (pq := 112) dX9_step_111 rfl c_iconst_0 (J_iconst (pq := 113) dX9_step_112 rfl c_iconst_0 (J_virtF (pq := 116) dX9_step_113 rfl (hct.1) rfl tg_X9_order l_X9_275 vi_X9_order (hK2.at rfl) ⟨by decide, rfl⟩ (Nat.le_of_ble_eq_true rfl) (Nat.zero_le _) (Nat.zero_le _) (Nat.le_of_ble_eq_true rfl) (J_virtF (pq := 119) dX9_step_116 rfl (hct.2.1) rfl tg_X9_begin l_X9_281 vi_X9_begin (hK2.at rfl) ⟨by decide, rfl⟩ (Nat.le_of_ble_eq_true rfl) (Nat.zero_le _) (Nat.zero_le _) (Nat.le_of_ble_eq_true rfl) (J_aload_n (pq := 120) dX9_step_119 rfl rfl (J_virtF (pq := 123) dX9_step_120 rfl (hct.2.2) rfl tg_X9_nextToken l_X9_272 vi_X9_nextToken (hK2.at rfl) ⟨by decide, rfl⟩ (Nat.le_of_ble_eq_true rfl) (Nat.zero_le _) (Nat.zero_le _) (Nat.le_of_ble_eq_true rfl) (J_iconst (pq := 124) dX9_step_123 rfl c_iconst_0 (J_iret dX9_step_124 rfl rfl ?_))))))))))
            have := opn h2 p1 1 0 5 0 (RF.rf _) hK2 hR2 (fun a b _ => rfl) hE0.2.1 hT2 c (Or.inr ⟨rfl, rfl, rfl⟩) hf5'
            rw [hp2] at this ⊢
            exact this
          · rw [c39, l3, nI_eq (by omega) (by omega)] at c
            rw [if_neg c]
            refine J_iconst (pq := 107) dX9_step_106 rfl c_iconst_1 (J_iret dX9_step_107 rfl rfl ?_)
            exact ⟨hF2, rfl, hT2.2.1, by simp, by simp⟩
      · rw [l8, nI_eq (by omega) (by omega)] at c
        rw [if_pos c]
        have hord := j_X9_order (x := x) (w := 2) (n := 0) (p := 0) hK2 hR2 q50 ho99
        generalize hh4 : mOrd h2 o 2 0 0 = h4 at *
        have hK4 : Kin h4 := by rw [← hh4]; exact hK2
        have hR4 : MR h4 := by rw [← hh4]; exact hR2
        have hF4 : RF h2 h4 := by rw [← hh4]; exact RF.ord _ _ _ _ _
        have hg4 : ∀ b, b ≠ 50 → gi h4 38 b = gi h2 38 b := fun b hb => by rw [← hh4, mOrd_o (by simp) (by simp; omega)]
        have s49 : gi h4 38 49 + 1 = nI (cap (pW cur) + 1) := by rw [hg4 49 (by decide), q49, nI_1]
        refine J_aload_n (pq := 64) dX9_step_63 rfl rfl (J_iconst (pq := 65) dX9_step_64 rfl c_iconst_2 (J_iconst (pq := 66) dX9_step_65 rfl c_iconst_0 (J_iconst (pq := 67) dX9_step_66 rfl c_iconst_0 (J_virtF (pq := 70) dX9_step_67 rfl (hord) rfl tg_X9_order l_X9_275 vi_X9_order (hK2.at rfl) ⟨by decide, rfl⟩ (Nat.le_of_ble_eq_true rfl) (Nat.zero_le _) (Nat.zero_le _) (Nat.le_of_ble_eq_true rfl) (J_pop (pq := 71) dX9_step_70 rfl rfl (?_))))))
        refine J_aload_n (pq := 72) dX9_step_71 rfl rfl (J_ldcw (pq := 75) dX9_step_72 rfl k_X9_265 (J_aload_n (pq := 76) dX9_step_75 rfl rfl (J_getI (pq := 79) dX9_step_76 rfl f_X9_262 jsI (hK4.at rfl) (J_iconst (pq := 80) dX9_step_79 rfl c_iconst_1 (J_iadd (pq := 81) dX9_step_80 rfl (?_))))))
        rw [s49]
        refine J_statF (pq := 84) dX9_step_81 rfl (j_X9_lesser (a := 1000001) (by omega) (by omega)) rfl tg_X9_lesser l_X9_266 st_X9_lesser (Nat.le_of_ble_eq_true rfl) (Nat.zero_le _) (Nat.zero_le _) (Nat.le_of_ble_eq_true rfl) (J_putI (pq := 87) dX9_step_84 rfl f_X9_262 (Or.inl rfl) (hK4.at rfl) (?_))
        have g6 : ∀ a b, ¬ (a = 38 ∧ b = 49) → gi (si h4 38 49 (nI (min 1000001 (cap (pW cur) + 1)))) a b = gi h4 a b := fun a b q => by
          rw [gi_si, if_neg (by omega)]
        have := leaf87 2 0 (si h4 38 49 (nI (min 1000001 (cap (pW cur) + 1)))) p1 (by omega) (by omega) ((hF4.tr (RF.f38 _ 49 _ (by omega)))) hK4 hR4 (by rw [g6 38 2 (by decide), hg4 2 (by decide)]; exact hn2) (by rw [← ht2]; exact funext fun b => by rw [g6 40 b (by simp), ← hh4, mOrd_o (by simp) (by simp)]) hE0.2.1 (by
            refine ⟨?_, ?_, ?_, fun q => ?_⟩
            · rw [g6 38 37 (by decide), hg4 37 (by decide)]; exact hT2.1
            · rw [g6 38 38 (by decide), hg4 38 (by decide)]; exact hT2.2.1
            · rw [g6 38 39 (by decide), hg4 39 (by decide)]; exact hT2.2.2.1
            · rw [g6 38 40 (by decide), hg4 40 (by decide)]; exact hT2.2.2.2 q) (by rw [g6 38 47 (by decide), hg4 47 (by decide)]; exact q47) (by rw [g6 38 50 (by decide), ← hh4, mOrd_50]) (by rw [g6 38 51 (by decide), hg4 51 (by decide)]; exact q51) (MZ_ord (w := 2) (v := 0) (p := 0) hZ2 rfl rfl (fun a b hab => by rw [g6 a b (by omega), hh4])) (by rw [g6 38 48 (by decide), hg4 48 (by decide), if_neg (by decide)]; exact q48) (by rw [gi_si, if_pos ⟨rfl, rfl⟩, cap_add])
        rw [hp2] at this
        exact this _
    refine J_aload_n (pq := 19) dX9_step_18 rfl rfl (J_getI (pq := 22) dX9_step_19 rfl f_X9_269 jsI (hK.at rfl) (J_bipush (pq := 24) dX9_step_22 rfl c_bipush_40 (J_icmp_eq (pq := 27) (tgt := 41) dX9_step_24 rfl rfl (fun c => ?_) (fun c => ?_))))
    · rw [h51, show (40 : Int32) = nI 40 from rfl, nI_eq (by omega) (by omega)] at c
      exact J_weak (by simp [lsub]) rfl rfl (k41 () (Or.inl c))
    · rw [h51, show (40 : Int32) = nI 40 from rfl, nI_eq (by omega) (by omega)] at c
      have ce := c
      refine J_iload_n (pq := 28) dX9_step_27 rfl rfl (J_bipush (pq := 30) dX9_step_28 rfl c_bipush_8 (J_icmp_le (pq := 33) (tgt := 43) dX9_step_30 rfl rfl (fun c => ?_) (fun c => ?_)))
      · rw [hC39, l8, nI_leI (by omega) (by omega)] at c
        rw [hC39]
        exact J_weak (by simp [lsub]) rfl rfl (k43 () (by omega))
      · rw [hC39, l8, nI_leI (by omega) (by omega)] at c
        have c8 := c
        refine J_aload_n (pq := 34) dX9_step_33 rfl rfl (J_getI (pq := 37) dX9_step_34 rfl f_X9_256 jsI (hK.at rfl) (J_iconst (pq := 38) dX9_step_37 rfl c_iconst_5 (J_icmp_ne (pq := 41) (tgt := 43) dX9_step_38 rfl rfl (fun c => ?_) (fun c => ?_))))
        · rw [h47, show (5 : Int32) = nI 5 from rfl, nI_eq (by omega) (by omega)] at c
          rw [hC39]
          exact J_weak (by simp [lsub]) rfl rfl (k43 () (by omega))
        · rw [h47, show (5 : Int32) = nI 5 from rfl, nI_eq (by omega) (by omega)] at c
          exact J_weak (by simp [lsub]) rfl rfl (k41 () (Or.inr ⟨by omega, c⟩))
  · rw [bi_0, hi, decide_eq_false_iff_not] at c
    rw [if_neg c]
    refine J_iconst (pq := 17) dX9_step_16 rfl c_iconst_1 (J_iret dX9_step_17 rfl rfl ?_)
    exact ⟨RF.rf h, rfl, hT.2.1, by simp, by simp⟩
end P4
