-- the class: a step of a recipe's text
section R3
variable {x : JX} {h : JH} {n p d e : Nat} {t : Nat → Int32} {fs : List Fr} {cur : Cond}
/-- a fault is told -/
theorem StX_f {g : JH} {f pl : Nat} {r : (Nat × Nat) ⊕ (Nat × List Fr × Cond × Nat)} (hF : RcX d h g) (hr : r = .inl (f, pl)) : StX t n d r h (some (.int 0)) (si (si g 4 0 (nI f)) 4 1 (nI pl)) := by
  rw [hr]
  refine ⟨(hF.si (Or.inr (Or.inr (Or.inr (Or.inl ⟨rfl, by omega⟩))))).si (Or.inr (Or.inr (Or.inr (Or.inl ⟨rfl, by omega⟩)))), rfl, ?_, ?_⟩
  · rw [gi_si, if_neg (by omega), gi_si, if_pos ⟨rfl, rfl⟩]
  · rw [gi_si, if_pos ⟨rfl, rfl⟩]
/-- what stays of the place in the text -/
theorem XP_new {g : JH} {p' e' : Nat} {fs' : List Fr} {cur' : Cond} (hP : XP h t n p fs cur e d) (hs : pstep t n p fs cur e = .inr (p', fs', cur', e')) (hF : RcX d h g) (h4 : gi g d 4 = nI e') (hp' : p' ≤ n) (hT : XT g t n p') (h87 : gi g 8 7 = nI fs'.length) (hz : DZ (gi g) d fs' cur' e') : XP g t n p' fs' cur' e' d := by
  obtain ⟨hK, hX, hC, hn, ht, hp, -, -, hZ, hFO, hPG, hPO, hl, hd1, hd2⟩ := hP
  have hok := pstep_ok hs hFO hPG hPO hl hC.2.2 (DZ_e fs cur e hFO hPG hZ).symm
  obtain ⟨o1, o2, o3, o4, o5, -⟩ := hok
  refine ⟨hK.of2 hF.1, hX.of3 (by rw [hF.1]), ⟨hC.1.of3 (by rw [hF.1]), h4, o5⟩, by rw [hF.2 _ _ (by omega) (by omega) (by omega) (by omega) (by omega)]; exact hn, ?_, hp', hT, h87, hz, o1, o2, o3, o4, hd1, hd2⟩
  rw [← ht]; funext j; exact hF.2 _ _ (by omega) (by omega) (by omega) (by omega) (by omega)
/-- a new step's row -/
theorem aSt_o {k : Int32} {a b : Nat} (hc : ¬ ((d + 1 ≤ a ∧ a ≤ d + 4) ∧ b = e)) (h4 : ¬ (a = d ∧ b = 4)) : gi (aSt h d e k) a b = gi h a b := by
  unfold aSt
  rw [gi_si, if_neg h4, gi_si, if_neg (by omega), gi_si, if_neg (by omega), gi_si, if_neg (by omega), gi_si, if_neg (by omega)]
theorem aSt_r {k : Int32} : gi (aSt h d e k) (d + 1) e = k ∧ gi (aSt h d e k) (d + 2) e = 0 ∧ gi (aSt h d e k) (d + 4) e = nI (e + 1) ∧ gi (aSt h d e k) d 4 = nI (e + 1) := by
  unfold aSt
  refine ⟨?_, ?_, ?_, ?_⟩
  · rw [gi_si, if_neg (by omega), gi_si, if_neg (by omega), gi_si, if_neg (by omega), gi_si, if_neg (by omega), gi_si, if_pos ⟨rfl, rfl⟩]
  · rw [gi_si, if_neg (by omega), gi_si, if_neg (by omega), gi_si, if_neg (by omega), gi_si, if_pos ⟨rfl, rfl⟩]
  · rw [gi_si, if_neg (by omega), gi_si, if_pos ⟨rfl, rfl⟩]
  · rw [gi_si, if_pos ⟨rfl, rfl⟩]
theorem aSt_F {k : Int32} : RcX d h (aSt h d e k) := by
  unfold aSt
  exact (((((RcX.rf d h).si (by omega)).si (by omega)).si (by omega)).si (by omega)).si (by omega)
set_option maxHeartbeats 1000000 in
theorem j_takeStep (hn4 : n ≤ 200) (hby : tby t) (hP : XP h t n p fs cur e d) (hC4 : tkC t n p ≠ 4) : JM x yX5_takeStep cX5_takeStep 5 (some .boolean) 6 0 0 [.ref 8, .ref d] h (StX t n d (pstep t n p fs cur e) h) := by
  have hP0 := hP
  obtain ⟨hK, hX, hC, hn, ht, hp, hT, h87, hZ, hFO, hPG, hPO, hl5, hd1, hd2⟩ := hP
  have he := hC.2.2
  have hd0 := hC.1.1.1
  have hb0 := tkE_b (t := t) hp
  have hb1 := tkE_b (t := t) (n := n) (p := tkE t n p) hb0.2.1
  have hb2 := tkE_b (t := t) (n := n) (p := tkE t n (tkE t n p)) hb1.2.1
  refine JM_of [some (.ref 8), some (.ref d), none, none, none] (by decide) (Nat.le_of_ble_eq_true rfl) rfl ?_
  refine J_aload_n (pq := 1) dX5_takeStep_0 rfl rfl (J_virtF (pq := 4) dX5_takeStep_1 rfl (j_stepKind hK hX hn (by omega) ht hby hp hT) rfl tg_X5_stepKind l_X5_77 vi_X5_stepKind (by first | exact hc0 | exact hd0 | exact hK.at rfl) ⟨by decide, rfl⟩ (Nat.le_of_ble_eq_true rfl) (Nat.zero_le _) (Nat.zero_le _) (Nat.le_of_ble_eq_true rfl) (J_istore_m 2 (pq := 5) dX5_takeStep_4 rfl rfl (Nat.le_of_ble_eq_true rfl) (Nat.le_of_ble_eq_true rfl) rfl (J_iload_n (pq := 6) dX5_takeStep_5 rfl rfl (J_iconst (pq := 7) dX5_takeStep_6 rfl c_iconst_m1 (J_icmp_ne (pq := 10) (tgt := 16) dX5_takeStep_7 rfl rfl (fun c => ?_) (fun c => ?_))))))
  rotate_left
  · have hno : ¬ (6 ≤ tkC t n p ∧ tkC t n p ≤ 10) := fun q => by
      unfold skK at c
      rcases (show tkC t n p = 6 ∨ tkC t n p = 7 ∨ tkC t n p = 8 ∨ tkC t n p = 9 ∨ tkC t n p = 10 by omega) with z | z | z | z | z <;> (rw [z] at c; exact absurd c (by decide))
    refine J_aload_n (pq := 11) dX5_takeStep_10 rfl rfl (J_iconst (pq := 12) dX5_takeStep_11 rfl c_iconst_1 (J_virtF (pq := 15) dX5_takeStep_12 rfl (j_refuse hK hX hT) rfl tg_X5_refuse l_X5_71 vi_X5_refuse (by first | exact hc0 | exact hd0 | exact hK.at rfl) ⟨by decide, rfl⟩ (Nat.le_of_ble_eq_true rfl) (Nat.zero_le _) (Nat.zero_le _) (Nat.le_of_ble_eq_true rfl) (J_iret dX5_takeStep_15 rfl (by first | rfl | exact bi_nar _) ?_)))
    exact StX_f (f := 1) (RcX.rf d h) (by unfold pstep; rw [if_neg hC4, if_neg hno])
  have h610 : 6 ≤ tkC t n p ∧ tkC t n p ≤ 10 := Decidable.byContradiction fun q => by
    apply c
    unfold skK
    rw [if_neg (by omega), if_neg (by omega), if_neg (by omega), if_neg (by omega), if_neg (by omega)]
  have hsk : skK t n p = nI (tkC t n p - 6) := by
    unfold skK
    rcases (show tkC t n p = 6 ∨ tkC t n p = 7 ∨ tkC t n p = 8 ∨ tkC t n p = 9 ∨ tkC t n p = 10 by omega) with z | z | z | z | z <;> (rw [z]; rfl)
  rw [hsk]
  -- too many
  have full : (e = 40 ∨ (8 < tkC t n p ∧ fs.length = 5)) → ∀ a2 a3 a4, J x yX5_takeStep cX5_takeStep 5 (some .boolean) 6 0 0 (StX t n d (pstep t n p fs cur e) h) 51 [some (.ref 8), some (.ref d), a2, a3, a4] [] h := fun hf a2 a3 a4 => by
    refine J_aload_n (pq := 52) dX5_takeStep_51 rfl rfl (J_iconst (pq := 53) dX5_takeStep_52 rfl c_iconst_3 (J_virtF (pq := 56) dX5_takeStep_53 rfl (j_refuse hK hX hT) rfl tg_X5_refuse l_X5_71 vi_X5_refuse (by first | exact hc0 | exact hd0 | exact hK.at rfl) ⟨by decide, rfl⟩ (Nat.le_of_ble_eq_true rfl) (Nat.zero_le _) (Nat.zero_le _) (Nat.le_of_ble_eq_true rfl) (J_iret dX5_takeStep_56 rfl (by first | rfl | exact bi_nar _) ?_)))
    exact StX_f (f := 3) (RcX.rf d h) (by unfold pstep; rw [if_neg hC4, if_pos h610, if_pos hf])
  -- a step is added
  have add : ¬ (e = 40 ∨ (8 < tkC t n p ∧ fs.length = 5)) → ∀ v3 : Int32, J x yX5_takeStep cX5_takeStep 5 (some .boolean) 6 0 0 (StX t n d (pstep t n p fs cur e) h) 57 [some (.ref 8), some (.ref d), some (.int (nI (tkC t n p - 6))), some (.int v3), none] [] h := fun hf v3 => by
    have he40 : e < 40 := by omega
    generalize hG : xTok (aSt h d e (nI (tkC t n p - 6))) t n (tkE t n p) = G
    have hGF : RcX d h G := by rw [← hG]; exact aSt_F.tok t n _
    have hGT : XT G t n (tkE t n p) := by rw [← hG]; exact xTok_T
    have hKG : Kin G := hK.of2 hGF.1
    have hXG : XR G := hX.of3 (by rw [hGF.1])
    have o : ∀ a b, ¬ (a = 8 ∧ 2 ≤ b ∧ b ≤ 4) → gi G a b = gi (aSt h d e (nI (tkC t n p - 6))) a b := fun a b q => by rw [← hG]; exact xTok_o q
    have hCG : RKc G d (e + 1) := ⟨hC.1.of3 (by rw [hGF.1]), by rw [o _ _ (by omega)]; exact aSt_r.2.2.2, by omega⟩
    have hnG : gi G 1 1 = nI n := by rw [hGF.2 _ _ (by omega) (by omega) (by omega) (by omega) (by omega)]; exact hn
    have htG : gi G 2 = t := by rw [← ht]; funext j; exact hGF.2 _ _ (by omega) (by omega) (by omega) (by omega) (by omega)
    have g87 : gi G 8 7 = nI fs.length := by rw [o _ _ (by omega), aSt_o (by omega) (by omega)]; exact h87
    have gr1 : gi G (d + 1) e = nI (tkC t n p - 6) := by rw [o _ _ (by omega)]; exact aSt_r.1
    have gr2 : gi G (d + 2) e = 0 := by rw [o _ _ (by omega)]; exact aSt_r.2.1
    have gr4 : gi G (d + 4) e = nI (e + 1) := by rw [o _ _ (by omega)]; exact aSt_r.2.2.1
    have grk : ∀ k, k < e → gi G (d + 1) k = gi h (d + 1) k ∧ gi G (d + 2) k = gi h (d + 2) k ∧ gi G (d + 3) k = gi h (d + 3) k ∧ gi G (d + 4) k = gi h (d + 4) k := fun k hk => ⟨by rw [o _ _ (by omega), aSt_o (by omega) (by omega)], by rw [o _ _ (by omega), aSt_o (by omega) (by omega)], by rw [o _ _ (by omega), aSt_o (by omega) (by omega)], by rw [o _ _ (by omega), aSt_o (by omega) (by omega)]⟩
    have gu : ∀ u, gi G 9 u = gi h 9 u ∧ gi G 10 u = gi h 10 u := fun u => ⟨by rw [o _ _ (by omega), aSt_o (by omega) (by omega)], by rw [o _ _ (by omega), aSt_o (by omega) (by omega)]⟩
    -- a plain step's end: the heap behind it
    have leaf : ∀ g k m p', RcX d h g → (∀ a b, a ≠ 8 → ¬ (a = d + 2 ∧ b = e) → gi g a b = gi G a b) → gi g (d + 2) e = nI m → gi g 8 7 = nI fs.length → tkC t n p - 6 = k → p' ≤ n → XT g t n p' → pstep t n p fs cur e = .inr (p', fs, papp cur (pL k m pN), e + 1) → gi g 4 0 = gi h 4 0 → gi g 4 1 = gi h 4 1 → StX t n d (pstep t n p fs cur e) h (some (.int 1)) g := fun g k m p' q1 q2 q3 q4 q5 q6 q7 q8 q9 q10 => by
      have hDZ : DZ (gi g) d fs (papp cur (pL k m pN)) (e + 1) := by
        refine DZ_app (e := e) fs cur hFO hPG (DZ_congr fs cur e hFO hPG (fun j hj => ?_) (fun u hu => ?_) hZ) ⟨?_, q3, ?_, rfl⟩
        · have := grk j hj
          exact ⟨by rw [q2 _ _ (by omega) (by omega)]; exact this.1, by rw [q2 _ _ (by omega) (by omega)]; exact this.2.1, by rw [q2 _ _ (by omega) (by omega)]; exact this.2.2.1, by rw [q2 _ _ (by omega) (by omega)]; exact this.2.2.2⟩
        · exact ⟨by rw [q2 _ _ (by omega) (by omega)]; exact (gu u).1, by rw [q2 _ _ (by omega) (by omega)]; exact (gu u).2⟩
        · rw [q2 _ _ (by omega) (by omega), gr1, q5]
        · rw [q2 _ _ (by omega) (by omega)]; exact gr4
      have hXP := XP_new hP0 q8 q1 (by rw [q2 _ _ (by omega) (by omega)]; exact hCG.2.1) q6 q7 q4 hDZ
      rw [q8]
      exact ⟨q1, rfl, q9, q10, hXP⟩
    -- an opened block
    have opened : ∀ g part num p', (part = 0 ∧ tkC t n p = 9 ∧ gi g (d + 2) e = nI num) ∨ (part = 1 ∧ tkC t n p = 10 ∧ num = 0) → RcX d h g → (∀ a b, a ≠ 8 → ¬ (a = d + 2 ∧ b = e) → ¬ ((a = 9 ∨ a = 10) ∧ b = fs.length) → gi g a b = gi G a b) → gi g 9 fs.length = nI e → gi g 10 fs.length = bi (decide (part = 1)) → gi g 8 7 = nI (fs.length + 1) → p' ≤ n → XT g t n p' → pstep t n p fs cur e = .inr (p', (cur, part, num, pN) :: fs, pN, e + 1) → gi g 4 0 = gi h 4 0 → gi g 4 1 = gi h 4 1 → StX t n d (pstep t n p fs cur e) h (some (.int 1)) g := fun g part num p' q0 q1 q2 q3 q3' q4 q6 q7 q8 q9 q10 => by
      have hDZ : DZ (gi g) d ((cur, part, num, pN) :: fs) pN (e + 1) := by
        refine ⟨e, DZ_congr fs cur e hFO hPG (fun j hj => ?_) (fun u hu => ?_) hZ, q3, q3', ?_⟩
        · have := grk j hj
          exact ⟨by rw [q2 _ _ (by omega) (by omega) (by omega)]; exact this.1, by rw [q2 _ _ (by omega) (by omega) (by omega)]; exact this.2.1, by rw [q2 _ _ (by omega) (by omega) (by omega)]; exact this.2.2.1, by rw [q2 _ _ (by omega) (by omega) (by omega)]; exact this.2.2.2⟩
        · exact ⟨by rw [q2 _ _ (by omega) (by omega) (by omega)]; exact (gu u).1, by rw [q2 _ _ (by omega) (by omega) (by omega)]; exact (gu u).2⟩
        · have g1 : gi g (d + 1) e = nI (tkC t n p - 6) := by rw [q2 _ _ (by omega) (by omega) (by omega)]; exact gr1
          rcases q0 with ⟨z1, z2, z3⟩ | ⟨z1, z2, z3⟩
          · exact Or.inl ⟨z1, by rw [g1, z2], z3, rfl⟩
          · exact Or.inr (Or.inl ⟨z1, by rw [g1, z2], rfl⟩)
      have hXP := XP_new hP0 q8 q1 (by rw [q2 _ _ (by omega) (by omega) (by omega)]; exact hCG.2.1) q6 q7 q4 hDZ
      rw [q8]
      exact ⟨q1, rfl, q9, q10, hXP⟩
    have fnd : ∀ b, gi G 4 b = gi h 4 b := fun b => by rw [o _ _ (by omega), aSt_o (by omega) (by omega)]
    have hA1 : RcX d h (aSt h d e (nI (tkC t n p - 6))) := aSt_F
    have hKA : Kin (aSt h d e (nI (tkC t n p - 6))) := hK
    have hXA : XR (aSt h d e (nI (tkC t n p - 6))) := hX
    have hnA : gi (aSt h d e (nI (tkC t n p - 6))) 1 1 = nI n := by rw [aSt_o (by omega) (by omega)]; exact hn
    have htA : gi (aSt h d e (nI (tkC t n p - 6))) 2 = t := by rw [← ht]; funext j; rw [aSt_o (by omega) (by omega)]
    have h84A : gi (aSt h d e (nI (tkC t n p - 6))) 8 4 = nI (tkE t n p) := by rw [aSt_o (by omega) (by omega)]; exact hT.2.2
    refine J_aload_n (pq := 58) dX5_takeStep_57 rfl rfl (J_iload_n (pq := 59) dX5_takeStep_58 rfl rfl (J_virtF (pq := 62) dX5_takeStep_59 rfl (j_addStep hC he40) rfl tg_X4_addStep l_X5_84 vi_X4_addStep hd0 ⟨by decide, rfl⟩ (Nat.le_of_ble_eq_true rfl) (Nat.zero_le _) (Nat.zero_le _) (Nat.le_of_ble_eq_true rfl) (J_istore (pq := 64) dX5_takeStep_62 rfl (Nat.le_of_ble_eq_true rfl) (Nat.le_of_ble_eq_true rfl) rfl (?_))))
    refine J_aload_n (pq := 65) dX5_takeStep_64 rfl rfl (J_virtF (pq := 68) dX5_takeStep_65 rfl (j_next hKA hXA hnA (by omega) htA hb0.2.1 h84A) rfl tg_X5_nextToken l_X5_54 vi_X5_nextToken (hKA.at rfl) ⟨by decide, rfl⟩ (Nat.le_of_ble_eq_true rfl) (Nat.zero_le _) (Nat.zero_le _) (Nat.le_of_ble_eq_true rfl) (?_))
    rw [hG]
    refine J_iload_n (pq := 69) dX5_takeStep_68 rfl rfl (?_)
    rcases (show tkC t n p = 6 ∨ tkC t n p = 7 ∨ tkC t n p = 8 ∨ tkC t n p = 9 ∨ tkC t n p = 10 by omega) with z | z | z | z | z
    · have hnum := j_takeNum (x := x) (i := e) (lo := 0) (hi := 30) hKG hXG hCG (by omega) hd1 hnG (by omega) htG hby hb0.2.1 hGT (by omega) (by omega)
      rw [z]
      refine J_tabIn (tgt := 100) dX5_takeStep_69 (by decide) (by decide) rfl rfl ?_
      by_cases hc1 : tkC t n (tkE t n p) = 1
      rotate_left
      · rw [if_neg hc1, decide_eq_false (fun q => hc1 q.1)] at hnum
        refine J_aload_n (pq := 101) dX5_takeStep_100 rfl rfl (J_aload_n (pq := 102) dX5_takeStep_101 rfl rfl (J_iload (pq := 104) dX5_takeStep_102 rfl rfl (J_iconst (pq := 105) dX5_takeStep_104 rfl c_iconst_0 (J_bipush (pq := 107) dX5_takeStep_105 rfl c_bipush_30 (J_virtF (pq := 110) dX5_takeStep_107 rfl (hnum) rfl tg_X5_takeNumber l_X5_88 vi_X5_takeNumber (hKG.at rfl) ⟨by decide, rfl⟩ (Nat.le_of_ble_eq_true rfl) (Nat.zero_le _) (Nat.zero_le _) (Nat.le_of_ble_eq_true rfl) (J_if_eq (pq := 113) (tgt := 126) dX5_takeStep_110 rfl rfl (fun c => ?_) (fun c => ?_)))))))
        rotate_left
        · exact absurd rfl c
        refine J_iconst (pq := 127) dX5_takeStep_126 rfl c_iconst_0 (J_iret dX5_takeStep_127 rfl (by first | rfl | exact bi_nar _) ?_)
        exact StX_f (f := 1) hGF (by unfold pstep; rw [if_neg hC4, if_pos h610, if_neg hf, if_neg (by omega), if_neg (by omega), if_neg hc1])
      rw [if_pos hc1] at hnum
      by_cases hcN : 0 ≤ tkN t n (tkE t n p) ∧ tkN t n (tkE t n p) ≤ 30
      rotate_left
      · rw [if_neg hcN, decide_eq_false (fun q => hcN q.2)] at hnum
        refine J_aload_n (pq := 101) dX5_takeStep_100 rfl rfl (J_aload_n (pq := 102) dX5_takeStep_101 rfl rfl (J_iload (pq := 104) dX5_takeStep_102 rfl rfl (J_iconst (pq := 105) dX5_takeStep_104 rfl c_iconst_0 (J_bipush (pq := 107) dX5_takeStep_105 rfl c_bipush_30 (J_virtF (pq := 110) dX5_takeStep_107 rfl (hnum) rfl tg_X5_takeNumber l_X5_88 vi_X5_takeNumber (hKG.at rfl) ⟨by decide, rfl⟩ (Nat.le_of_ble_eq_true rfl) (Nat.zero_le _) (Nat.zero_le _) (Nat.le_of_ble_eq_true rfl) (J_if_eq (pq := 113) (tgt := 126) dX5_takeStep_110 rfl rfl (fun c => ?_) (fun c => ?_)))))))
        rotate_left
        · exact absurd rfl c
        refine J_iconst (pq := 127) dX5_takeStep_126 rfl c_iconst_0 (J_iret dX5_takeStep_127 rfl (by first | rfl | exact bi_nar _) ?_)
        refine StX_f (f := 2) hGF ?_
        have hno : ¬ ((tkC t n p = 6 ∧ tkN t n (tkE t n p) ≤ 30) ∨ (¬ tkC t n p = 6 ∧ 1 ≤ tkN t n (tkE t n p) ∧ tkN t n (tkE t n p) ≤ 50)) := by omega
        unfold pstep
        rw [if_neg hC4, if_pos h610, if_neg hf, if_neg (by omega), if_neg (by omega), if_pos hc1]
        exact if_neg hno
      rw [if_pos hcN, decide_eq_true ⟨hc1, hcN⟩] at hnum
      have hyes : (tkC t n p = 6 ∧ tkN t n (tkE t n p) ≤ 30) ∨ (¬ tkC t n p = 6 ∧ 1 ≤ tkN t n (tkE t n p) ∧ tkN t n (tkE t n p) ≤ 50) := by omega
      generalize hG2 : xTok (si G (d + 2) e (nI (tkN t n (tkE t n p)))) t n (tkE t n (tkE t n p)) = G2 at hnum
      have o2 : ∀ a b, ¬ (a = 8 ∧ 2 ≤ b ∧ b ≤ 4) → ¬ (a = d + 2 ∧ b = e) → gi G2 a b = gi G a b := fun a b q1 q2 => by rw [← hG2, xTok_o q1, gi_si, if_neg q2]
      have g2n : gi G2 (d + 2) e = nI (tkN t n (tkE t n p)) := by rw [← hG2, xTok_o (by omega), gi_si, if_pos ⟨rfl, rfl⟩]
      have hF2 : RcX d h G2 := by rw [← hG2]; exact (hGF.si (Or.inr (Or.inr (Or.inr (Or.inr ⟨by omega, by omega⟩))))).tok t n _
      have hT2 : XT G2 t n (tkE t n (tkE t n p)) := by rw [← hG2]; exact xTok_T
      have hK2 : Kin G2 := hK.of2 hF2.1
      have hX2 : XR G2 := hX.of3 (by rw [hF2.1])
      have hn2 : gi G2 1 1 = nI n := by rw [o2 _ _ (by omega) (by omega)]; exact hnG
      have ht2 : gi G2 2 = t := by rw [← htG]; funext j; exact o2 _ _ (by omega) (by omega)
      have hsg := j_takeSign (x := x) (s := 59) (Or.inl rfl) hK2 hX2 hn2 (by omega) ht2 hby hb1.2.1 hT2
      rw [show sgC 59 = 2 from rfl] at hsg
      by_cases hc2 : tkC t n (tkE t n (tkE t n p)) = 2
      · rw [if_pos hc2, decide_eq_true hc2] at hsg
        refine J_aload_n (pq := 101) dX5_takeStep_100 rfl rfl (J_aload_n (pq := 102) dX5_takeStep_101 rfl rfl (J_iload (pq := 104) dX5_takeStep_102 rfl rfl (J_iconst (pq := 105) dX5_takeStep_104 rfl c_iconst_0 (J_bipush (pq := 107) dX5_takeStep_105 rfl c_bipush_30 (J_virtF (pq := 110) dX5_takeStep_107 rfl (hnum) rfl tg_X5_takeNumber l_X5_88 vi_X5_takeNumber (hKG.at rfl) ⟨by decide, rfl⟩ (Nat.le_of_ble_eq_true rfl) (Nat.zero_le _) (Nat.zero_le _) (Nat.le_of_ble_eq_true rfl) (J_if_eq (pq := 113) (tgt := 126) dX5_takeStep_110 rfl rfl (fun c => ?_) (fun c => ?_)))))))
        · exact absurd c (by decide)
        refine J_aload_n (pq := 114) dX5_takeStep_113 rfl rfl (J_bipush (pq := 116) dX5_takeStep_114 rfl c_bipush_59 (J_virtF (pq := 119) dX5_takeStep_116 rfl (hsg) rfl tg_X5_takeSign l_X5_92 vi_X5_takeSign (hK2.at rfl) ⟨by decide, rfl⟩ (Nat.le_of_ble_eq_true rfl) (Nat.zero_le _) (Nat.zero_le _) (Nat.le_of_ble_eq_true rfl) (J_if_eq (pq := 122) (tgt := 126) dX5_takeStep_119 rfl rfl (fun c => ?_) (fun c => ?_))))
        · exact absurd c (by decide)
        refine J_iconst (pq := 123) dX5_takeStep_122 rfl c_iconst_1 (J_goto (tgt := 127) dX5_takeStep_123 rfl (J_iret dX5_takeStep_127 rfl (by first | rfl | exact bi_nar _) ?_))
        refine leaf _ 0 (tkN t n (tkE t n p)) _ (hF2.tok t n _) (fun a b q1 q2 => by rw [xTok_o (fun q => q1 q.1), o2 a b (fun q => q1 q.1) q2]) (by rw [xTok_o (by omega)]; exact g2n) (by rw [xTok_o (by omega), o2 _ _ (by omega) (by omega)]; exact g87) (by omega) hb2.2.1 xTok_T ?_ (by rw [xTok_o (by omega), o2 _ _ (by omega) (by omega)]; exact fnd 0) (by rw [xTok_o (by omega), o2 _ _ (by omega) (by omega)]; exact fnd 1)
        unfold pstep
        rw [if_neg hC4, if_pos h610, if_neg hf, if_neg (by omega), if_neg (by omega), if_pos hc1]
        refine (if_pos hyes).trans ?_
        rw [if_neg (by omega), if_pos hc2, z]
        rfl
      · rw [if_neg hc2, decide_eq_false hc2] at hsg
        refine J_aload_n (pq := 101) dX5_takeStep_100 rfl rfl (J_aload_n (pq := 102) dX5_takeStep_101 rfl rfl (J_iload (pq := 104) dX5_takeStep_102 rfl rfl (J_iconst (pq := 105) dX5_takeStep_104 rfl c_iconst_0 (J_bipush (pq := 107) dX5_takeStep_105 rfl c_bipush_30 (J_virtF (pq := 110) dX5_takeStep_107 rfl (hnum) rfl tg_X5_takeNumber l_X5_88 vi_X5_takeNumber (hKG.at rfl) ⟨by decide, rfl⟩ (Nat.le_of_ble_eq_true rfl) (Nat.zero_le _) (Nat.zero_le _) (Nat.le_of_ble_eq_true rfl) (J_if_eq (pq := 113) (tgt := 126) dX5_takeStep_110 rfl rfl (fun c => ?_) (fun c => ?_)))))))
        · exact absurd c (by decide)
        refine J_aload_n (pq := 114) dX5_takeStep_113 rfl rfl (J_bipush (pq := 116) dX5_takeStep_114 rfl c_bipush_59 (J_virtF (pq := 119) dX5_takeStep_116 rfl (hsg) rfl tg_X5_takeSign l_X5_92 vi_X5_takeSign (hK2.at rfl) ⟨by decide, rfl⟩ (Nat.le_of_ble_eq_true rfl) (Nat.zero_le _) (Nat.zero_le _) (Nat.le_of_ble_eq_true rfl) (J_if_eq (pq := 122) (tgt := 126) dX5_takeStep_119 rfl rfl (fun c => ?_) (fun c => ?_))))
        rotate_left
        · exact absurd rfl c
        refine J_iconst (pq := 127) dX5_takeStep_126 rfl c_iconst_0 (J_iret dX5_takeStep_127 rfl (by first | rfl | exact bi_nar _) ?_)
        refine StX_f (f := 1) hF2 ?_
        unfold pstep
        rw [if_neg hC4, if_pos h610, if_neg hf, if_neg (by omega), if_neg (by omega), if_pos hc1]
        refine (if_pos hyes).trans ?_
        rw [if_neg (by omega), if_neg hc2]
    · have hnum := j_takeNum (x := x) (i := e) (lo := 1) (hi := 50) hKG hXG hCG (by omega) hd1 hnG (by omega) htG hby hb0.2.1 hGT (by omega) (by omega)
      rw [z]
      refine J_tabIn (tgt := 128) dX5_takeStep_69 (by decide) (by decide) rfl rfl ?_
      by_cases hc1 : tkC t n (tkE t n p) = 1
      rotate_left
      · rw [if_neg hc1, decide_eq_false (fun q => hc1 q.1)] at hnum
        refine J_aload_n (pq := 129) dX5_takeStep_128 rfl rfl (J_aload_n (pq := 130) dX5_takeStep_129 rfl rfl (J_iload (pq := 132) dX5_takeStep_130 rfl rfl (J_iconst (pq := 133) dX5_takeStep_132 rfl c_iconst_1 (J_bipush (pq := 135) dX5_takeStep_133 rfl c_bipush_50 (J_virtF (pq := 138) dX5_takeStep_135 rfl (hnum) rfl tg_X5_takeNumber l_X5_88 vi_X5_takeNumber (hKG.at rfl) ⟨by decide, rfl⟩ (Nat.le_of_ble_eq_true rfl) (Nat.zero_le _) (Nat.zero_le _) (Nat.le_of_ble_eq_true rfl) (J_if_eq (pq := 141) (tgt := 154) dX5_takeStep_138 rfl rfl (fun c => ?_) (fun c => ?_)))))))
        rotate_left
        · exact absurd rfl c
        refine J_iconst (pq := 155) dX5_takeStep_154 rfl c_iconst_0 (J_iret dX5_takeStep_155 rfl (by first | rfl | exact bi_nar _) ?_)
        exact StX_f (f := 1) hGF (by unfold pstep; rw [if_neg hC4, if_pos h610, if_neg hf, if_neg (by omega), if_neg (by omega), if_neg hc1])
      rw [if_pos hc1] at hnum
      by_cases hcN : 1 ≤ tkN t n (tkE t n p) ∧ tkN t n (tkE t n p) ≤ 50
      rotate_left
      · rw [if_neg hcN, decide_eq_false (fun q => hcN q.2)] at hnum
        refine J_aload_n (pq := 129) dX5_takeStep_128 rfl rfl (J_aload_n (pq := 130) dX5_takeStep_129 rfl rfl (J_iload (pq := 132) dX5_takeStep_130 rfl rfl (J_iconst (pq := 133) dX5_takeStep_132 rfl c_iconst_1 (J_bipush (pq := 135) dX5_takeStep_133 rfl c_bipush_50 (J_virtF (pq := 138) dX5_takeStep_135 rfl (hnum) rfl tg_X5_takeNumber l_X5_88 vi_X5_takeNumber (hKG.at rfl) ⟨by decide, rfl⟩ (Nat.le_of_ble_eq_true rfl) (Nat.zero_le _) (Nat.zero_le _) (Nat.le_of_ble_eq_true rfl) (J_if_eq (pq := 141) (tgt := 154) dX5_takeStep_138 rfl rfl (fun c => ?_) (fun c => ?_)))))))
        rotate_left
        · exact absurd rfl c
        refine J_iconst (pq := 155) dX5_takeStep_154 rfl c_iconst_0 (J_iret dX5_takeStep_155 rfl (by first | rfl | exact bi_nar _) ?_)
        refine StX_f (f := 2) hGF ?_
        have hno : ¬ ((tkC t n p = 6 ∧ tkN t n (tkE t n p) ≤ 30) ∨ (¬ tkC t n p = 6 ∧ 1 ≤ tkN t n (tkE t n p) ∧ tkN t n (tkE t n p) ≤ 50)) := by omega
        unfold pstep
        rw [if_neg hC4, if_pos h610, if_neg hf, if_neg (by omega), if_neg (by omega), if_pos hc1]
        exact if_neg hno
      rw [if_pos hcN, decide_eq_true ⟨hc1, hcN⟩] at hnum
      have hyes : (tkC t n p = 6 ∧ tkN t n (tkE t n p) ≤ 30) ∨ (¬ tkC t n p = 6 ∧ 1 ≤ tkN t n (tkE t n p) ∧ tkN t n (tkE t n p) ≤ 50) := by omega
      generalize hG2 : xTok (si G (d + 2) e (nI (tkN t n (tkE t n p)))) t n (tkE t n (tkE t n p)) = G2 at hnum
      have o2 : ∀ a b, ¬ (a = 8 ∧ 2 ≤ b ∧ b ≤ 4) → ¬ (a = d + 2 ∧ b = e) → gi G2 a b = gi G a b := fun a b q1 q2 => by rw [← hG2, xTok_o q1, gi_si, if_neg q2]
      have g2n : gi G2 (d + 2) e = nI (tkN t n (tkE t n p)) := by rw [← hG2, xTok_o (by omega), gi_si, if_pos ⟨rfl, rfl⟩]
      have hF2 : RcX d h G2 := by rw [← hG2]; exact (hGF.si (Or.inr (Or.inr (Or.inr (Or.inr ⟨by omega, by omega⟩))))).tok t n _
      have hT2 : XT G2 t n (tkE t n (tkE t n p)) := by rw [← hG2]; exact xTok_T
      have hK2 : Kin G2 := hK.of2 hF2.1
      have hX2 : XR G2 := hX.of3 (by rw [hF2.1])
      have hn2 : gi G2 1 1 = nI n := by rw [o2 _ _ (by omega) (by omega)]; exact hnG
      have ht2 : gi G2 2 = t := by rw [← htG]; funext j; exact o2 _ _ (by omega) (by omega)
      have hsg := j_takeSign (x := x) (s := 59) (Or.inl rfl) hK2 hX2 hn2 (by omega) ht2 hby hb1.2.1 hT2
      rw [show sgC 59 = 2 from rfl] at hsg
      by_cases hc2 : tkC t n (tkE t n (tkE t n p)) = 2
      · rw [if_pos hc2, decide_eq_true hc2] at hsg
        refine J_aload_n (pq := 129) dX5_takeStep_128 rfl rfl (J_aload_n (pq := 130) dX5_takeStep_129 rfl rfl (J_iload (pq := 132) dX5_takeStep_130 rfl rfl (J_iconst (pq := 133) dX5_takeStep_132 rfl c_iconst_1 (J_bipush (pq := 135) dX5_takeStep_133 rfl c_bipush_50 (J_virtF (pq := 138) dX5_takeStep_135 rfl (hnum) rfl tg_X5_takeNumber l_X5_88 vi_X5_takeNumber (hKG.at rfl) ⟨by decide, rfl⟩ (Nat.le_of_ble_eq_true rfl) (Nat.zero_le _) (Nat.zero_le _) (Nat.le_of_ble_eq_true rfl) (J_if_eq (pq := 141) (tgt := 154) dX5_takeStep_138 rfl rfl (fun c => ?_) (fun c => ?_)))))))
        · exact absurd c (by decide)
        refine J_aload_n (pq := 142) dX5_takeStep_141 rfl rfl (J_bipush (pq := 144) dX5_takeStep_142 rfl c_bipush_59 (J_virtF (pq := 147) dX5_takeStep_144 rfl (hsg) rfl tg_X5_takeSign l_X5_92 vi_X5_takeSign (hK2.at rfl) ⟨by decide, rfl⟩ (Nat.le_of_ble_eq_true rfl) (Nat.zero_le _) (Nat.zero_le _) (Nat.le_of_ble_eq_true rfl) (J_if_eq (pq := 150) (tgt := 154) dX5_takeStep_147 rfl rfl (fun c => ?_) (fun c => ?_))))
        · exact absurd c (by decide)
        refine J_iconst (pq := 151) dX5_takeStep_150 rfl c_iconst_1 (J_goto (tgt := 155) dX5_takeStep_151 rfl (J_iret dX5_takeStep_155 rfl (by first | rfl | exact bi_nar _) ?_))
        refine leaf _ 1 (tkN t n (tkE t n p)) _ (hF2.tok t n _) (fun a b q1 q2 => by rw [xTok_o (fun q => q1 q.1), o2 a b (fun q => q1 q.1) q2]) (by rw [xTok_o (by omega)]; exact g2n) (by rw [xTok_o (by omega), o2 _ _ (by omega) (by omega)]; exact g87) (by omega) hb2.2.1 xTok_T ?_ (by rw [xTok_o (by omega), o2 _ _ (by omega) (by omega)]; exact fnd 0) (by rw [xTok_o (by omega), o2 _ _ (by omega) (by omega)]; exact fnd 1)
        unfold pstep
        rw [if_neg hC4, if_pos h610, if_neg hf, if_neg (by omega), if_neg (by omega), if_pos hc1]
        refine (if_pos hyes).trans ?_
        rw [if_neg (by omega), if_pos hc2, z]
        rfl
      · rw [if_neg hc2, decide_eq_false hc2] at hsg
        refine J_aload_n (pq := 129) dX5_takeStep_128 rfl rfl (J_aload_n (pq := 130) dX5_takeStep_129 rfl rfl (J_iload (pq := 132) dX5_takeStep_130 rfl rfl (J_iconst (pq := 133) dX5_takeStep_132 rfl c_iconst_1 (J_bipush (pq := 135) dX5_takeStep_133 rfl c_bipush_50 (J_virtF (pq := 138) dX5_takeStep_135 rfl (hnum) rfl tg_X5_takeNumber l_X5_88 vi_X5_takeNumber (hKG.at rfl) ⟨by decide, rfl⟩ (Nat.le_of_ble_eq_true rfl) (Nat.zero_le _) (Nat.zero_le _) (Nat.le_of_ble_eq_true rfl) (J_if_eq (pq := 141) (tgt := 154) dX5_takeStep_138 rfl rfl (fun c => ?_) (fun c => ?_)))))))
        · exact absurd c (by decide)
        refine J_aload_n (pq := 142) dX5_takeStep_141 rfl rfl (J_bipush (pq := 144) dX5_takeStep_142 rfl c_bipush_59 (J_virtF (pq := 147) dX5_takeStep_144 rfl (hsg) rfl tg_X5_takeSign l_X5_92 vi_X5_takeSign (hK2.at rfl) ⟨by decide, rfl⟩ (Nat.le_of_ble_eq_true rfl) (Nat.zero_le _) (Nat.zero_le _) (Nat.le_of_ble_eq_true rfl) (J_if_eq (pq := 150) (tgt := 154) dX5_takeStep_147 rfl rfl (fun c => ?_) (fun c => ?_))))
        rotate_left
        · exact absurd rfl c
        refine J_iconst (pq := 155) dX5_takeStep_154 rfl c_iconst_0 (J_iret dX5_takeStep_155 rfl (by first | rfl | exact bi_nar _) ?_)
        refine StX_f (f := 1) hF2 ?_
        unfold pstep
        rw [if_neg hC4, if_pos h610, if_neg hf, if_neg (by omega), if_neg (by omega), if_pos hc1]
        refine (if_pos hyes).trans ?_
        rw [if_neg (by omega), if_neg hc2]
    · have hsg := j_takeSign (x := x) (s := 59) (Or.inl rfl) hKG hXG hnG (by omega) htG hby hb0.2.1 hGT
      rw [show sgC 59 = 2 from rfl] at hsg
      rw [z]
      refine J_tabIn (tgt := 156) dX5_takeStep_69 (by decide) (by decide) rfl rfl ?_
      by_cases hc2 : tkC t n (tkE t n p) = 2
      · rw [if_pos hc2, decide_eq_true hc2] at hsg
        refine J_aload_n (pq := 157) dX5_takeStep_156 rfl rfl (J_bipush (pq := 159) dX5_takeStep_157 rfl c_bipush_59 (J_virtF (pq := 162) dX5_takeStep_159 rfl (hsg) rfl tg_X5_takeSign l_X5_92 vi_X5_takeSign (hKG.at rfl) ⟨by decide, rfl⟩ (Nat.le_of_ble_eq_true rfl) (Nat.zero_le _) (Nat.zero_le _) (Nat.le_of_ble_eq_true rfl) (J_iret dX5_takeStep_162 rfl (by first | rfl | exact bi_nar _) ?_)))
        refine leaf _ 2 0 _ (hGF.tok t n _) (fun a b q1 q2 => by rw [xTok_o (fun q => q1 q.1)]) (by rw [xTok_o (by omega), gr2]; rfl) (by rw [xTok_o (by omega)]; exact g87) (by omega) hb1.2.1 xTok_T ?_ (by rw [xTok_o (by omega)]; exact fnd 0) (by rw [xTok_o (by omega)]; exact fnd 1)
        unfold pstep
        rw [if_neg hC4, if_pos h610, if_neg hf, if_pos z, if_pos hc2]
      · rw [if_neg hc2, decide_eq_false hc2] at hsg
        refine J_aload_n (pq := 157) dX5_takeStep_156 rfl rfl (J_bipush (pq := 159) dX5_takeStep_157 rfl c_bipush_59 (J_virtF (pq := 162) dX5_takeStep_159 rfl (hsg) rfl tg_X5_takeSign l_X5_92 vi_X5_takeSign (hKG.at rfl) ⟨by decide, rfl⟩ (Nat.le_of_ble_eq_true rfl) (Nat.zero_le _) (Nat.zero_le _) (Nat.le_of_ble_eq_true rfl) (J_iret dX5_takeStep_162 rfl (by first | rfl | exact bi_nar _) ?_)))
        exact StX_f (f := 1) hGF (by unfold pstep; rw [if_neg hC4, if_pos h610, if_neg hf, if_pos z, if_neg hc2])
    · have hnum := j_takeNum (x := x) (i := e) (lo := 1) (hi := 50) hKG hXG hCG (by omega) hd1 hnG (by omega) htG hby hb0.2.1 hGT (by omega) (by omega)
      rw [z]
      refine J_tabIn (tgt := 163) dX5_takeStep_69 (by decide) (by decide) rfl rfl ?_
      by_cases hc1 : tkC t n (tkE t n p) = 1
      rotate_left
      · rw [if_neg hc1, decide_eq_false (fun q => hc1 q.1)] at hnum
        refine J_aload_n (pq := 164) dX5_takeStep_163 rfl rfl (J_aload_n (pq := 165) dX5_takeStep_164 rfl rfl (J_iload (pq := 167) dX5_takeStep_165 rfl rfl (J_iconst (pq := 168) dX5_takeStep_167 rfl c_iconst_1 (J_bipush (pq := 170) dX5_takeStep_168 rfl c_bipush_50 (J_virtF (pq := 173) dX5_takeStep_170 rfl (hnum) rfl tg_X5_takeNumber l_X5_88 vi_X5_takeNumber (hKG.at rfl) ⟨by decide, rfl⟩ (Nat.le_of_ble_eq_true rfl) (Nat.zero_le _) (Nat.zero_le _) (Nat.le_of_ble_eq_true rfl) (J_if_eq (pq := 176) (tgt := 190) dX5_takeStep_173 rfl rfl (fun c => ?_) (fun c => ?_)))))))
        rotate_left
        · exact absurd rfl c
        refine J_iconst (pq := 191) dX5_takeStep_190 rfl c_iconst_0 (J_iret dX5_takeStep_191 rfl (by first | rfl | exact bi_nar _) ?_)
        exact StX_f (f := 1) hGF (by unfold pstep; rw [if_neg hC4, if_pos h610, if_neg hf, if_neg (by omega), if_neg (by omega), if_neg hc1])
      rw [if_pos hc1] at hnum
      by_cases hcN : 1 ≤ tkN t n (tkE t n p) ∧ tkN t n (tkE t n p) ≤ 50
      rotate_left
      · rw [if_neg hcN, decide_eq_false (fun q => hcN q.2)] at hnum
        refine J_aload_n (pq := 164) dX5_takeStep_163 rfl rfl (J_aload_n (pq := 165) dX5_takeStep_164 rfl rfl (J_iload (pq := 167) dX5_takeStep_165 rfl rfl (J_iconst (pq := 168) dX5_takeStep_167 rfl c_iconst_1 (J_bipush (pq := 170) dX5_takeStep_168 rfl c_bipush_50 (J_virtF (pq := 173) dX5_takeStep_170 rfl (hnum) rfl tg_X5_takeNumber l_X5_88 vi_X5_takeNumber (hKG.at rfl) ⟨by decide, rfl⟩ (Nat.le_of_ble_eq_true rfl) (Nat.zero_le _) (Nat.zero_le _) (Nat.le_of_ble_eq_true rfl) (J_if_eq (pq := 176) (tgt := 190) dX5_takeStep_173 rfl rfl (fun c => ?_) (fun c => ?_)))))))
        rotate_left
        · exact absurd rfl c
        refine J_iconst (pq := 191) dX5_takeStep_190 rfl c_iconst_0 (J_iret dX5_takeStep_191 rfl (by first | rfl | exact bi_nar _) ?_)
        refine StX_f (f := 2) hGF ?_
        have hno : ¬ ((tkC t n p = 6 ∧ tkN t n (tkE t n p) ≤ 30) ∨ (¬ tkC t n p = 6 ∧ 1 ≤ tkN t n (tkE t n p) ∧ tkN t n (tkE t n p) ≤ 50)) := by omega
        unfold pstep
        rw [if_neg hC4, if_pos h610, if_neg hf, if_neg (by omega), if_neg (by omega), if_pos hc1]
        exact if_neg hno
      rw [if_pos hcN, decide_eq_true ⟨hc1, hcN⟩] at hnum
      have hyes : (tkC t n p = 6 ∧ tkN t n (tkE t n p) ≤ 30) ∨ (¬ tkC t n p = 6 ∧ 1 ≤ tkN t n (tkE t n p) ∧ tkN t n (tkE t n p) ≤ 50) := by omega
      generalize hG2 : xTok (si G (d + 2) e (nI (tkN t n (tkE t n p)))) t n (tkE t n (tkE t n p)) = G2 at hnum
      have o2 : ∀ a b, ¬ (a = 8 ∧ 2 ≤ b ∧ b ≤ 4) → ¬ (a = d + 2 ∧ b = e) → gi G2 a b = gi G a b := fun a b q1 q2 => by rw [← hG2, xTok_o q1, gi_si, if_neg q2]
      have g2n : gi G2 (d + 2) e = nI (tkN t n (tkE t n p)) := by rw [← hG2, xTok_o (by omega), gi_si, if_pos ⟨rfl, rfl⟩]
      have hF2 : RcX d h G2 := by rw [← hG2]; exact (hGF.si (Or.inr (Or.inr (Or.inr (Or.inr ⟨by omega, by omega⟩))))).tok t n _
      have hT2 : XT G2 t n (tkE t n (tkE t n p)) := by rw [← hG2]; exact xTok_T
      have hK2 : Kin G2 := hK.of2 hF2.1
      have hX2 : XR G2 := hX.of3 (by rw [hF2.1])
      have hn2 : gi G2 1 1 = nI n := by rw [o2 _ _ (by omega) (by omega)]; exact hnG
      have ht2 : gi G2 2 = t := by rw [← htG]; funext j; exact o2 _ _ (by omega) (by omega)
      have h872 : gi G2 8 7 = nI fs.length := by rw [o2 _ _ (by omega) (by omega)]; exact g87
      have hop := j_takeOpen (x := x) (i := e) (b := false) hK2 hX2 hn2 (by omega) ht2 hby hb1.2.1 hT2 h872 (by omega)
      by_cases hc2 : tkC t n (tkE t n (tkE t n p)) = 3
      · rw [if_pos hc2, decide_eq_true hc2] at hop
        refine J_aload_n (pq := 164) dX5_takeStep_163 rfl rfl (J_aload_n (pq := 165) dX5_takeStep_164 rfl rfl (J_iload (pq := 167) dX5_takeStep_165 rfl rfl (J_iconst (pq := 168) dX5_takeStep_167 rfl c_iconst_1 (J_bipush (pq := 170) dX5_takeStep_168 rfl c_bipush_50 (J_virtF (pq := 173) dX5_takeStep_170 rfl (hnum) rfl tg_X5_takeNumber l_X5_88 vi_X5_takeNumber (hKG.at rfl) ⟨by decide, rfl⟩ (Nat.le_of_ble_eq_true rfl) (Nat.zero_le _) (Nat.zero_le _) (Nat.le_of_ble_eq_true rfl) (J_if_eq (pq := 176) (tgt := 190) dX5_takeStep_173 rfl rfl (fun c => ?_) (fun c => ?_)))))))
        · exact absurd c (by decide)
        refine J_aload_n (pq := 177) dX5_takeStep_176 rfl rfl (J_iload (pq := 179) dX5_takeStep_177 rfl rfl (J_iconst (pq := 180) dX5_takeStep_179 rfl c_iconst_0 (J_virtF (pq := 183) dX5_takeStep_180 rfl (hop) rfl tg_X5_takeOpening l_X5_95 vi_X5_takeOpening (hK2.at rfl) ⟨by decide, rfl⟩ (Nat.le_of_ble_eq_true rfl) (Nat.zero_le _) (Nat.zero_le _) (Nat.le_of_ble_eq_true rfl) (J_if_eq (pq := 186) (tgt := 190) dX5_takeStep_183 rfl rfl (fun c => ?_) (fun c => ?_)))))
        · exact absurd c (by decide)
        refine J_iconst (pq := 187) dX5_takeStep_186 rfl c_iconst_1 (J_goto (tgt := 191) dX5_takeStep_187 rfl (J_iret dX5_takeStep_191 rfl (by first | rfl | exact bi_nar _) ?_))
        refine opened _ 0 (tkN t n (tkE t n p)) (tkE t n (tkE t n (tkE t n p))) (Or.inl ⟨rfl, z, ?_⟩) ((((hF2.tok t n _).si (Or.inr (Or.inl rfl))).si (Or.inr (Or.inr (Or.inl rfl)))).si (Or.inl rfl)) (fun a b q1 q2 q3 => ?_) ?_ ?_ ?_ hb2.2.1 ⟨?_, ?_, ?_⟩ ?_ ?_ ?_
        · rw [gi_si, if_neg (by omega), gi_si, if_neg (by omega), gi_si, if_neg (by omega), xTok_o (by omega)]; exact g2n
        · rw [gi_si, if_neg (by omega), gi_si, if_neg (by omega), gi_si, if_neg (by omega), xTok_o (by omega), o2 a b (by omega) q2]
        · rw [gi_si, if_neg (by omega), gi_si, if_neg (by omega), gi_si, if_pos ⟨rfl, rfl⟩]
        · rw [gi_si, if_neg (by omega), gi_si, if_pos ⟨rfl, rfl⟩]; rfl
        · rw [gi_si, if_pos ⟨rfl, rfl⟩]
        · rw [gi_si, if_neg (by omega), gi_si, if_neg (by omega), gi_si, if_neg (by omega)]; exact xTok_T.1
        · rw [gi_si, if_neg (by omega), gi_si, if_neg (by omega), gi_si, if_neg (by omega)]; exact xTok_T.2.1
        · rw [gi_si, if_neg (by omega), gi_si, if_neg (by omega), gi_si, if_neg (by omega)]; exact xTok_T.2.2
        · unfold pstep
          rw [if_neg hC4, if_pos h610, if_neg hf, if_neg (by omega), if_neg (by omega), if_pos hc1]
          refine (if_pos hyes).trans ?_
          rw [if_pos z, if_pos hc2]
          rfl
        · rw [gi_si, if_neg (by omega), gi_si, if_neg (by omega), gi_si, if_neg (by omega), xTok_o (by omega), o2 _ _ (by omega) (by omega)]; exact fnd 0
        · rw [gi_si, if_neg (by omega), gi_si, if_neg (by omega), gi_si, if_neg (by omega), xTok_o (by omega), o2 _ _ (by omega) (by omega)]; exact fnd 1
      · rw [if_neg hc2, decide_eq_false hc2] at hop
        refine J_aload_n (pq := 164) dX5_takeStep_163 rfl rfl (J_aload_n (pq := 165) dX5_takeStep_164 rfl rfl (J_iload (pq := 167) dX5_takeStep_165 rfl rfl (J_iconst (pq := 168) dX5_takeStep_167 rfl c_iconst_1 (J_bipush (pq := 170) dX5_takeStep_168 rfl c_bipush_50 (J_virtF (pq := 173) dX5_takeStep_170 rfl (hnum) rfl tg_X5_takeNumber l_X5_88 vi_X5_takeNumber (hKG.at rfl) ⟨by decide, rfl⟩ (Nat.le_of_ble_eq_true rfl) (Nat.zero_le _) (Nat.zero_le _) (Nat.le_of_ble_eq_true rfl) (J_if_eq (pq := 176) (tgt := 190) dX5_takeStep_173 rfl rfl (fun c => ?_) (fun c => ?_)))))))
        · exact absurd c (by decide)
        refine J_aload_n (pq := 177) dX5_takeStep_176 rfl rfl (J_iload (pq := 179) dX5_takeStep_177 rfl rfl (J_iconst (pq := 180) dX5_takeStep_179 rfl c_iconst_0 (J_virtF (pq := 183) dX5_takeStep_180 rfl (hop) rfl tg_X5_takeOpening l_X5_95 vi_X5_takeOpening (hK2.at rfl) ⟨by decide, rfl⟩ (Nat.le_of_ble_eq_true rfl) (Nat.zero_le _) (Nat.zero_le _) (Nat.le_of_ble_eq_true rfl) (J_if_eq (pq := 186) (tgt := 190) dX5_takeStep_183 rfl rfl (fun c => ?_) (fun c => ?_)))))
        rotate_left
        · exact absurd rfl c
        refine J_iconst (pq := 191) dX5_takeStep_190 rfl c_iconst_0 (J_iret dX5_takeStep_191 rfl (by first | rfl | exact bi_nar _) ?_)
        refine StX_f (f := 1) hF2 ?_
        unfold pstep
        rw [if_neg hC4, if_pos h610, if_neg hf, if_neg (by omega), if_neg (by omega), if_pos hc1]
        refine (if_pos hyes).trans ?_
        rw [if_pos z, if_neg hc2]
    · have hop := j_takeOpen (x := x) (i := e) (b := true) hKG hXG hnG (by omega) htG hby hb0.2.1 hGT g87 (by omega)
      rw [z]
      refine J_tabOut (tgt := 192) dX5_takeStep_69 (by decide) rfl ?_
      by_cases hc2 : tkC t n (tkE t n p) = 3
      · rw [if_pos hc2, decide_eq_true hc2] at hop
        refine J_aload_n (pq := 193) dX5_takeStep_192 rfl rfl (J_iload (pq := 195) dX5_takeStep_193 rfl rfl (J_iconst (pq := 196) dX5_takeStep_195 rfl c_iconst_1 (J_virtF (pq := 199) dX5_takeStep_196 rfl (hop) rfl tg_X5_takeOpening l_X5_95 vi_X5_takeOpening (hKG.at rfl) ⟨by decide, rfl⟩ (Nat.le_of_ble_eq_true rfl) (Nat.zero_le _) (Nat.zero_le _) (Nat.le_of_ble_eq_true rfl) (J_iret dX5_takeStep_199 rfl (by first | rfl | exact bi_nar _) ?_))))
        refine opened _ 1 0 (tkE t n (tkE t n p)) (Or.inr ⟨rfl, z, rfl⟩) ((((hGF.tok t n _).si (Or.inr (Or.inl rfl))).si (Or.inr (Or.inr (Or.inl rfl)))).si (Or.inl rfl)) (fun a b q1 q2 q3 => ?_) ?_ ?_ ?_ hb1.2.1 ⟨?_, ?_, ?_⟩ ?_ ?_ ?_
        · rw [gi_si, if_neg (by omega), gi_si, if_neg (by omega), gi_si, if_neg (by omega), xTok_o (by omega)]
        · rw [gi_si, if_neg (by omega), gi_si, if_neg (by omega), gi_si, if_pos ⟨rfl, rfl⟩]
        · rw [gi_si, if_neg (by omega), gi_si, if_pos ⟨rfl, rfl⟩]; rfl
        · rw [gi_si, if_pos ⟨rfl, rfl⟩]
        · rw [gi_si, if_neg (by omega), gi_si, if_neg (by omega), gi_si, if_neg (by omega)]; exact xTok_T.1
        · rw [gi_si, if_neg (by omega), gi_si, if_neg (by omega), gi_si, if_neg (by omega)]; exact xTok_T.2.1
        · rw [gi_si, if_neg (by omega), gi_si, if_neg (by omega), gi_si, if_neg (by omega)]; exact xTok_T.2.2
        · unfold pstep
          rw [if_neg hC4, if_pos h610, if_neg hf, if_neg (by omega), if_pos z, if_pos hc2]
        · rw [gi_si, if_neg (by omega), gi_si, if_neg (by omega), gi_si, if_neg (by omega), xTok_o (by omega)]; exact fnd 0
        · rw [gi_si, if_neg (by omega), gi_si, if_neg (by omega), gi_si, if_neg (by omega), xTok_o (by omega)]; exact fnd 1
      · rw [if_neg hc2, decide_eq_false hc2] at hop
        refine J_aload_n (pq := 193) dX5_takeStep_192 rfl rfl (J_iload (pq := 195) dX5_takeStep_193 rfl rfl (J_iconst (pq := 196) dX5_takeStep_195 rfl c_iconst_1 (J_virtF (pq := 199) dX5_takeStep_196 rfl (hop) rfl tg_X5_takeOpening l_X5_95 vi_X5_takeOpening (hKG.at rfl) ⟨by decide, rfl⟩ (Nat.le_of_ble_eq_true rfl) (Nat.zero_le _) (Nat.zero_le _) (Nat.le_of_ble_eq_true rfl) (J_iret dX5_takeStep_199 rfl (by first | rfl | exact bi_nar _) ?_))))
        exact StX_f (f := 1) hGF (by unfold pstep; rw [if_neg hC4, if_pos h610, if_neg hf, if_neg (by omega), if_pos z, if_neg hc2])
  -- are there too many
  have hlt : tkC t n p - 6 < 5 := by omega
  have k32 : ∀ b : Bool, b = decide (8 < tkC t n p) → J x yX5_takeStep cX5_takeStep 5 (some .boolean) 6 0 0 (StX t n d (pstep t n p fs cur e) h) 31 [some (.ref 8), some (.ref d), some (.int (nI (tkC t n p - 6))), none, none] [.int (bi b)] h := fun b hb => by
    refine J_istore_m 3 (pq := 32) dX5_takeStep_31 rfl rfl (Nat.le_of_ble_eq_true rfl) (Nat.le_of_ble_eq_true rfl) rfl (J_aload_n (pq := 33) dX5_takeStep_32 rfl rfl (J_virtF (pq := 36) dX5_takeStep_33 rfl (j_isFull hC) rfl tg_X4_isFull l_X5_80 vi_X4_isFull hd0 ⟨by decide, rfl⟩ (Nat.le_of_ble_eq_true rfl) (Nat.zero_le _) (Nat.zero_le _) (Nat.le_of_ble_eq_true rfl) (J_if_ne (pq := 39) (tgt := 51) dX5_takeStep_36 rfl rfl (fun c => ?_) (fun c => ?_))))
    · rw [bi_0, decide_eq_false_iff_not, Decidable.not_not] at c
      exact full (Or.inl c) _ _ _
    rw [bi_0, decide_eq_false_iff_not] at c
    have c40 := c
    refine J_iload_n (pq := 40) dX5_takeStep_39 rfl rfl (J_if_eq (pq := 43) (tgt := 57) dX5_takeStep_40 rfl rfl (fun c => ?_) (fun c => ?_))
    · rw [bi_0, hb, decide_eq_false_iff_not] at c
      exact add (by omega) _
    rw [bi_0, hb, decide_eq_false_iff_not, Decidable.not_not] at c
    have c8 := c
    refine J_aload_n (pq := 44) dX5_takeStep_43 rfl rfl (J_getI (pq := 47) dX5_takeStep_44 rfl f_X5_47 jsI (by first | exact hc0 | exact hd0 | exact hK.at rfl) (J_iconst (pq := 48) dX5_takeStep_47 rfl c_iconst_5 (J_icmp_lt (pq := 51) (tgt := 57) dX5_takeStep_48 rfl rfl (fun c => ?_) (fun c => ?_))))
    · rw [h87, show (5 : Int32) = nI 5 from rfl, nI_ltI (by omega) (by omega)] at c
      exact add (by omega) _
    · rw [h87, show (5 : Int32) = nI 5 from rfl, nI_ltI (by omega) (by omega)] at c
      exact full (Or.inr ⟨c8, by omega⟩) _ _ _
  refine J_iload_n (pq := 17) dX5_takeStep_16 rfl rfl (J_iconst (pq := 18) dX5_takeStep_17 rfl c_iconst_3 (J_icmp_eq (pq := 21) (tgt := 26) dX5_takeStep_18 rfl rfl (fun c => ?_) (fun c => ?_)))
  · rw [show (3 : Int32) = nI 3 from rfl, nI_eq (by omega) (by omega)] at c
    refine J_iconst (pq := 27) dX5_takeStep_26 rfl c_iconst_1 (J_goto (tgt := 31) dX5_takeStep_27 rfl (?_))
    exact k32 true (by rw [decide_eq_true (by omega)])
  rw [show (3 : Int32) = nI 3 from rfl, nI_eq (by omega) (by omega)] at c
  refine J_iload_n (pq := 22) dX5_takeStep_21 rfl rfl (J_iconst (pq := 23) dX5_takeStep_22 rfl c_iconst_4 (J_icmp_ne (pq := 26) (tgt := 30) dX5_takeStep_23 rfl rfl (fun c => ?_) (fun c => ?_)))
  · rw [show (4 : Int32) = nI 4 from rfl, nI_eq (by omega) (by omega)] at c
    refine J_iconst (pq := 31) dX5_takeStep_30 rfl c_iconst_0 (?_)
    exact k32 false (by rw [decide_eq_false (by omega)])
  · rw [show (4 : Int32) = nI 4 from rfl, nI_eq (by omega) (by omega)] at c
    refine J_iconst (pq := 27) dX5_takeStep_26 rfl c_iconst_1 (J_goto (tgt := 31) dX5_takeStep_27 rfl (?_))
    exact k32 true (by rw [decide_eq_true (by omega)])
end R3
