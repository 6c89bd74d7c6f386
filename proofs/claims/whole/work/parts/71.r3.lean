-- the class: a step of a recipe's text
section R3
variable {x : JX} {h : JH} {n p d e : Nat} {t : Nat → Int32} {fs : List Fr} {cur : Cond}
/-- a fault is told -/
theorem StX_f {g : JH} {f pl : Nat} {r : (Nat × Nat) ⊕ (Nat × List Fr × Cond × Nat)} (hF : RcX d h g) (hr : r = .inl (f, pl)) : StX t n d r h (some (.int 0)) (si (si g 4 0 (nI f)) 4 1 (nI pl)) := by
  rw [hr]
  refine ⟨(hF.si (Or.inr (Or.inr (Or.inr (Or.inl ⟨rfl, by omega⟩))))).si (Or.inr (Or.inr (Or.inr (Or.inl ⟨rfl, by omega⟩)))), rfl, ?_, ?_⟩
  · rw [gi_si, if_neg (by omega), gi_si, if_pos ⟨rfl, rfl⟩]
  · rw [gi_si, if_pos ⟨rfl, rfl⟩]
/-- what stays of the place in the text -/
theorem XP_new {g : JH} {p' e' : Nat} {fs' : List Fr} {cur' : Cond} (hP : XP h t n p fs cur e d) (hs : pstep t n p fs cur e = .inr (p', fs', cur', e')) (hF : RcX d h g) (h4 : gi g d 4 = nI e') (hp' : p' ≤ n) (hT : XT g t n p') (h87 : gi g 8 7 = nI fs'.length) (hz : DZ (gi g) d fs' cur' e') : XP g t n p' fs' cur' e' d := by
  obtain ⟨hK, hX, hC, hn, ht, hp, -, -, hZ, hFO, hPG, hPO, hl, hd1, hd2⟩ := hP
  have hok := pstep_ok hs hFO hPG hPO hl hC.2.2 (DZ_e fs cur e hFO hPG hZ).symm
  obtain ⟨o1, o2, o3, o4, o5, -⟩ := hok
  refine ⟨hK.of2 hF.1, hX.of3 (by rw [hF.1]), ⟨hC.1.of3 (by rw [hF.1]), h4, o5⟩, by rw [hF.2 _ _ (by omega) (by omega) (by omega) (by omega) (by omega)]; exact hn, ?_, hp', hT, h87, hz, o1, o2, o3, o4, hd1, hd2⟩
  rw [← ht]; funext j; exact hF.2 _ _ (by omega) (by omega) (by omega) (by omega) (by omega)
/-- a new step's row -/
theorem aSt_o {k : Int32} {a b : Nat} (hc : ¬ ((d + 1 ≤ a ∧ a ≤ d + 4) ∧ b = e)) (h4 : ¬ (a = d ∧ b = 4)) : gi (aSt h d e k) a b = gi h a b := by
  unfold aSt
  rw [gi_si, if_neg h4, gi_si, if_neg (by omega), gi_si, if_neg (by omega), gi_si, if_neg (by omega), gi_si, if_neg (by omega)]
theorem aSt_r {k : Int32} : gi (aSt h d e k) (d + 1) e = k ∧ gi (aSt h d e k) (d + 2) e = 0 ∧ gi (aSt h d e k) (d + 4) e = nI (e + 1) ∧ gi (aSt h d e k) d 4 = nI (e + 1) := by
  unfold aSt
  refine ⟨?_, ?_, ?_, ?_⟩
  · rw [gi_si, if_neg (by omega), gi_si, if_neg (by omega), gi_si, if_neg (by omega), gi_si, if_neg (by omega), gi_si, if_pos ⟨rfl, rfl⟩]
  · rw [gi_si, if_neg (by omega), gi_si, if_neg (by omega), gi_si, if_neg (by omega), gi_si, if_pos ⟨rfl, rfl⟩]
  · rw [gi_si, if_neg (by omega), gi_si, if_pos ⟨rfl, rfl⟩]
  · rw [gi_si, if_pos ⟨rfl, rfl⟩]
theorem aSt_F {k : Int32} : RcX d h (aSt h d e k) := by
  unfold aSt
  exact (((((RcX.rf d h).si (by omega)).si (by omega)).si (by omega)).si (by omega)).si (by omega)
set_option maxHeartbeats 1000000 in
theorem j_takeStep (hn4 : n ≤ 200) (hby : tby t) (hP : XP h t n p fs cur e d) (hC4 : tkC t n p ≠ 4) : JM x yX5_takeStep cX5_takeStep 5 (some .boolean) 6 0 0 [.ref 8, .ref d] h (StX t n d (pstep t n p fs cur e) h) := by
  have hP0 := hP
  obtain ⟨hK, hX, hC, hn, ht, hp, hT, h87, hZ, hFO, hPG, hPO, hl5, hd1, hd2⟩ := hP
  have he := hC.2.2
  have hd0 := hC.1.1.1
  have hb0 := tkE_b (t := t) hp
  have hb1 := tkE_b (t := t) (n := n) (p := tkE t n p) hb0.2.1
  have hb2 := tkE_b (t := t) (n := n) (p := tkE t n (tkE t n p)) hb1.2.1
  refine JM_of [some (.ref 8), some (.ref d), none, none, none] (by decide) (Nat.le_of_ble_eq_true rfl) rfl ?_
  refine J_aload_n (pq := 1) dX5_takeStep_0 rfl rfl (J_virtF (pq := 4) dX5_takeStep_1 rfl (j_stepKind hK hX hn (by omega) ht hby hp hT) rfl tg_X5_stepKind l_X5_77 vi_X5_stepKind (by first | exact hc0 | exact hd0 | exact hK.at rfl) ⟨by decide, rfl⟩ (Nat.le_of_ble_eq_true rfl) (Nat.zero_le _) (Nat.zero_le _) (Nat.le_of_ble_eq_true rfl) (J_istore_m 2 (pq := 5) dX5_takeStep_4 rfl rfl (Nat.le_of_ble_eq_true rfl) (Nat.le_of_ble_eq_true rfl) rfl (J_iload_n (pq := 6) dX5_takeStep_5 rfl rfl (J_iconst (pq := 7) dX5_takeStep_6 rfl c_iconst_m1 (J_icmp_ne (pq := 10) (tgt := 16) dX5_takeStep_7 rfl rfl (fun c => ?_) (fun c => ?_))))))
  rotate_left
  · have hno : ¬ (6 ≤ tkC t n p ∧ tkC t n p ≤ 10) := fun q => by
      unfold skK at c
      rcases (show tkC t n p = 6 ∨ tkC t n p = 7 ∨ tkC t n p = 8 ∨ tkC t n p = 9 ∨ tkC t n p = 10 by omega) with z | z | z | z | z <;> (rw [z] at c; exact absurd c (by decide))
    refine J_aload_n (pq := 11) dX5_takeStep_10 rfl rfl (J_iconst (pq := 12) dX5_takeStep_11 rfl c_iconst_1 (J_virtF (pq := 15) dX5_takeStep_12 rfl (j_refuse hK hX hT) rfl tg_X5_refuse l_X5_71 vi_X5_refuse (by first | exact hc0 | exact hd0 | exact hK.at rfl) ⟨by decide, rfl⟩ (Nat.le_of_ble_eq_true rfl) (Nat.zero_le _) (Nat.zero_le _) (Nat.le_of_ble_eq_true rfl) (J_iret dX5_takeStep_15 rfl (by first | rfl | exact bi_nar _) ?_)))
    exact StX_f (f := 1) (RcX.rf d h) (by unfold pstep; rw [if_neg hC4, if_neg hno])
  have h610 : 6 ≤ tkC t n p ∧ tkC t n p ≤ 10 := Decidable.byContradiction fun q => by
    apply c
    unfold skK
    rw [if_neg (by omega), if_neg (by omega), if_neg (by omega), if_neg (by omega), if_neg (by omega)]
  have hsk : skK t n p = nI (tkC t n p - 6) := by
    unfold skK
    rcases (show tkC t n p = 6 ∨ tkC t n p = 7 ∨ tkC t n p = 8 ∨ tkC t n p = 9 ∨ tkC t n p = 10 by omega) with z | z | z | z | z <;> (rw [z]; rfl)
  rw [hsk]
  -- too many
  have full : (e = 40 ∨ (8 < tkC t n p ∧ fs.length = 5)) → ∀ a2 a3 a4, J x yX5_takeStep cX5_takeStep 5 (some .boolean) 6 0 0 (StX t n d (pstep t n p fs cur e) h) 51 [some (.ref 8), some (.ref d), a2, a3, a4] [] h := fun hf a2 a3 a4 => by
    refine J_aload_n (pq := 52) dX5_takeStep_51 rfl rfl (J_iconst (pq := 53) dX5_takeStep_52 rfl c_iconst_3 (J_virtF (pq := 56) dX5_takeStep_53 rfl (j_refuse hK hX hT) rfl tg_X5_refuse l_X5_71 vi_X5_refuse (by first | exact hc0 | exact hd0 | exact hK.at rfl) ⟨by decide, rfl⟩ (Nat.le_of_ble_eq_true rfl) (Nat.zero_le _) (Nat.zero_le _) (Nat.le_of_ble_eq_true rfl) (J_iret dX5_takeStep_56 rfl (by first | rfl | exact bi_nar _) ?_)))
    exact StX_f (f := 3) (RcX.rf d h) (by unfold pstep; rw [if_neg hC4, if_pos h610, if_pos hf])
  -- a step is added
  have add : ¬ (e = 40 ∨ (8 < tkC t n p ∧ fs.length = 5)) → ∀ a3, J x yX5_takeStep cX5_takeStep 5 (some .boolean) 6 0 0 (StX t n d (pstep t n p fs cur e) h) 57 [some (.ref 8), some (.ref d), some (.int (nI (tkC t n p - 6))), a3, none] [] h := fun hf a3 => by
    have he40 : e < 40 := by omega
    generalize hG : xTok (aSt h d e (nI (tkC t n p - 6))) t n (tkE t n p) = G
    have hGF : RcX d h G := by rw [← hG]; exact aSt_F.tok t n _
    have hGT : XT G t n (tkE t n p) := by rw [← hG]; exact xTok_T
    have hKG : Kin G := hK.of2 hGF.1
    have hXG : XR G := hX.of3 (by rw [hGF.1])
    have o : ∀ a b, ¬ (a = 8 ∧ 2 ≤ b ∧ b ≤ 4) → gi G a b = gi (aSt h d e (nI (tkC t n p - 6))) a b := fun a b q => by rw [← hG]; exact xTok_o q
    have hCG : RKc G d (e + 1) := ⟨hC.1.of3 (by rw [hGF.1]), by rw [o _ _ (by omega)]; exact aSt_r.2.2.2, by omega⟩
    have hnG : gi G 1 1 = nI n := by rw [hGF.2 _ _ (by omega) (by omega) (by omega) (by omega) (by omega)]; exact hn
    have htG : gi G 2 = t := by rw [← ht]; funext j; exact hGF.2 _ _ (by omega) (by omega) (by omega) (by omega) (by omega)
    have g87 : gi G 8 7 = nI fs.length := by rw [o _ _ (by omega), aSt_o (by omega) (by omega)]; exact h87
    have gr1 : gi G (d + 1) e = nI (tkC t n p - 6) := by rw [o _ _ (by omega)]; exact aSt_r.1
    have gr2 : gi G (d + 2) e = 0 := by rw [o _ _ (by omega)]; exact aSt_r.2.1
    have gr4 : gi G (d + 4) e = nI (e + 1) := by rw [o _ _ (by omega)]; exact aSt_r.2.2.1
    have grk : ∀ k, k < e → gi G (d + 1) k = gi h (d + 1) k ∧ gi G (d + 2) k = gi h (d + 2) k ∧ gi G (d + 3) k = gi h (d + 3) k ∧ gi G (d + 4) k = gi h (d + 4) k := fun k hk => ⟨by rw [o _ _ (by omega), aSt_o (by omega) (by omega)], by rw [o _ _ (by omega), aSt_o (by omega) (by omega)], by rw [o _ _ (by omega), aSt_o (by omega) (by omega)], by rw [o _ _ (by omega), aSt_o (by omega) (by omega)]⟩
    have gu : ∀ u, gi G 9 u = gi h 9 u ∧ gi G 10 u = gi h 10 u := fun u => ⟨by rw [o _ _ (by omega), aSt_o (by omega) (by omega)], by rw [o _ _ (by omega), aSt_o (by omega) (by omega)]⟩
    -- a plain step's end: the heap behind it
    have leaf : ∀ g k m p', RcX d h g → (∀ a b, a ≠ 8 → ¬ (a = d + 2 ∧ b = e) → gi g a b = gi G a b) → gi g (d + 2) e = nI m → gi g 8 7 = nI fs.length → tkC t n p - 6 = k → p' ≤ n → XT g t n p' → pstep t n p fs cur e = .inr (p', fs, papp cur (pL k m pN), e + 1) → gi g 4 0 = gi h 4 0 → gi g 4 1 = gi h 4 1 → StX t n d (pstep t n p fs cur e) h (some (.int 1)) g := fun g k m p' q1 q2 q3 q4 q5 q6 q7 q8 q9 q10 => by
      have hDZ : DZ (gi g) d fs (papp cur (pL k m pN)) (e + 1) := by
        refine DZ_app (e := e) fs cur hFO hPG (DZ_congr fs cur e hFO hPG (fun j hj => ?_) (fun u hu => ?_) hZ) ⟨?_, q3, ?_, rfl⟩
        · have := grk j hj
          exact ⟨by rw [q2 _ _ (by omega) (by omega)]; exact this.1, by rw [q2 _ _ (by omega) (by omega)]; exact this.2.1, by rw [q2 _ _ (by omega) (by omega)]; exact this.2.2.1, by rw [q2 _ _ (by omega) (by omega)]; exact this.2.2.2⟩
        · exact ⟨by rw [q2 _ _ (by omega) (by omega)]; exact (gu u).1, by rw [q2 _ _ (by omega) (by omega)]; exact (gu u).2⟩
        · rw [q2 _ _ (by omega) (by omega), gr1, q5]
        · rw [q2 _ _ (by omega) (by omega)]; exact gr4
      have hXP := XP_new hP0 q8 q1 (by rw [q2 _ _ (by omega) (by omega)]; exact hCG.2.1) q6 q7 q4 hDZ
      rw [q8]
      exact ⟨q1, rfl, q9, q10, hXP⟩
    -- an opened block
    have opened : ∀ g part num p', (part = 0 ∧ tkC t n p = 9 ∧ gi g (d + 2) e = nI num) ∨ (part = 1 ∧ tkC t n p = 10 ∧ num = 0) → RcX d h g → (∀ a b, a ≠ 8 → ¬ (a = d + 2 ∧ b = e) → ¬ ((a = 9 ∨ a = 10) ∧ b = fs.length) → gi g a b = gi G a b) → gi g 9 fs.length = nI e → gi g 10 fs.length = bi (decide (part = 1)) → gi g 8 7 = nI (fs.length + 1) → p' ≤ n → XT g t n p' → pstep t n p fs cur e = .inr (p', (cur, part, num, pN) :: fs, pN, e + 1) → gi g 4 0 = gi h 4 0 → gi g 4 1 = gi h 4 1 → StX t n d (pstep t n p fs cur e) h (some (.int 1)) g := fun g part num p' q0 q1 q2 q3 q3' q4 q6 q7 q8 q9 q10 => by
      have hDZ : DZ (gi g) d ((cur, part, num, pN) :: fs) pN (e + 1) := by
        refine ⟨e, DZ_congr fs cur e hFO hPG (fun j hj => ?_) (fun u hu => ?_) hZ, q3, q3', ?_⟩
        · have := grk j hj
          exact ⟨by rw [q2 _ _ (by omega) (by omega) (by omega)]; exact this.1, by rw [q2 _ _ (by omega) (by omega) (by omega)]; exact this.2.1, by rw [q2 _ _ (by omega) (by omega) (by omega)]; exact this.2.2.1, by rw [q2 _ _ (by omega) (by omega) (by omega)]; exact this.2.2.2⟩
        · exact ⟨by rw [q2 _ _ (by omega) (by omega) (by omega)]; exact (gu u).1, by rw [q2 _ _ (by omega) (by omega) (by omega)]; exact (gu u).2⟩
        · have g1 : gi g (d + 1) e = nI (tkC t n p - 6) := by rw [q2 _ _ (by omega) (by omega) (by omega)]; exact gr1
          rcases q0 with ⟨z1, z2, z3⟩ | ⟨z1, z2, z3⟩
          · exact Or.inl ⟨z1, by rw [g1, z2], z3, rfl⟩
          · exact Or.inr (Or.inl ⟨z1, by rw [g1, z2], rfl⟩)
      have hXP := XP_new hP0 q8 q1 (by rw [q2 _ _ (by omega) (by omega) (by omega)]; exact hCG.2.1) q6 q7 q4 hDZ
      rw [q8]
      exact ⟨q1, rfl, q9, q10, hXP⟩
    have fnd : ∀ b, gi G 4 b = gi h 4 b := fun b => by rw [o _ _ (by omega), aSt_o (by omega) (by omega)]
    have hA1 : RcX d h (aSt h d e (nI (tkC t n p - 6))) := aSt_F
    have hKA : Kin (aSt h d e (nI (tkC t n p - 6))) := hK
    have hXA : XR (aSt h d e (nI (tkC t n p - 6))) := hX
    have hnA : gi (aSt h d e (nI (tkC t n p - 6))) 1 1 = nI n := by rw [aSt_o (by omega) (by omega)]; exact hn
    have htA : gi (aSt h d e (nI (tkC t n p - 6))) 2 = t := by rw [← ht]; funext j; rw [aSt_o (by omega) (by omega)]
    have h84A : gi (aSt h d e (nI (tkC t n p - 6))) 8 4 = nI (tkE t n p) := by rw [aSt_o (by omega) (by omega)]; exact hT.2.2
    refine J_aload_n (pq := 58) dX5_takeStep_57 rfl rfl (J_iload_n (pq := 59) dX5_takeStep_58 rfl rfl (J_virtF (pq := 62) dX5_takeStep_59 rfl (j_addStep hC he40) rfl tg_X4_addStep l_X5_84 vi_X4_addStep hd0 ⟨by decide, rfl⟩ (Nat.le_of_ble_eq_true rfl) (Nat.zero_le _) (Nat.zero_le _) (Nat.le_of_ble_eq_true rfl) (J_istore (pq := 64) dX5_takeStep_62 rfl (Nat.le_of_ble_eq_true rfl) (Nat.le_of_ble_eq_true rfl) rfl (?_))))
    refine J_aload_n (pq := 65) dX5_takeStep_64 rfl rfl (J_virtF (pq := 68) dX5_takeStep_65 rfl (j_next hKA hXA hnA (by omega) htA hb0.2.1 h84A) rfl tg_X5_nextToken l_X5_54 vi_X5_nextToken (hKA.at rfl) ⟨by decide, rfl⟩ (Nat.le_of_ble_eq_true rfl) (Nat.zero_le _) (Nat.zero_le _) (Nat.le_of_ble_eq_true rfl) (?_))
    rw [hG]
    refine J_iload_n (pq := 69) dX5_takeStep_68 rfl rfl (?_)
    have hnn := hf
    rcases (show tkC t n p = 6 ∨ tkC t n p = 7 ∨ tkC t n p = 8 ∨ tkC t n p = 9 ∨ tkC t n p = 10 by omega) with z | z | z | z | z
    all_goals sorry
  sorry
end R3
