-- the class: the next token, words, signs, numbers
theorem kb1 {b : Int32} : kb b = 1 ↔ isLt b = true := by
  unfold kb
  by_cases h0 : b = -1
  · subst h0; decide
  · rw [if_neg h0]
    by_cases h1 : isLt b = true
    · rw [if_pos h1]; simp [h1]
    · rw [if_neg h1]
      constructor
      · intro q; repeat' split at q
        all_goals omega
      · intro q; exact absurd q h1
theorem lt_dg {b : Int32} (h : isLt b = true) : isDg b = false := by
  unfold isLt at h
  unfold isDg
  rw [Bool.or_eq_true, isin_t, isin_t] at h
  rw [isin_f]
  simp at h ⊢
  omega
theorem kb2 {b : Int32} : kb b = 2 ↔ isDg b = true := by
  unfold kb
  by_cases h0 : b = -1
  · subst h0; decide
  · rw [if_neg h0]
    by_cases h1 : isLt b = true
    · rw [if_pos h1, lt_dg h1]; simp
    · rw [if_neg h1]
      by_cases h2 : isDg b = true
      · rw [if_pos h2]; simp [h2]
      · rw [if_neg h2]
        constructor
        · intro q; split at q <;> omega
        · intro q; exact absurd q h2
theorem kb3 {b : Int32} : kb b = 3 ↔ (b = 59 ∨ b = 123 ∨ b = 125) := by
  constructor
  · unfold kb
    intro q
    repeat' split at q
    all_goals first | omega | assumption
  · rintro (rfl | rfl | rfl) <;> decide
theorem kb0 {b : Int32} : kb b = 0 ↔ b = -1 := by
  constructor
  · unfold kb
    intro q
    repeat' split at q
    all_goals first | omega | assumption
  · rintro rfl; decide
section T3
variable {x : JX} {h : JH} {n p : Nat} {t : Nat → Int32}
theorem tkE_K (hp : p ≤ n) : tkE t n p = if tkK t n p = 1 then rn (tLt t) n (tkQ t n p) else if tkK t n p = 2 then rn (tDg t) n (tkQ t n p) else min (tkQ t n p + 1) n := by
  have hb := (tkE_b (t := t) hp).2.2.2.1
  unfold tkE tkK
  by_cases hq : tkQ t n p < n
  · rw [if_pos hq, show tat t n (tkQ t n p) = t (tkQ t n p) from by unfold tat; rw [if_pos hq]]
    by_cases h1 : isLt (t (tkQ t n p)) = true
    · rw [if_neg (by rw [lt_dg h1]; decide), if_pos h1, if_pos (kb1.mpr h1)]
    · rw [if_neg (fun q => h1 (kb1.mp q))]
      by_cases h2 : isDg (t (tkQ t n p)) = true
      · rw [if_pos h2, if_pos (kb2.mpr h2)]
      · rw [if_neg h2, if_neg h1, if_neg (fun q => h2 (kb2.mp q))]; omega
  · rw [if_neg hq, show tat t n (tkQ t n p) = -1 from by unfold tat; rw [if_neg hq], show kb (-1) = 0 from by decide, if_neg (by omega), if_neg (by omega)]; omega
/-- what the kinds of the class say of the reference's -/
theorem tkC_K (hp : p ≤ n) (hn4 : n ≤ 400) (hby : tby t) : (tkK t n p = 0 ↔ tkC t n p = 0) ∧ (tkK t n p = 2 ↔ tkC t n p = 1) ∧ ((tkK t n p = 3 ∧ tat t n (tkQ t n p) = 59) ↔ tkC t n p = 2) ∧ ((tkK t n p = 3 ∧ tat t n (tkQ t n p) = 123) ↔ tkC t n p = 3) ∧ ((tkK t n p = 3 ∧ tat t n (tkQ t n p) = 125) ↔ tkC t n p = 4) ∧ (tkK t n p = 1 → tkC t n p = wcode t (tkQ t n p) (tkE t n p)) ∧ (tkK t n p ≠ 1 → tkC t n p ≤ 5) := by
  have hw : ∀ q r, 5 ≤ wcode t q r := fun q r => by unfold wcode; (repeat' split) <;> omega
  have hE := tkE_K (t := t) hp
  unfold tkK at *
  unfold tkC
  by_cases hq : tkQ t n p < n
  · have hm1 : t (tkQ t n p) ≠ -1 := fun q => by
      have := (hby (tkQ t n p) (by omega)).1
      rw [q] at this
      simp at this
    rw [if_pos hq]
    rw [show tat t n (tkQ t n p) = t (tkQ t n p) from by unfold tat; rw [if_pos hq]] at *
    rw [kb0, kb2, kb3, kb1]
    have hww := hw (tkQ t n p) (rn (tLt t) n (tkQ t n p))
    by_cases h1 : isLt (t (tkQ t n p)) = true
    · have hd := lt_dg h1
      rw [if_pos (kb1.mpr h1)] at hE
      rw [if_neg (by rw [hd]; decide), if_pos h1, hE]
      have n3 : ¬ (t (tkQ t n p) = 59 ∨ t (tkQ t n p) = 123 ∨ t (tkQ t n p) = 125) := fun q => by
        rcases q with q | q | q <;> (rw [q] at h1; exact absurd h1 (by decide))
      refine ⟨⟨fun q => absurd q hm1, fun q => by omega⟩, ⟨(fun q => by rw [hd] at q; cases q), fun q => by omega⟩, ⟨fun q => absurd q.1 n3, fun q => by omega⟩, ⟨fun q => absurd q.1 n3, fun q => by omega⟩, ⟨fun q => absurd q.1 n3, fun q => by omega⟩, fun _ => rfl, fun q => absurd (kb1.mpr h1) q⟩
    · by_cases h2 : isDg (t (tkQ t n p)) = true
      · rw [if_pos h2]
        have n3 : ¬ (t (tkQ t n p) = 59 ∨ t (tkQ t n p) = 123 ∨ t (tkQ t n p) = 125) := fun q => by
          rcases q with q | q | q <;> (rw [q] at h2; exact absurd h2 (by decide))
        refine ⟨⟨fun q => absurd q hm1, fun q => by omega⟩, ⟨fun _ => rfl, fun _ => h2⟩, ⟨fun q => absurd q.1 n3, fun q => by omega⟩, ⟨fun q => absurd q.1 n3, fun q => by omega⟩, ⟨fun q => absurd q.1 n3, fun q => by omega⟩, fun q => absurd q h1, fun _ => by omega⟩
      · rw [if_neg h2, if_neg h1]
        refine ⟨⟨fun q => absurd q hm1, fun q => ?_⟩, ⟨fun q => absurd q h2, fun q => ?_⟩, ⟨fun q => by rw [if_pos q.2], fun q => ?_⟩, ⟨fun q => by rw [if_neg (by rw [q.2]; decide), if_pos q.2], fun q => ?_⟩, ⟨fun q => by rw [if_neg (by rw [q.2]; decide), if_neg (by rw [q.2]; decide), if_pos q.2], fun q => ?_⟩, fun q => absurd q h1, fun _ => ?_⟩
        · repeat' split at q
          all_goals omega
        · repeat' split at q
          all_goals omega
        · repeat' split at q
          all_goals first | omega | (rename_i z; exact ⟨Or.inl z, z⟩)
        · repeat' split at q
          all_goals first | omega | (rename_i z; exact ⟨Or.inr (Or.inl z), z⟩)
        · repeat' split at q
          all_goals first | omega | (rename_i z; exact ⟨Or.inr (Or.inr z), z⟩)
        · repeat' split
          all_goals omega
  · rw [if_neg hq, show tat t n (tkQ t n p) = -1 from by unfold tat; rw [if_neg hq], show kb (-1) = 0 from by decide]
    simp
/-- the class stands at the token from p on -/
def XT (h : JH) (t : Nat → Int32) (n p : Nat) : Prop := gi h 8 2 = nI (tkK t n p) ∧ gi h 8 3 = nI (tkQ t n p) ∧ gi h 8 4 = nI (tkE t n p)
def xTok (h : JH) (t : Nat → Int32) (n p : Nat) : JH := si (si (si h 8 3 (nI (tkQ t n p))) 8 2 (nI (tkK t n p))) 8 4 (nI (tkE t n p))
theorem xTok_T : XT (xTok h t n p) t n p := ⟨by simp [xTok, gi_si], by simp [xTok, gi_si], by simp [xTok, gi_si]⟩
theorem xTok_o {a b : Nat} (hc : ¬ (a = 8 ∧ 2 ≤ b ∧ b ≤ 4)) : gi (xTok h t n p) a b = gi h a b := by
  unfold xTok
  rw [gi_si, if_neg (by omega), gi_si, if_neg (by omega), gi_si, if_neg (by omega)]
theorem j_next (hK : Kin h) (hX : XR h) (hn : gi h 1 1 = nI n) (hn4 : n ≤ 400) (ht : gi h 2 = t) (hp : p ≤ n) (h84 : gi h 8 4 = nI p) : JF x yX5_nextToken cX5_nextToken 1 none 2 0 0 [.ref 8] h none (xTok h t n p) := by
  refine JM_of [some (.ref 8)] (by decide) (Nat.le_of_ble_eq_true rfl) rfl ?_
  have hqn := (tkE_b (t := t) hp).2.2.2.1
  have hkl : tkK t n p < 5 := kb_lt _
  refine J_aload_n (pq := 1) dX5_nextToken_0 rfl rfl (J_aload_n (pq := 2) dX5_nextToken_1 rfl rfl (J_aload_n (pq := 3) dX5_nextToken_2 rfl rfl (J_getI (pq := 6) dX5_nextToken_3 rfl f_X5_51 jsI (by first | exact hc0 | exact hd0 | exact hK.at rfl) (?_))))
  rw [h84]
  refine J_virtF (pq := 9) dX5_nextToken_6 rfl (j_blanks hK hX hn hn4 ht hp) rfl tg_X5_behindBlanks l_X5_153 vi_X5_behindBlanks (by first | exact hc0 | exact hd0 | exact hK.at rfl) ⟨by decide, rfl⟩ (Nat.le_of_ble_eq_true rfl) (Nat.zero_le _) (Nat.zero_le _) (Nat.le_of_ble_eq_true rfl) (J_putI (pq := 12) dX5_nextToken_9 rfl f_X5_122 (Or.inl rfl) (by first | exact hc0 | exact hd0 | exact hK.at rfl) (?_))
  generalize hh1 : si h 8 3 (nI (tkQ t n p)) = h1
  have hK1 : Kin h1 := by rw [← hh1]; exact hK
  have hX1 : XR h1 := by rw [← hh1]; exact hX
  have hn1 : gi h1 1 1 = nI n := by rw [← hh1, gi_si, if_neg (by omega)]; exact hn
  have ht1 : gi h1 2 = t := by rw [← hh1, ← ht]; funext j; rw [gi_si, if_neg (by omega)]
  have g3 : gi h1 8 3 = nI (tkQ t n p) := by rw [← hh1, gi_si, if_pos ⟨rfl, rfl⟩]
  have hat := j_at (x := x) (k := tkQ t n p) hK1 hX1 hn1 hn4 (by omega)
  rw [ht1] at hat
  refine J_aload_n (pq := 13) dX5_nextToken_12 rfl rfl (J_aload_n (pq := 14) dX5_nextToken_13 rfl rfl (J_getA (pq := 17) dX5_nextToken_14 rfl f_X5_19 (by decide +kernel) (hK1.at rfl) (hX1 _ _ _ rfl) (J_aload_n (pq := 18) dX5_nextToken_17 rfl rfl (J_getI (pq := 21) dX5_nextToken_18 rfl f_X5_122 jsI (hK1.at rfl) (?_)))))
  rw [g3]
  refine J_virtF (pq := 24) dX5_nextToken_21 rfl (hat) rfl tg_X6_at l_X5_140 vi_X6_at (hK1.at rfl) ⟨by decide, rfl⟩ (Nat.le_of_ble_eq_true rfl) (Nat.zero_le _) (Nat.zero_le _) (Nat.le_of_ble_eq_true rfl) (J_statF (pq := 27) dX5_nextToken_24 rfl (j_kind5) rfl tg_X5_kindOfByte l_X5_156 st_X5_kindOfByte (Nat.le_of_ble_eq_true rfl) (Nat.zero_le _) (Nat.zero_le _) (Nat.le_of_ble_eq_true rfl) (J_putI (pq := 30) dX5_nextToken_27 rfl f_X5_57 (Or.inl rfl) (hK1.at rfl) (?_)))
  show J x yX5_nextToken cX5_nextToken 1 none 2 0 0 _ 30 _ _ (si h1 8 2 (nI (tkK t n p)))
  have hK2 : Kin (si h1 8 2 (nI (tkK t n p))) := hK1
  have hX2 : XR (si h1 8 2 (nI (tkK t n p))) := hX1
  refine J_aload_n (pq := 31) dX5_nextToken_30 rfl rfl (J_aload_n (pq := 32) dX5_nextToken_31 rfl rfl (J_getI (pq := 35) dX5_nextToken_32 rfl f_X5_122 jsI (hK2.at rfl) (J_iconst (pq := 36) dX5_nextToken_35 rfl c_iconst_1 (J_iadd (pq := 37) dX5_nextToken_36 rfl (J_aload_n (pq := 38) dX5_nextToken_37 rfl rfl (J_getA (pq := 41) dX5_nextToken_38 rfl f_X5_19 (by decide +kernel) (hK2.at rfl) (hX2 _ _ _ rfl) (?_)))))))
  rw [gi_si, if_neg (by omega), g3, nI_1]
  have hn2 : gi (si h1 8 2 (nI (tkK t n p))) 1 1 = nI n := by rw [gi_si, if_neg (by omega)]; exact hn1
  refine J_virtF (pq := 44) dX5_nextToken_41 rfl (j_X6_size hK2) rfl tg_X6_size l_X5_32 vi_X6_size (hK2.at rfl) ⟨by decide, rfl⟩ (Nat.le_of_ble_eq_true rfl) (Nat.zero_le _) (Nat.zero_le _) (Nat.le_of_ble_eq_true rfl) (?_)
  rw [hn2]
  refine J_statF (pq := 47) dX5_nextToken_44 rfl (j_min (by omega) (by omega)) rfl tg_J9_min_7cf53 l_X5_147 st_J9_min_7cf53 (Nat.le_of_ble_eq_true rfl) (Nat.zero_le _) (Nat.zero_le _) (Nat.le_of_ble_eq_true rfl) (J_putI (pq := 50) dX5_nextToken_47 rfl f_X5_51 (Or.inl rfl) (hK2.at rfl) (?_))
  generalize hh3 : si (si h1 8 2 (nI (tkK t n p))) 8 4 (nI (min (tkQ t n p + 1) n)) = h3
  have hK3 : Kin h3 := by rw [← hh3]; exact hK1
  have hX3 : XR h3 := by rw [← hh3]; exact hX1
  have hn3 : gi h3 1 1 = nI n := by rw [← hh3, gi_si, if_neg (by omega)]; exact hn2
  have ht3 : gi h3 2 = t := by rw [← hh3, ← ht1]; funext j; rw [gi_si, if_neg (by omega), gi_si, if_neg (by omega)]
  have k2 : gi h3 8 2 = nI (tkK t n p) := by rw [← hh3, gi_si, if_neg (by omega), gi_si, if_pos ⟨rfl, rfl⟩]
  have k3 : gi h3 8 3 = nI (tkQ t n p) := by rw [← hh3, gi_si, if_neg (by omega), gi_si, if_neg (by omega)]; exact g3
  have hE := tkE_K (t := t) hp
  have hend : ∀ v, si h3 8 4 v = si (si (si h 8 3 (nI (tkQ t n p))) 8 2 (nI (tkK t n p))) 8 4 v := fun v => by rw [← hh3, si_si, ← hh1]
  have k66 : ∀ K f, tkK t n p = K → K < 5 → (∀ j, j < n → (f j = true ↔ kb (t j) = K)) → tkE t n p = rn f n (tkQ t n p) → J x yX5_nextToken cX5_nextToken 1 none 2 0 0 (fun v g => v = none ∧ g = xTok h t n p) 66 [some (.ref 8)] [] h3 := fun K f q1 q2 q3 q4 => by
    refine J_aload_n (pq := 67) dX5_nextToken_66 rfl rfl (J_aload_n (pq := 68) dX5_nextToken_67 rfl rfl (J_aload_n (pq := 69) dX5_nextToken_68 rfl rfl (J_getI (pq := 72) dX5_nextToken_69 rfl f_X5_122 jsI (hK3.at rfl) (J_aload_n (pq := 73) dX5_nextToken_72 rfl rfl (J_getI (pq := 76) dX5_nextToken_73 rfl f_X5_57 jsI (hK3.at rfl) (?_))))))
    rw [k2, k3, q1]
    refine J_virtF (pq := 79) dX5_nextToken_76 rfl (j_same hK3 hX3 hn3 hn4 ht3 hqn q2 q3) rfl tg_X5_behindSame l_X5_159 vi_X5_behindSame (hK3.at rfl) ⟨by decide, rfl⟩ (Nat.le_of_ble_eq_true rfl) (Nat.zero_le _) (Nat.zero_le _) (Nat.le_of_ble_eq_true rfl) (J_putI (pq := 82) dX5_nextToken_79 rfl f_X5_51 (Or.inl rfl) (hK3.at rfl) (J_vret dX5_nextToken_82 rfl ?_))
    exact ⟨rfl, by rw [hend, xTok, q4]⟩
  refine J_aload_n (pq := 51) dX5_nextToken_50 rfl rfl (J_getI (pq := 54) dX5_nextToken_51 rfl f_X5_57 jsI (hK3.at rfl) (J_iconst (pq := 55) dX5_nextToken_54 rfl c_iconst_1 (J_icmp_eq (pq := 58) (tgt := 66) dX5_nextToken_55 rfl rfl (fun c => ?_) (fun c => ?_))))
  · rw [k2, show (1 : Int32) = nI 1 from rfl, nI_eq (by omega) (by omega)] at c
    rw [if_pos c] at hE
    exact k66 1 (tLt t) c (by omega) (fun j _ => kb1.symm) hE
  rw [k2, show (1 : Int32) = nI 1 from rfl, nI_eq (by omega) (by omega)] at c
  rw [if_neg c] at hE
  refine J_aload_n (pq := 59) dX5_nextToken_58 rfl rfl (J_getI (pq := 62) dX5_nextToken_59 rfl f_X5_57 jsI (hK3.at rfl) (J_iconst (pq := 63) dX5_nextToken_62 rfl c_iconst_2 (J_icmp_ne (pq := 66) (tgt := 82) dX5_nextToken_63 rfl rfl (fun c => ?_) (fun c => ?_))))
  · rw [k2, show (2 : Int32) = nI 2 from rfl, nI_eq (by omega) (by omega)] at c
    rw [if_neg c] at hE
    refine J_vret dX5_nextToken_82 rfl ?_
    refine ⟨rfl, ?_⟩
    rw [← hh3, xTok, hE, ← hh1]
  · rw [k2, show (2 : Int32) = nI 2 from rfl, nI_eq (by omega) (by omega)] at c
    rw [if_pos c] at hE
    exact k66 2 (tDg t) c (by omega) (fun j _ => kb2.symm) hE
theorem strB_l {k : Nat} (hk : k < 6) : (strB.getD k []).length = strL.getD k 0 := by
  have : ∀ k : Fin 6, (strB.getD k.val []).length = strL.getD k.val 0 := by decide
  exact this ⟨k, hk⟩
theorem j_isWord {k : Nat} (hk : k < 6) (hK : Kin h) (hX : XR h) (hn : gi h 1 1 = nI n) (hn4 : n ≤ 400) (ht : gi h 2 = t) (hp : p ≤ n) (hT : XT h t n p) : JF x yX5_isWord cX5_isWord 3 (some .boolean) 4 0 0 [.ref 8, .ref (1000000000 + (k + 1))] h (some (.int (bi (decide (tkK t n p = 1) && isw t (tkQ t n p) (tkE t n p) (strB.getD k []))))) h := by
  obtain ⟨t2, t3, t4⟩ := hT
  have hb := tkE_b (t := t) hp
  have hqe : tkQ t n p ≤ tkE t n p := by
    rw [tkE_K hp]
    have q1 := (rn_b (f := tLt t) hb.2.2.2.1).1
    have q2 := (rn_b (f := tDg t) hb.2.2.2.1).1
    repeat' split
    all_goals omega
  have hkl : tkK t n p < 5 := kb_lt _
  have hsl := strB_l hk
  have hL : strL.getD k 0 < 100 := by
    have : ∀ k : Fin 6, strL.getD k.val 0 < 100 := by decide
    exact this ⟨k, hk⟩
  refine JM_of [some (.ref 8), some (.ref (1000000000 + (k + 1))), none] (by decide) (Nat.le_of_ble_eq_true rfl) rfl ?_
  refine J_aload_n (pq := 1) dX5_isWord_0 rfl rfl (J_getI (pq := 4) dX5_isWord_1 rfl f_X5_57 jsI (by first | exact hc0 | exact hd0 | exact hK.at rfl) (J_iconst (pq := 5) dX5_isWord_4 rfl c_iconst_1 (J_icmp_ne (pq := 8) (tgt := 24) dX5_isWord_5 rfl rfl (fun c => ?_) (fun c => ?_))))
  · rw [t2, show (1 : Int32) = nI 1 from rfl, nI_eq (by omega) (by omega)] at c
    refine J_iconst (pq := 25) dX5_isWord_24 rfl c_iconst_0 (J_iret dX5_isWord_25 rfl (by first | rfl | exact bi_nar _) ?_)
    exact ⟨by rw [decide_eq_false c]; rfl, rfl⟩
  rw [t2, show (1 : Int32) = nI 1 from rfl, nI_eq (by omega) (by omega)] at c
  rw [decide_eq_true c, Bool.true_and]
  refine J_aload_n (pq := 9) dX5_isWord_8 rfl rfl (J_getI (pq := 12) dX5_isWord_9 rfl f_X5_51 jsI (by first | exact hc0 | exact hd0 | exact hK.at rfl) (J_aload_n (pq := 13) dX5_isWord_12 rfl rfl (J_getI (pq := 16) dX5_isWord_13 rfl f_X5_122 jsI (by first | exact hc0 | exact hd0 | exact hK.at rfl) (J_isub (pq := 17) dX5_isWord_16 rfl (J_aload_n (pq := 18) dX5_isWord_17 rfl rfl (?_))))))
  rw [t3, t4, pk_sub hqe]
  refine J_virtS hk (pq := 21) dX5_isWord_18 rfl (j_slen hk) rfl tg_J0_length_8abf5 l_X5_135 vi_J0_length_8abf5 rfl (Nat.le_of_ble_eq_true rfl) (Nat.zero_le _) (Nat.zero_le _) (Nat.le_of_ble_eq_true rfl) ?_
  refine J_icmp_eq (pq := 24) (tgt := 26) dX5_isWord_21 rfl rfl (fun c => ?_) (fun c => ?_)
  · rw [nI_eq (by omega) (by omega)] at c
    have cl := c
    refine J_iconst (pq := 27) dX5_isWord_26 rfl c_iconst_0 (J_istore_m 2 (pq := 28) dX5_isWord_27 rfl rfl (Nat.le_of_ble_eq_true rfl) (Nat.le_of_ble_eq_true rfl) rfl (?_))
    refine J_loop (σ := Nat) (fun i => [some (.ref 8), some (.ref (1000000000 + (k + 1))), some (.int (nI i))]) (fun _ => []) (fun _ => h) (fun i => i ≤ strL.getD k 0 ∧ ∀ j, j < i → t (tkQ t n p + j) = (strB.getD k []).getD j 0) (fun i => strL.getD k 0 - i) 0 rfl rfl rfl ⟨Nat.zero_le _, fun j q => absurd q (Nat.not_lt_zero _)⟩ (fun i hi ih => ?_)
    obtain ⟨i1, i2⟩ := hi
    refine J_iload_n (pq := 29) dX5_isWord_28 rfl rfl (J_aload_n (pq := 30) dX5_isWord_29 rfl rfl (?_))
    refine J_virtS hk (pq := 33) dX5_isWord_30 rfl (j_slen hk) rfl tg_J0_length_8abf5 l_X5_135 vi_J0_length_8abf5 rfl (Nat.le_of_ble_eq_true rfl) (Nat.zero_le _) (Nat.zero_le _) (Nat.le_of_ble_eq_true rfl) ?_
    refine J_icmp_ge (pq := 36) (tgt := 65) dX5_isWord_33 rfl rfl (fun c => ?_) (fun c => ?_)
    · rw [nI_leI (by omega) (by omega)] at c
      refine J_iconst (pq := 66) dX5_isWord_65 rfl c_iconst_1 (J_iret dX5_isWord_66 rfl (by first | rfl | exact bi_nar _) ?_)
      refine ⟨?_, rfl⟩
      rw [show isw t (tkQ t n p) (tkE t n p) (strB.getD k []) = true from by
        unfold isw
        rw [hsl, decide_eq_true cl, decide_eq_true (fun j hj => i2 j (by omega))]; rfl]
      rfl
    · rw [nI_leI (by omega) (by omega)] at c
      have hi : i < strL.getD k 0 := by omega
      have hat := j_at (x := x) (k := tkQ t n p + i) hK hX hn hn4 (by omega)
      rw [ht, show tat t n (tkQ t n p + i) = t (tkQ t n p + i) from by unfold tat; rw [if_pos (by omega)]] at hat
      refine J_aload_n (pq := 37) dX5_isWord_36 rfl rfl (J_getA (pq := 40) dX5_isWord_37 rfl f_X5_19 (by decide +kernel) (by first | exact hc0 | exact hd0 | exact hK.at rfl) (hX _ _ _ rfl) (J_aload_n (pq := 41) dX5_isWord_40 rfl rfl (J_getI (pq := 44) dX5_isWord_41 rfl f_X5_122 jsI (by first | exact hc0 | exact hd0 | exact hK.at rfl) (J_iload_n (pq := 45) dX5_isWord_44 rfl rfl (J_iadd (pq := 46) dX5_isWord_45 rfl (?_))))))
      rw [t3, nI_add]
      refine J_virtF (pq := 49) dX5_isWord_46 rfl (hat) rfl tg_X6_at l_X5_140 vi_X6_at (by first | exact hc0 | exact hd0 | exact hK.at rfl) ⟨by decide, rfl⟩ (Nat.le_of_ble_eq_true rfl) (Nat.zero_le _) (Nat.zero_le _) (Nat.le_of_ble_eq_true rfl) (J_aload_n (pq := 50) dX5_isWord_49 rfl rfl (J_iload_n (pq := 51) dX5_isWord_50 rfl rfl (?_)))
      refine J_virtS hk (pq := 54) dX5_isWord_51 rfl (j_chAt hk hi) rfl tg_J0_charAt_5068e l_X5_143 vi_J0_charAt_5068e rfl (Nat.le_of_ble_eq_true rfl) (Nat.zero_le _) (Nat.zero_le _) (Nat.le_of_ble_eq_true rfl) ?_
      refine J_icmp_eq (pq := 57) (tgt := 59) dX5_isWord_54 rfl rfl (fun c => ?_) (fun c => ?_)
      · refine J_iinc (pq := 62) dX5_isWord_59 rfl c_iconst_1 rfl (Nat.le_of_ble_eq_true rfl) rfl (J_goto (tgt := 28) dX5_isWord_62 rfl (?_))
        rw [nI_1]
        refine ih (i + 1) ⟨by omega, fun j hj => ?_⟩ (by omega)
        by_cases hji : j = i
        · subst hji; exact c
        · exact i2 j (by omega)
      · refine J_iconst (pq := 58) dX5_isWord_57 rfl c_iconst_0 (J_iret dX5_isWord_58 rfl (by first | rfl | exact bi_nar _) ?_)
        refine ⟨?_, rfl⟩
        rw [show isw t (tkQ t n p) (tkE t n p) (strB.getD k []) = false from by
          unfold isw
          rw [Bool.and_eq_false_iff]
          right
          rw [decide_eq_false_iff_not, hsl]
          exact fun q => c (q i hi)]
        rfl
  · rw [nI_eq (by omega) (by omega)] at c
    refine J_iconst (pq := 25) dX5_isWord_24 rfl c_iconst_0 (J_iret dX5_isWord_25 rfl (by first | rfl | exact bi_nar _) ?_)
    refine ⟨?_, rfl⟩
    rw [show isw t (tkQ t n p) (tkE t n p) (strB.getD k []) = false from by
      unfold isw; rw [hsl, decide_eq_false c]; rfl]
    rfl
theorem j_isSign {s : Int32} (hK : Kin h) (hX : XR h) (hn : gi h 1 1 = nI n) (hn4 : n ≤ 400) (ht : gi h 2 = t) (hp : p ≤ n) (hT : XT h t n p) : JF x yX5_isSign cX5_isSign 2 (some .boolean) 1 0 0 [.ref 8, .int s] h (some (.int (bi (decide (tkK t n p = 3) && decide (tat t n (tkQ t n p) = s))))) h := by
  obtain ⟨t2, t3, t4⟩ := hT
  have hb := tkE_b (t := t) hp
  have hkl : tkK t n p < 5 := kb_lt _
  have hat := j_at (x := x) (k := tkQ t n p) hK hX hn hn4 (by omega)
  rw [ht] at hat
  refine JM_of [some (.ref 8), some (.int s)] (by decide) (Nat.le_of_ble_eq_true rfl) rfl ?_
  refine J_aload_n (pq := 1) dX5_isSign_0 rfl rfl (J_getI (pq := 4) dX5_isSign_1 rfl f_X5_57 jsI (by first | exact hc0 | exact hd0 | exact hK.at rfl) (J_iconst (pq := 5) dX5_isSign_4 rfl c_iconst_3 (J_icmp_ne (pq := 8) (tgt := 27) dX5_isSign_5 rfl rfl (fun c => ?_) (fun c => ?_))))
  · rw [t2, show (3 : Int32) = nI 3 from rfl, nI_eq (by omega) (by omega)] at c
    refine J_iconst (pq := 28) dX5_isSign_27 rfl c_iconst_0 (J_iret dX5_isSign_28 rfl (by first | rfl | exact bi_nar _) ?_)
    exact ⟨by rw [decide_eq_false c]; rfl, rfl⟩
  rw [t2, show (3 : Int32) = nI 3 from rfl, nI_eq (by omega) (by omega)] at c
  rw [decide_eq_true c, Bool.true_and]
  refine J_aload_n (pq := 9) dX5_isSign_8 rfl rfl (J_getA (pq := 12) dX5_isSign_9 rfl f_X5_19 (by decide +kernel) (by first | exact hc0 | exact hd0 | exact hK.at rfl) (hX _ _ _ rfl) (J_aload_n (pq := 13) dX5_isSign_12 rfl rfl (J_getI (pq := 16) dX5_isSign_13 rfl f_X5_122 jsI (by first | exact hc0 | exact hd0 | exact hK.at rfl) (?_))))
  rw [t3]
  refine J_virtF (pq := 19) dX5_isSign_16 rfl (hat) rfl tg_X6_at l_X5_140 vi_X6_at (by first | exact hc0 | exact hd0 | exact hK.at rfl) ⟨by decide, rfl⟩ (Nat.le_of_ble_eq_true rfl) (Nat.zero_le _) (Nat.zero_le _) (Nat.le_of_ble_eq_true rfl) (J_iload_n (pq := 20) dX5_isSign_19 rfl rfl (J_icmp_ne (pq := 23) (tgt := 27) dX5_isSign_20 rfl rfl (fun c => ?_) (fun c => ?_)))
  · refine J_iconst (pq := 28) dX5_isSign_27 rfl c_iconst_0 (J_iret dX5_isSign_28 rfl (by first | rfl | exact bi_nar _) ?_)
    exact ⟨by rw [decide_eq_false c]; rfl, rfl⟩
  · refine J_iconst (pq := 24) dX5_isSign_23 rfl c_iconst_1 (J_goto (tgt := 28) dX5_isSign_24 rfl (J_iret dX5_isSign_28 rfl (by first | rfl | exact bi_nar _) ?_))
    exact ⟨by rw [decide_eq_true c]; rfl, rfl⟩
theorem j_tokNum (hK : Kin h) (hX : XR h) (hn : gi h 1 1 = nI n) (hn4 : n ≤ 400) (ht : gi h 2 = t) (hp : p ≤ n) (hT : XT h t n p) (hC1 : tkC t n p = 1) : JF x yX5_tokenNumber cX5_tokenNumber 3 (some .int) 1 0 0 [.ref 8] h (some (.int (nI (min 1000 (dval t (tkQ t n p) (tkE t n p - tkQ t n p)))))) h := by
  obtain ⟨t2, t3, t4⟩ := hT
  have hb := tkE_b (t := t) hp
  have hdg := hb.2.2.2.2 hC1
  have hqe : tkQ t n p ≤ tkE t n p := by
    rw [tkE_K hp]
    have q1 := (rn_b (f := tLt t) hb.2.2.2.1).1
    have q2 := (rn_b (f := tDg t) hb.2.2.2.1).1
    repeat' split
    all_goals omega
  refine JM_of [some (.ref 8), none, none] (by decide) (Nat.le_of_ble_eq_true rfl) rfl ?_
  refine J_iconst (pq := 1) dX5_tokenNumber_0 rfl c_iconst_0 (J_istore_m 1 (pq := 2) dX5_tokenNumber_1 rfl rfl (Nat.le_of_ble_eq_true rfl) (Nat.le_of_ble_eq_true rfl) rfl (J_aload_n (pq := 3) dX5_tokenNumber_2 rfl rfl (J_getI (pq := 6) dX5_tokenNumber_3 rfl f_X5_122 jsI (by first | exact hc0 | exact hd0 | exact hK.at rfl) (?_))))
  rw [t3]
  refine J_istore_m 2 (pq := 7) dX5_tokenNumber_6 rfl rfl (Nat.le_of_ble_eq_true rfl) (Nat.le_of_ble_eq_true rfl) rfl (?_)
  refine J_loop (σ := Nat) (fun k => [some (.ref 8), some (.int (nI (min 1000 (dval t (tkQ t n p) k)))), some (.int (nI (tkQ t n p + k)))]) (fun _ => []) (fun _ => h) (fun k => tkQ t n p + k ≤ tkE t n p) (fun k => tkE t n p - (tkQ t n p + k)) 0 rfl rfl rfl hqe (fun k hk ih => ?_)
  refine J_iload_n (pq := 8) dX5_tokenNumber_7 rfl rfl (J_aload_n (pq := 9) dX5_tokenNumber_8 rfl rfl (J_getI (pq := 12) dX5_tokenNumber_9 rfl f_X5_51 jsI (by first | exact hc0 | exact hd0 | exact hK.at rfl) (J_icmp_ge (pq := 15) (tgt := 44) dX5_tokenNumber_12 rfl rfl (fun c => ?_) (fun c => ?_))))
  · rw [t4, nI_leI (by omega) (by omega)] at c
    refine J_iload_n (pq := 45) dX5_tokenNumber_44 rfl rfl (J_iret dX5_tokenNumber_45 rfl rfl ?_)
    exact ⟨by rw [show tkE t n p - tkQ t n p = k by omega], rfl⟩
  rw [t4, nI_leI (by omega) (by omega)] at c
  have hat := j_at (x := x) (k := tkQ t n p + k) hK hX hn hn4 (by omega)
  rw [ht, show tat t n (tkQ t n p + k) = t (tkQ t n p + k) from by unfold tat; rw [if_pos (by omega)]] at hat
  have hd := hdg k (by omega)
  unfold isDg at hd
  rw [isin_t] at hd
  simp at hd
  obtain ⟨b, hb31, hbe⟩ := nI_of (x := t (tkQ t n p + k)) (by rw [Int32.lt_iff_toInt_lt]; simp; omega)
  have hbt : (t (tkQ t n p + k)).toInt = b := by rw [hbe, nI_toInt hb31]
  rw [hbe] at hat
  refine J_sipush (pq := 18) dX5_tokenNumber_15 rfl c_sipush_1000 (J_iload_n (pq := 19) dX5_tokenNumber_18 rfl rfl (J_bipush (pq := 21) dX5_tokenNumber_19 rfl c_bipush_10 (J_imul (pq := 22) dX5_tokenNumber_21 rfl (J_aload_n (pq := 23) dX5_tokenNumber_22 rfl rfl (J_getA (pq := 26) dX5_tokenNumber_23 rfl f_X5_19 (by decide +kernel) (by first | exact hc0 | exact hd0 | exact hK.at rfl) (hX _ _ _ rfl) (J_iload_n (pq := 27) dX5_tokenNumber_26 rfl rfl (J_virtF (pq := 30) dX5_tokenNumber_27 rfl (hat) rfl tg_X6_at l_X5_140 vi_X6_at (by first | exact hc0 | exact hd0 | exact hK.at rfl) ⟨by decide, rfl⟩ (Nat.le_of_ble_eq_true rfl) (Nat.zero_le _) (Nat.zero_le _) (Nat.le_of_ble_eq_true rfl) (J_iadd (pq := 31) dX5_tokenNumber_30 rfl (J_bipush (pq := 33) dX5_tokenNumber_31 rfl c_bipush_48 (J_isub (pq := 34) dX5_tokenNumber_33 rfl (?_)))))))))))
  rw [show (10 : Int32) = nI 10 from rfl, pk_mul, nI_add, show (48 : Int32) = nI 48 from rfl, pk_sub (by omega)]
  refine J_statF (pq := 37) dX5_tokenNumber_34 rfl (j_min (m := 1000) (by omega) (by omega)) rfl tg_J9_min_7cf53 l_X5_147 st_J9_min_7cf53 (Nat.le_of_ble_eq_true rfl) (Nat.zero_le _) (Nat.zero_le _) (Nat.le_of_ble_eq_true rfl) (J_istore_m 1 (pq := 38) dX5_tokenNumber_37 rfl rfl (Nat.le_of_ble_eq_true rfl) (Nat.le_of_ble_eq_true rfl) rfl (J_iinc (pq := 41) dX5_tokenNumber_38 rfl c_iconst_1 rfl (Nat.le_of_ble_eq_true rfl) rfl (J_goto (tgt := 7) dX5_tokenNumber_41 rfl (?_))))
  rw [nI_1]
  refine J_eq ?_ rfl rfl (ih (k + 1) (by omega) (by omega))
  rw [show dval t (tkQ t n p) (k + 1) = 10 * dval t (tkQ t n p) k + ((t (tkQ t n p + k)).toInt.toNat - 48) from rfl, hbt]
  rw [show min 1000 (min 1000 (dval t (tkQ t n p) k) * 10 + b - 48) = min 1000 (10 * dval t (tkQ t n p) k + ((b : Int).toNat - 48)) by omega]
  rfl
end T3
