-- the reference's reading of a recipe as a whole
theorem pstep_lt {t : Nat → Int32} {n p e : Nat} {fs : List Fr} {cur : Cond} {s : Nat × List Fr × Cond × Nat} (hp : p ≤ n) (h0 : tkC t n p ≠ 0) (h : pstep t n p fs cur e = .inr s) : p < s.1 := by
  have hE0 := tkE_b (t := t) hp
  have hE1 := tkE_b (t := t) (n := n) (p := tkE t n p) hE0.2.1
  have hE2 := tkE_b (t := t) (n := n) (p := tkE t n (tkE t n p)) hE1.2.1
  have h3 := hE0.2.2.1 h0
  unfold pstep at h
  repeat' split at h
  all_goals cases h
  all_goals (simp only; omega)
theorem isK {v : Int32} {n : Nat} (hn : n < 2147483647) : isin v 0 (nI n) = true ↔ ∃ k, k ≤ n ∧ v = nI k := by
  rw [show nI n = nI (n + 1) - 1 by rw [nI_pred], isinN (by omega)]
  constructor
  · rintro ⟨k, h1, h2⟩; exact ⟨k, by omega, h2⟩
  · rintro ⟨k, h1, h2⟩; exact ⟨k, by omega, h2⟩
/-- what the reference holds of a recipe that was read -/
def MRec (G : Nat → Nat → Int32) (r : Nat) (c : Cond) (e : Nat) : Prop := PG c ∧ e ≤ 40 ∧ ∃ o, o ≤ 2 * e ∧ G 61 r = nI o ∧ G 62 r = nI e ∧ G 66 r = nI (cap (pP c)) ∧ G 67 r = nI (cap (pW c)) ∧ MS G (100 * r) c 0 o
def RdP (t : Nat → Int32) (n : Nat) (h : JH) (v : Option Value) (g : JH) : Prop :=
  RF h g ∧ v = some (.int (nI (recS t n).1)) ∧ (recS t n).1 < 10 ∧ ((recS t n).1 ≠ 0 → gi g 38 38 = nI (recS t n).2.1) ∧
  ((recS t n).1 = 0 → PG (recS t n).2.2.1 ∧ (recS t n).2.2.2 ≤ 40 ∧ ∃ o, o ≤ 2 * (recS t n).2.2.2 ∧ gi g 38 50 = nI o ∧ gi g 38 51 = nI (recS t n).2.2.2 ∧ gi g 38 48 = nI (cap (pP (recS t n).2.2.1)) ∧ gi g 38 49 = nI (cap (pW (recS t n).2.2.1)) ∧ MS (gi g) 400 (recS t n).2.2.1 0 o)
section P6
variable {x : JX} {h : JH}
set_option maxHeartbeats 1000000 in
theorem j_X9_readRecipe {t : Nat → Int32} {n : Nat} (hK : Kin h) (hR : MR h) (hn : gi h 38 2 = nI n) (hn4 : n ≤ 400) (ht : gi h 40 = t) (hby : tby t) : JM x yX9_readRecipe cX9_readRecipe 2 (some .int) 5 0 0 [.ref 38] h (RdP t n h) := by
  refine JM_of [some (.ref 38), none] (by decide) (Nat.le_of_ble_eq_true rfl) rfl ?_
  refine J_aload_n (pq := 1) dX9_readRecipe_0 rfl rfl (J_sipush (pq := 4) dX9_readRecipe_1 rfl c_sipush_200 (J_putI (pq := 7) dX9_readRecipe_4 rfl f_X9_233 (Or.inl rfl) (hK.at rfl) (J_aload_n (pq := 8) dX9_readRecipe_7 rfl rfl (J_getI (pq := 11) dX9_readRecipe_8 rfl f_X9_130 jsI (hK.at rfl) (J_sipush (pq := 14) dX9_readRecipe_11 rfl c_sipush_200 (J_icmp_le (pq := 17) (tgt := 19) dX9_readRecipe_14 rfl rfl (fun c => ?_) (fun c => ?_)))))))
  · rw [gi_si, if_neg (by decide), hn, show (200 : Int32) = nI 200 from rfl, nI_leI (by omega) (by omega)] at c
    have hF0 : RF h (si (si (si (si (si (si (si h 38 38 200) 38 37 0) 38 47 0) 38 48 0) 38 49 0) 38 50 0) 38 51 0) := (((((((RF.f38 h 38 _ (by omega)).tr (RF.f38 _ 37 _ (by omega))).tr (RF.f38 _ 47 _ (by omega))).tr (RF.f38 _ 48 _ (by omega))).tr (RF.f38 _ 49 _ (by omega))).tr (RF.f38 _ 50 _ (by omega))).tr (RF.f38 _ 51 _ (by omega)))
    have hg0 : ∀ a b, ¬ (a = 38 ∧ 37 ≤ b ∧ b ≤ 51) → gi (si (si (si (si (si (si (si h 38 38 200) 38 37 0) 38 47 0) 38 48 0) 38 49 0) 38 50 0) 38 51 0) a b = gi h a b := fun a b q => by
      rw [gi_si, if_neg (by omega), gi_si, if_neg (by omega), gi_si, if_neg (by omega), gi_si, if_neg (by omega), gi_si, if_neg (by omega), gi_si, if_neg (by omega), gi_si, if_neg (by omega)]
    have e37 : gi (si (si (si (si (si (si (si h 38 38 200) 38 37 0) 38 47 0) 38 48 0) 38 49 0) 38 50 0) 38 51 0) 38 37 = nI 0 := by simp [gi_si]; rfl
    have e47 : ∀ b, 47 ≤ b → b ≤ 51 → gi (si (si (si (si (si (si (si h 38 38 200) 38 37 0) 38 47 0) 38 48 0) 38 49 0) 38 50 0) 38 51 0) 38 b = nI 0 := fun b h1 h2 => by
      rcases (show b = 47 ∨ b = 48 ∨ b = 49 ∨ b = 50 ∨ b = 51 by omega) with rfl | rfl | rfl | rfl | rfl <;> (simp [gi_si]; rfl)
    refine J_aload_n (pq := 20) dX9_readRecipe_19 rfl rfl (J_iconst (pq := 21) dX9_readRecipe_20 rfl c_iconst_0 (J_putI (pq := 24) dX9_readRecipe_21 rfl f_X9_227 (Or.inl rfl) (hK.at rfl) (J_aload_n (pq := 25) dX9_readRecipe_24 rfl rfl (J_iconst (pq := 26) dX9_readRecipe_25 rfl c_iconst_0 (J_putI (pq := 29) dX9_readRecipe_26 rfl f_X9_256 (Or.inl rfl) (hK.at rfl) (J_aload_n (pq := 30) dX9_readRecipe_29 rfl rfl (J_iconst (pq := 31) dX9_readRecipe_30 rfl c_iconst_0 (J_putI (pq := 34) dX9_readRecipe_31 rfl f_X9_259 (Or.inl rfl) (hK.at rfl) (J_aload_n (pq := 35) dX9_readRecipe_34 rfl rfl (J_iconst (pq := 36) dX9_readRecipe_35 rfl c_iconst_0 (J_putI (pq := 39) dX9_readRecipe_36 rfl f_X9_262 (Or.inl rfl) (hK.at rfl) (J_aload_n (pq := 40) dX9_readRecipe_39 rfl rfl (J_iconst (pq := 41) dX9_readRecipe_40 rfl c_iconst_0 (J_putI (pq := 44) dX9_readRecipe_41 rfl f_X9_253 (Or.inl rfl) (hK.at rfl) (J_aload_n (pq := 45) dX9_readRecipe_44 rfl rfl (J_iconst (pq := 46) dX9_readRecipe_45 rfl c_iconst_0 (J_putI (pq := 49) dX9_readRecipe_46 rfl f_X9_269 (Or.inl rfl) (hK.at rfl) (?_))))))))))))))))))
    generalize hh0 : si (si (si (si (si (si (si h 38 38 200) 38 37 0) 38 47 0) 38 48 0) 38 49 0) 38 50 0) 38 51 0 = h0 at *
    have hK0 : Kin h0 := by rw [← hh0]; exact hK
    have hR0 : MR h0 := by rw [← hh0]; exact hR
    have ht0 : gi h0 40 = t := by rw [← ht]; exact funext fun b => hg0 40 b (by simp)
    have hn0 : gi h0 38 2 = nI n := by rw [hg0 38 2 (by decide)]; exact hn
    refine J_aload_n (pq := 50) dX9_readRecipe_49 rfl rfl (J_virtF (pq := 53) dX9_readRecipe_50 rfl (j_X9_nextToken hK0 hR0 hn0 (by omega) ht0 hby e37 (Nat.zero_le n)) rfl tg_X9_nextToken l_X9_272 vi_X9_nextToken (hK0.at rfl) ⟨by decide, rfl⟩ (Nat.le_of_ble_eq_true rfl) (Nat.zero_le _) (Nat.zero_le _) (Nat.le_of_ble_eq_true rfl) (?_))
    have hn200 : n ≤ 200 := c
    have hrec : prs t n (n + 1) 0 [] pN 0 = recS t n := by unfold recS; rw [if_pos hn200]
    have hP0 : PI (mTok h0 t n 0) t n 0 [] pN 0 0 := by
      refine ⟨hK0.of2 mTok_2, hR0.of2 mTok_2, ?_, ?_, Nat.zero_le n, mTok_T, ?_, ?_, ?_, ?_, ?_, ⟨trivial, rfl⟩, by simp, by simp, by simp [fwant]⟩
      · rw [mTok_o (by decide)]; exact hn0
      · rw [← ht0]; exact funext fun b => mTok_o (by simp)
      · rw [mTok_o (by decide), e47 47 (by omega) (by omega)]; rfl
      · rw [mTok_o (by decide), e47 48 (by omega) (by omega)]; rfl
      · rw [mTok_o (by decide), e47 49 (by omega) (by omega)]; rfl
      · rw [mTok_o (by decide), e47 50 (by omega) (by omega)]
      · rw [mTok_o (by decide), e47 51 (by omega) (by omega)]
    refine J_loop (σ := JH × Nat × List Fr × Cond × Nat × Nat) (fun s => [some (.ref 38), none]) (fun _ => []) (fun s => s.1) (fun s => RF h s.1 ∧ PI s.1 t n s.2.1 s.2.2.1 s.2.2.2.1 s.2.2.2.2.1 s.2.2.2.2.2 ∧ ∃ f, n - s.2.1 < f ∧ prs t n f s.2.1 s.2.2.1 s.2.2.2.1 s.2.2.2.2.1 = recS t n) (fun s => n - s.2.1) (mTok h0 t n 0, 0, [], pN, 0, 0) rfl rfl rfl ⟨hF0.tr (RF.tok _ _ _ _), hP0, n + 1, by simp, hrec⟩ (fun s hs ih => ?_)
    obtain ⟨g, p, fs, cur, e, o⟩ := s
    obtain ⟨hFg, hP, f, hf, hprs⟩ := hs
    simp only at hFg hP hf hprs ih ⊢
    have hP' := hP
    obtain ⟨hKg, hRg, hng, htg, hp, hT, h47, h48, h49, h50, h51, hZ, hf5, he40, hob⟩ := hP
    have hlt := tkC_lt t n p
    obtain ⟨f, rfl⟩ : ∃ f', f = f' + 1 := ⟨f - 1, by omega⟩
    unfold prs at hprs
    refine J_aload_n (pq := 54) dX9_readRecipe_53 rfl rfl (J_getI (pq := 57) dX9_readRecipe_54 rfl f_X9_236 jsI (hKg.at rfl) (J_if_eq (pq := 60) (tgt := 89) dX9_readRecipe_57 rfl rfl (fun c => ?_) (fun c => ?_)))
    · rw [hT.2.2.1, show (0 : Int32) = nI 0 from rfl, nI_eq (by omega) (by omega)] at c
      rw [if_pos c] at hprs
      refine J_aload_n (pq := 90) dX9_readRecipe_89 rfl rfl (J_getI (pq := 93) dX9_readRecipe_90 rfl f_X9_256 jsI (hKg.at rfl) (J_if_le (pq := 96) (tgt := 100) dX9_readRecipe_93 rfl rfl (fun c => ?_) (fun c => ?_)))
      · rw [h47, show (0 : Int32) = nI 0 from rfl, nI_leI (by omega) (by omega)] at c
        have hfs : fs = [] := List.eq_nil_of_length_eq_zero (by omega)
        subst hfs
        have hprs : (0, 0, cur, e) = recS t n := hprs
        refine J_iconst (pq := 101) dX9_readRecipe_100 rfl c_iconst_0 (J_iret dX9_readRecipe_101 rfl rfl ?_)
        unfold RdP
        rw [← hprs]
        exact ⟨hFg, rfl, by simp, fun q => absurd rfl q, fun _ => ⟨hZ.1, he40, o, by simp [fwant] at hob; exact hob, h50, h51, h48, h49, hZ.2⟩⟩
      · rw [h47, show (0 : Int32) = nI 0 from rfl, nI_leI (by omega) (by omega)] at c
        rcases fs with _ | ⟨fr, fs⟩
        · simp at c
        have hprs : (1, tkQ t n p, cur, e) = recS t n := hprs
        refine J_iconst (pq := 97) dX9_readRecipe_96 rfl c_iconst_1 (J_goto (tgt := 101) dX9_readRecipe_97 rfl (J_iret dX9_readRecipe_101 rfl rfl ?_))
        unfold RdP
        rw [← hprs]
        exact ⟨hFg, rfl, by simp, fun q => hT.2.1, fun q => by simp at q⟩
    · rw [hT.2.2.1, show (0 : Int32) = nI 0 from rfl, nI_eq (by omega) (by omega)] at c
      have c0 := c
      rw [if_neg c0] at hprs
      have k79 : ∀ (v : Option Value) (g2 : JH), StP t n (pstep t n p fs cur e) g v g2 → J x yX9_readRecipe cX9_readRecipe 2 (some .int) 5 (0 - 0 - 0) (0 - 0 - 0) (RdP t n h) 79 [some (.ref 38), none] (v.toList ++ []) g2 := by
        intro v g2 hq
        obtain ⟨q1, q2⟩ := hq
        cases hps : pstep t n p fs cur e with
        | inl q =>
          rw [hps] at q2 hprs
          simp only at q2 hprs
          obtain ⟨rfl, q3, q4, q5⟩ := q2
          refine J_istore_m 1 (pq := 80) dX9_readRecipe_79 rfl rfl (Nat.le_of_ble_eq_true rfl) (Nat.le_of_ble_eq_true rfl) rfl (J_iload_n (pq := 81) dX9_readRecipe_80 rfl rfl (J_if_eq (pq := 84) (tgt := 86) dX9_readRecipe_81 rfl rfl (fun c => ?_) (fun c => ?_)))
          · rw [show (0 : Int32) = nI 0 from rfl, nI_eq (by omega) (by omega)] at c
            exact absurd c q4
          · refine J_iload_n (pq := 85) dX9_readRecipe_84 rfl rfl (J_iret dX9_readRecipe_85 rfl rfl ?_)
            unfold RdP
            rw [← hprs]
            exact ⟨hFg.tr q1, rfl, q5, fun _ => q3, fun q => absurd q q4⟩
        | inr s =>
          rw [hps] at q2 hprs
          simp only at q2 hprs
          obtain ⟨rfl, o', q3⟩ := q2
          have hlt2 := pstep_lt hp c0 hps
          have hle2 : s.1 ≤ n := q3.2.2.2.2.1
          refine J_istore_m 1 (pq := 80) dX9_readRecipe_79 rfl rfl (Nat.le_of_ble_eq_true rfl) (Nat.le_of_ble_eq_true rfl) rfl (J_iload_n (pq := 81) dX9_readRecipe_80 rfl rfl (J_if_eq (pq := 84) (tgt := 86) dX9_readRecipe_81 rfl rfl (fun c => ?_) (fun c => ?_)))
          · refine J_goto (tgt := 53) dX9_readRecipe_86 rfl (?_)
            exact J_weak (by simp [lsub]) rfl rfl (ih (g2, s.1, s.2.1, s.2.2.1, s.2.2.2, o') ⟨hFg.tr q1, q3, f, by simp only; omega, hprs⟩ (by simp only; omega))
          · exact absurd rfl c
      refine J_aload_n (pq := 61) dX9_readRecipe_60 rfl rfl (J_getI (pq := 64) dX9_readRecipe_61 rfl f_X9_236 jsI (hKg.at rfl) (J_iconst (pq := 65) dX9_readRecipe_64 rfl c_iconst_4 (J_icmp_ne (pq := 68) (tgt := 75) dX9_readRecipe_65 rfl rfl (fun c => ?_) (fun c => ?_))))
      · rw [hT.2.2.1, show (4 : Int32) = nI 4 from rfl, nI_eq (by omega) (by omega)] at c
        refine J_aload_n (pq := 76) dX9_readRecipe_75 rfl rfl (J_virt (pq := 79) dX9_readRecipe_76 rfl (j_X9_step hn200 hby hP' c0 c) rfl tg_X9_step l_X9_292 vi_X9_step (hKg.at rfl) ⟨by decide, rfl⟩ (Nat.le_of_ble_eq_true rfl) (Nat.zero_le _) (Nat.zero_le _) (Nat.le_of_ble_eq_true rfl) (fun v g hq => ?_))
        exact k79 v _ hq
      · rw [hT.2.2.1, show (4 : Int32) = nI 4 from rfl, nI_eq (by omega) (by omega)] at c
        refine J_aload_n (pq := 69) dX9_readRecipe_68 rfl rfl (J_virt (pq := 72) dX9_readRecipe_69 rfl (j_X9_brace hn200 hby hP' c) rfl tg_X9_brace l_X9_289 vi_X9_brace (hKg.at rfl) ⟨by decide, rfl⟩ (Nat.le_of_ble_eq_true rfl) (Nat.zero_le _) (Nat.zero_le _) (Nat.le_of_ble_eq_true rfl) (fun v g hq => ?_))
        refine J_goto (tgt := 79) dX9_readRecipe_72 rfl (?_)
        exact k79 v _ hq
  · rw [gi_si, if_neg (by decide), hn, show (200 : Int32) = nI 200 from rfl, nI_leI (by omega) (by omega)] at c
    have hrec : recS t n = (1, 200, pN, 0) := by unfold recS; rw [if_neg c]
    refine J_iconst (pq := 18) dX9_readRecipe_17 rfl c_iconst_1 (J_iret dX9_readRecipe_18 rfl rfl ?_)
    unfold RdP
    rw [hrec]
    exact ⟨RF.f38 h 38 _ (by omega), rfl, by simp, fun _ => by rw [gi_si, if_pos ⟨rfl, rfl⟩]; rfl, fun q => by simp at q⟩
/-- what recipe leaves as it was -/
def RcF (r : Nat) (h g : JH) : Prop := g.2 = h.2 ∧ ∀ a b, ¬ (a = 38 ∧ ((37 ≤ b ∧ b ≤ 51) ∨ b = 2 ∨ b = 3 ∨ b = 4)) → ¬ ((a = 63 ∨ a = 64 ∨ a = 65) ∧ (400 ≤ b ∨ (100 * r ≤ b ∧ b < 100 * r + 100))) → ¬ (68 ≤ a ∧ a ≤ 73) → ¬ ((a = 61 ∨ a = 62 ∨ a = 66 ∨ a = 67) ∧ b = r) → gi g a b = gi h a b
def RcP (t : Nat → Int32) (n r : Nat) (h : JH) (v : Option Value) (g : JH) : Prop :=
  RcF r h g ∧ gi g 38 2 = 0 ∧ gi g 38 3 = nI (recS t n).1 ∧
  ((recS t n).1 ≠ 0 → v = some (.int (-1)) ∧ gi g 38 4 = nI (recS t n).2.1 ∧ (∀ a b, (a = 61 ∨ a = 62 ∨ a = 66 ∨ a = 67 ∨ (63 ≤ a ∧ a ≤ 65 ∧ b < 400)) → gi g a b = gi h a b)) ∧
  ((recS t n).1 = 0 → v = some (.int (nI (recS t n).2.2.2)) ∧ gi g 38 4 = -1 ∧ MRec (gi g) r (recS t n).2.2.1 (recS t n).2.2.2)
theorem j_X9_recipe_no {v : Int32} (hv : isin v 0 3 = false) : JF x yX9_recipe cX9_recipe 3 (some .int) 6 0 0 [.ref 38, .int v] h (some (.int (-1))) h := by
  refine JM_of [some (.ref 38), some (.int v), none] (by decide) (Nat.le_of_ble_eq_true rfl) rfl ?_
  refine J_iload_n (pq := 1) dX9_recipe_0 rfl rfl (J_iconst (pq := 2) dX9_recipe_1 rfl c_iconst_0 (J_iconst (pq := 3) dX9_recipe_2 rfl c_iconst_3 (J_statF (pq := 6) dX9_recipe_3 rfl (j_X9_isIn) rfl tg_X9_isIn l_X9_137 st_X9_isIn (Nat.le_of_ble_eq_true rfl) (Nat.zero_le _) (Nat.zero_le _) (Nat.le_of_ble_eq_true rfl) (J_if_ne (pq := 9) (tgt := 11) dX9_recipe_6 rfl rfl (fun c => ?_) (fun c => ?_)))))
  · rw [hv] at c; exact absurd rfl c
  · refine J_iconst (pq := 10) dX9_recipe_9 rfl c_iconst_m1 (J_iret dX9_recipe_10 rfl rfl ?_)
    exact ⟨rfl, rfl⟩
theorem j_X9_recipe {t : Nat → Int32} {n r : Nat} (hK : Kin h) (hR : MR h) (hr : r < 4) (hn : gi h 38 2 = nI n) (hn4 : n ≤ 400) (ht : gi h 40 = t) (hby : tby t) : JM x yX9_recipe cX9_recipe 3 (some .int) 6 0 0 [.ref 38, .int (nI r)] h (RcP t n r h) := by
  refine JM_of [some (.ref 38), some (.int (nI r)), none] (by decide) (Nat.le_of_ble_eq_true rfl) rfl ?_
  have hv : isin (nI r) 0 3 = true := (isK (n := 3) (by omega)).2 ⟨r, by omega, rfl⟩
  have hxr : ix (nI r) = r := ixn (by omega)
  have hbr : vp_in (nI r) 4 := vp_in_nI hr (by omega)
  refine J_iload_n (pq := 1) dX9_recipe_0 rfl rfl (J_iconst (pq := 2) dX9_recipe_1 rfl c_iconst_0 (J_iconst (pq := 3) dX9_recipe_2 rfl c_iconst_3 (J_statF (pq := 6) dX9_recipe_3 rfl (j_X9_isIn) rfl tg_X9_isIn l_X9_137 st_X9_isIn (Nat.le_of_ble_eq_true rfl) (Nat.zero_le _) (Nat.zero_le _) (Nat.le_of_ble_eq_true rfl) (J_if_ne (pq := 9) (tgt := 11) dX9_recipe_6 rfl rfl (fun c => ?_) (fun c => ?_)))))
  · refine J_aload_n (pq := 12) dX9_recipe_11 rfl rfl (J_aload_n (pq := 13) dX9_recipe_12 rfl rfl (J_virt (pq := 16) dX9_recipe_13 rfl (j_X9_readRecipe hK hR hn hn4 ht hby) rfl tg_X9_readRecipe l_X9_295 vi_X9_readRecipe (hK.at rfl) ⟨by decide, rfl⟩ (Nat.le_of_ble_eq_true rfl) (Nat.zero_le _) (Nat.zero_le _) (Nat.le_of_ble_eq_true rfl) (fun v g hq => ?_)))
    obtain ⟨hF, rfl, h10, hq1, hq2⟩ := hq
    have hKg : Kin g := hK.of2 hF.1
    have hRg : MR g := hR.of2 hF.1
    generalize hrs : recS t n = rs at *
    obtain ⟨f, pl, c, e⟩ := rs
    simp only at h10 hq1 hq2
    refine J_putI (pq := 19) dX9_recipe_16 rfl f_X9_16 (Or.inl rfl) (hKg.at rfl) (?_)
    refine J_cut (σ := Unit) 35 (fun _ => [some (.ref 38), some (.int (nI r)), none]) (fun _ => [.int (if f = 0 then -1 else nI pl), .ref 38]) (fun _ => si g 38 3 (nI f)) (fun _ => True) (fun _ _ => ?_) (fun k35 => ?_)
    · generalize hV : (if f = 0 then (-1 : Int32) else nI pl) = V
      refine J_putI (pq := 38) dX9_recipe_35 rfl f_X9_20 (Or.inl rfl) (hKg.at rfl) (J_aload_n (pq := 39) dX9_recipe_38 rfl rfl (J_iconst (pq := 40) dX9_recipe_39 rfl c_iconst_0 (J_putI (pq := 43) dX9_recipe_40 rfl f_X9_130 (Or.inl rfl) (hKg.at rfl) (?_))))
      generalize hh1 : si (si (si g 38 3 (nI f)) 38 4 V) 38 2 0 = h1
      have hK1 : Kin h1 := by rw [← hh1]; exact hKg
      have hR1 : MR h1 := by rw [← hh1]; exact hRg
      have hg1 : ∀ a b, ¬ (a = 38 ∧ (b = 2 ∨ b = 3 ∨ b = 4)) → gi h1 a b = gi g a b := fun a b q => by rw [← hh1, gi_si, if_neg (by omega), gi_si, if_neg (by omega), gi_si, if_neg (by omega)]
      have e2 : gi h1 38 2 = 0 := by rw [← hh1]; simp [gi_si]
      have e3 : gi h1 38 3 = nI f := by rw [← hh1]; simp [gi_si]
      have e4 : gi h1 38 4 = V := by rw [← hh1]; simp [gi_si]
      have hF1 : RcF r h h1 := ⟨by rw [← hF.1, ← hh1]; rfl, fun a b x1 x2 x3 x4 => by
        rw [hg1 a b (fun q => x1 ⟨q.1, by omega⟩)]
        exact hF.2 a b (fun q => x1 ⟨q.1, by omega⟩) (fun q => x2 ⟨q.1, Or.inl q.2⟩) x3⟩
      have e22 : h1.2 = g.2 := by rw [← hh1]; rfl
      refine J_aload_n (pq := 44) dX9_recipe_43 rfl rfl (J_getI (pq := 47) dX9_recipe_44 rfl f_X9_16 jsI (hK1.at rfl) (J_if_eq (pq := 50) (tgt := 52) dX9_recipe_47 rfl rfl (fun c => ?_) (fun c => ?_)))
      · rw [e3, show (0 : Int32) = nI 0 from rfl, nI_eq (by omega) (by omega)] at c
        have hq2 := hq2 c
        obtain ⟨p1, p2, o, p3, p4, p5, p6, p7, p8⟩ := hq2
        rw [c, if_pos rfl] at hV
        have f50 : gi h1 38 50 = nI o := by rw [hg1 38 50 (by decide)]; exact p4
        have f51 : gi h1 38 51 = nI e := by rw [hg1 38 51 (by decide)]; exact p5
        have f48 := (hg1 38 48 (by decide)).trans p6
        have f49 := (hg1 38 49 (by decide)).trans p7
        have hbr : vp_in (nI r) 5 := vp_in_nI (by omega) (by omega)
        refine J_aload_n (pq := 53) dX9_recipe_52 rfl rfl (J_getA (pq := 56) dX9_recipe_53 rfl f_X9_85 (by decide +kernel) (hK1.at rfl) (hR1 _ _ rfl) (J_iload_n (pq := 57) dX9_recipe_56 rfl rfl (J_aload_n (pq := 58) dX9_recipe_57 rfl rfl (J_getI (pq := 61) dX9_recipe_58 rfl f_X9_253 jsI (hK1.at rfl) (J_iast (pq := 62) dX9_recipe_61 rfl (hK1.at rfl) (by assumption) (J_aload_n (pq := 63) dX9_recipe_62 rfl rfl (J_getA (pq := 66) dX9_recipe_63 rfl f_X9_88 (by decide +kernel) (hK1.at rfl) (hR1 _ _ rfl) (J_iload_n (pq := 67) dX9_recipe_66 rfl rfl (J_aload_n (pq := 68) dX9_recipe_67 rfl rfl (J_getI (pq := 71) dX9_recipe_68 rfl f_X9_269 jsI (hK1.at rfl) (J_iast (pq := 72) dX9_recipe_71 rfl (hK1.at rfl) (by assumption) (J_aload_n (pq := 73) dX9_recipe_72 rfl rfl (J_getA (pq := 76) dX9_recipe_73 rfl f_X9_100 (by decide +kernel) (hK1.at rfl) (hR1 _ _ rfl) (J_iload_n (pq := 77) dX9_recipe_76 rfl rfl (J_aload_n (pq := 78) dX9_recipe_77 rfl rfl (J_getI (pq := 81) dX9_recipe_78 rfl f_X9_259 jsI (hK1.at rfl) (J_iast (pq := 82) dX9_recipe_81 rfl (hK1.at rfl) (by assumption) (J_aload_n (pq := 83) dX9_recipe_82 rfl rfl (J_getA (pq := 86) dX9_recipe_83 rfl f_X9_103 (by decide +kernel) (hK1.at rfl) (hR1 _ _ rfl) (J_iload_n (pq := 87) dX9_recipe_86 rfl rfl (J_aload_n (pq := 88) dX9_recipe_87 rfl rfl (J_getI (pq := 91) dX9_recipe_88 rfl f_X9_262 jsI (hK1.at rfl) (J_iast (pq := 92) dX9_recipe_91 rfl (hK1.at rfl) (by assumption) (J_iconst (pq := 93) dX9_recipe_92 rfl c_iconst_0 (J_istore_m 2 (pq := 94) dX9_recipe_93 rfl rfl (Nat.le_of_ble_eq_true rfl) (Nat.le_of_ble_eq_true rfl) rfl (?_))))))))))))))))))))))))))
        rw [hxr, f50, gi_si, if_neg (by simp), f51, gi_si, if_neg (by simp), gi_si, if_neg (by simp), f48, gi_si, if_neg (by simp), gi_si, if_neg (by simp), gi_si, if_neg (by simp), f49]
        generalize hh2 : si (si (si (si h1 61 r (nI o)) 62 r (nI e)) 66 r (nI (cap (pP _)))) 67 r (nI (cap (pW _))) = h2
        have hK2 : Kin h2 := by rw [← hh2]; exact hK1
        have hR2 : MR h2 := by rw [← hh2]; exact hR1
        have hg2 : ∀ a b, ¬ ((a = 61 ∨ a = 62 ∨ a = 66 ∨ a = 67) ∧ b = r) → gi h2 a b = gi h1 a b := fun a b q => by rw [← hh2, gi_si, if_neg (by omega), gi_si, if_neg (by omega), gi_si, if_neg (by omega), gi_si, if_neg (by omega)]
        refine J_loop (σ := Nat × JH) (fun s => [some (.ref 38), some (.int (nI r)), some (.int (nI s.1))]) (fun _ => []) (fun s => s.2) (fun s => s.1 ≤ o ∧ s.2.2 = h2.2 ∧ ∀ a b, gi s.2 a b = if (a = 63 ∨ a = 64 ∨ a = 65) ∧ 100 * r ≤ b ∧ b < 100 * r + s.1 then gi h2 a (400 + (b - 100 * r)) else gi h2 a b) (fun s => o - s.1) (0, h2) rfl rfl rfl ⟨Nat.zero_le _, rfl, fun a b => by rw [if_neg (by simp only; omega)]⟩ (fun s hs ih => ?_)
        obtain ⟨k, hk⟩ := s
        obtain ⟨s1, s2, s3⟩ := hs
        simp only at s1 s2 s3 ih ⊢
        have hKk : Kin hk := hK2.of2 s2
        have hRk : MR hk := hR2.of2 s2
        have k50 : gi hk 38 50 = nI o := by rw [s3, if_neg (by simp), hg2 38 50 (by simp)]; exact f50
        refine J_iload_n (pq := 95) dX9_recipe_94 rfl rfl (J_aload_n (pq := 96) dX9_recipe_95 rfl rfl (J_getI (pq := 99) dX9_recipe_96 rfl f_X9_253 jsI (hKk.at rfl) (J_icmp_ge (pq := 102) (tgt := 171) dX9_recipe_99 rfl rfl (fun c => ?_) (fun c => ?_))))
        · rw [k50, nI_leI (by omega) (by omega)] at c
          have hko : k = o := by omega
          subst hko
          have k51 : gi hk 38 51 = nI e := by rw [s3, if_neg (by simp), hg2 38 51 (by simp)]; exact f51
          refine J_aload_n (pq := 172) dX9_recipe_171 rfl rfl (J_getI (pq := 175) dX9_recipe_172 rfl f_X9_269 jsI (hKk.at rfl) (J_iret dX9_recipe_175 rfl rfl ?_))
          unfold RcP
          rw [hrs]
          have kg : ∀ b, gi hk 38 b = gi h1 38 b := fun b => by rw [s3, if_neg (by simp), hg2 38 b (by simp)]
          refine ⟨⟨by rw [s2, ← hF1.1, ← hh2]; rfl, fun a b x1 x2 x3 x4 => ?_⟩, by rw [kg]; exact e2, by rw [kg]; exact e3, fun q => absurd ‹f = 0› q, fun _ => ⟨by rw [k51], by rw [kg, e4]; exact hV.symm, p1, p2, k, p3, ?_, ?_, ?_, ?_, ?_⟩⟩
          · rw [s3, if_neg (fun q => x2 ⟨q.1, by omega⟩), hg2 a b x4]
            exact hF1.2 a b x1 x2 x3 x4
          · rw [s3, if_neg (by simp), ← hh2]; simp [gi_si]
          · rw [s3, if_neg (by simp), ← hh2]; simp [gi_si]
          · rw [s3, if_neg (by simp), ← hh2]; simp [gi_si]
          · rw [s3, if_neg (by simp), ← hh2]; simp [gi_si]
          · refine MS_congr _ p1 _ _ (fun j _ hj => ?_) p8
            have hz : ∀ a, (a = 63 ∨ a = 64 ∨ a = 65) → gi hk a (100 * r + j) = gi g a (400 + j) := fun a ha => by
              rw [s3, if_pos ⟨ha, by omega, by omega⟩, hg2 _ _ (by omega), hg1 _ _ (by omega), show 100 * r + j - 100 * r = j by omega]
            exact ⟨hz 63 (by simp), hz 64 (by simp), hz 65 (by simp)⟩
        · rw [k50, nI_leI (by omega) (by omega)] at c
          have i1 : (100 : Int32) * nI r + nI k = nI (100 * r + k) := by rw [show (100 : Int32) = nI 100 from rfl, pk_mul, nI_add]
          have i2 : (400 : Int32) + nI k = nI (400 + k) := by rw [show (400 : Int32) = nI 400 from rfl, nI_add]
          have hb1 : vp_in ((100 : Int32) * nI r + nI k) 500 := vinN i1 (by omega) (by omega)
          have hb2 : vp_in ((400 : Int32) + nI k) 500 := vinN i2 (by omega) (by omega)
          have hx1 : ix ((100 : Int32) * nI r + nI k) = 100 * r + k := by rw [i1, ixn (by omega)]
          have hx2 : ix ((400 : Int32) + nI k) = 400 + k := by rw [i2, ixn (by omega)]
          refine J_aload_n (pq := 103) dX9_recipe_102 rfl rfl (J_getA (pq := 106) dX9_recipe_103 rfl f_X9_91 (by decide +kernel) (hKk.at rfl) (hRk _ _ rfl) (J_bipush (pq := 108) dX9_recipe_106 rfl c_bipush_100 (J_iload_n (pq := 109) dX9_recipe_108 rfl rfl (J_imul (pq := 110) dX9_recipe_109 rfl (J_iload_n (pq := 111) dX9_recipe_110 rfl rfl (J_iadd (pq := 112) dX9_recipe_111 rfl (J_aload_n (pq := 113) dX9_recipe_112 rfl rfl (J_getA (pq := 116) dX9_recipe_113 rfl f_X9_91 (by decide +kernel) (hKk.at rfl) (hRk _ _ rfl) (J_sipush (pq := 119) dX9_recipe_116 rfl c_sipush_400 (J_iload_n (pq := 120) dX9_recipe_119 rfl rfl (J_iadd (pq := 121) dX9_recipe_120 rfl (J_iald (pq := 122) dX9_recipe_121 rfl (hKk.at rfl) (by assumption) (J_iast (pq := 123) dX9_recipe_122 rfl (hKk.at rfl) (by assumption) (J_aload_n (pq := 124) dX9_recipe_123 rfl rfl (J_getA (pq := 127) dX9_recipe_124 rfl f_X9_94 (by decide +kernel) (hKk.at rfl) (hRk _ _ rfl) (J_bipush (pq := 129) dX9_recipe_127 rfl c_bipush_100 (J_iload_n (pq := 130) dX9_recipe_129 rfl rfl (J_imul (pq := 131) dX9_recipe_130 rfl (J_iload_n (pq := 132) dX9_recipe_131 rfl rfl (J_iadd (pq := 133) dX9_recipe_132 rfl (J_aload_n (pq := 134) dX9_recipe_133 rfl rfl (J_getA (pq := 137) dX9_recipe_134 rfl f_X9_94 (by decide +kernel) (hKk.at rfl) (hRk _ _ rfl) (J_sipush (pq := 140) dX9_recipe_137 rfl c_sipush_400 (J_iload_n (pq := 141) dX9_recipe_140 rfl rfl (J_iadd (pq := 142) dX9_recipe_141 rfl (J_iald (pq := 143) dX9_recipe_142 rfl (hKk.at rfl) (by assumption) (J_iast (pq := 144) dX9_recipe_143 rfl (hKk.at rfl) (by assumption) (J_aload_n (pq := 145) dX9_recipe_144 rfl rfl (J_getA (pq := 148) dX9_recipe_145 rfl f_X9_97 (by decide +kernel) (hKk.at rfl) (hRk _ _ rfl) (J_bipush (pq := 150) dX9_recipe_148 rfl c_bipush_100 (J_iload_n (pq := 151) dX9_recipe_150 rfl rfl (J_imul (pq := 152) dX9_recipe_151 rfl (J_iload_n (pq := 153) dX9_recipe_152 rfl rfl (J_iadd (pq := 154) dX9_recipe_153 rfl (J_aload_n (pq := 155) dX9_recipe_154 rfl rfl (J_getA (pq := 158) dX9_recipe_155 rfl f_X9_97 (by decide +kernel) (hKk.at rfl) (hRk _ _ rfl) (J_sipush (pq := 161) dX9_recipe_158 rfl c_sipush_400 (J_iload_n (pq := 162) dX9_recipe_161 rfl rfl (J_iadd (pq := 163) dX9_recipe_162 rfl (J_iald (pq := 164) dX9_recipe_163 rfl (hKk.at rfl) (by assumption) (J_iast (pq := 165) dX9_recipe_164 rfl (hKk.at rfl) (by assumption) (J_iinc (pq := 168) dX9_recipe_165 rfl c_iconst_1 rfl (Nat.le_of_ble_eq_true rfl) rfl (J_goto (tgt := 94) dX9_recipe_168 rfl (?_))))))))))))))))))))))))))))))))))))))))))))
          rw [hx1, hx2, nI_1]
          refine J_eq (h' := si (si (si hk 63 (100 * r + k) (gi hk 63 (400 + k))) 64 (100 * r + k) (gi hk 64 (400 + k))) 65 (100 * r + k) (gi hk 65 (400 + k))) rfl rfl (by simp [gi_si]) ?_
          refine ih (k + 1, si (si (si hk 63 (100 * r + k) (gi hk 63 (400 + k))) 64 (100 * r + k) (gi hk 64 (400 + k))) 65 (100 * r + k) (gi hk 65 (400 + k))) ⟨by simp only; omega, s2, fun a b => ?_⟩ (by simp only; omega)
          simp only [gi_si]
          by_cases hb : (a = 63 ∨ a = 64 ∨ a = 65) ∧ b = 100 * r + k
          · obtain ⟨ha, rfl⟩ := hb
            rw [if_pos (⟨ha, by omega, by omega⟩ : (a = 63 ∨ a = 64 ∨ a = 65) ∧ 100 * r ≤ 100 * r + k ∧ 100 * r + k < 100 * r + (k + 1)), show 100 * r + k - 100 * r = k by omega]
            have hz : ∀ a, gi hk a (400 + k) = gi h2 a (400 + k) := fun a => by rw [s3, if_neg (by omega)]
            rcases ha with rfl | rfl | rfl
            · simp [hz]
            · simp [hz]
            · simp [hz]
          · rw [if_neg (by omega), if_neg (by omega), if_neg (by omega), s3]
            by_cases hc : (a = 63 ∨ a = 64 ∨ a = 65) ∧ 100 * r ≤ b ∧ b < 100 * r + k
            · rw [if_pos hc, if_pos ⟨hc.1, hc.2.1, by omega⟩]
            · rw [if_neg hc, if_neg (by omega)]
      · rw [e3, show (0 : Int32) = nI 0 from rfl, nI_eq (by omega) (by omega)] at c
        rw [if_neg c] at hV
        refine J_iconst (pq := 51) dX9_recipe_50 rfl c_iconst_m1 (J_iret dX9_recipe_51 rfl rfl ?_)
        unfold RcP
        rw [hrs]
        refine ⟨hF1, e2, e3, fun _ => ⟨rfl, by rw [e4, ← hV], fun a b hab => ?_⟩, fun q => absurd q c⟩
        rw [hg1 a b (by omega)]
        exact hF.2 a b (by omega) (by omega) (by omega)
    · have e3 : gi (si g 38 3 (nI f)) 38 3 = nI f := by simp [gi_si]
      refine J_aload_n (pq := 20) dX9_recipe_19 rfl rfl (J_aload_n (pq := 21) dX9_recipe_20 rfl rfl (J_getI (pq := 24) dX9_recipe_21 rfl f_X9_16 jsI (hKg.at rfl) (J_if_ne (pq := 27) (tgt := 31) dX9_recipe_24 rfl rfl (fun c => ?_) (fun c => ?_))))
      · rw [e3, show (0 : Int32) = nI 0 from rfl, nI_eq (by omega) (by omega)] at c
        have k35 := k35 () trivial
        rw [if_neg c] at k35
        refine J_aload_n (pq := 32) dX9_recipe_31 rfl rfl (J_getI (pq := 35) dX9_recipe_32 rfl f_X9_233 jsI (hKg.at rfl) (?_))
        rw [gi_si, if_neg (by decide), hq1 c]
        exact k35
      · rw [e3, show (0 : Int32) = nI 0 from rfl, nI_eq (by omega) (by omega)] at c
        have k35 := k35 () trivial
        rw [if_pos c] at k35
        refine J_iconst (pq := 28) dX9_recipe_27 rfl c_iconst_m1 (J_goto (tgt := 35) dX9_recipe_28 rfl (?_))
        exact k35
  · rw [hv] at c; exact absurd c (by decide)
end P6
