-- the class burns
section D5
variable {x : JX} {h : JH} {q s d e nc : Nat}
theorem j_X8_burn_no {v r id f w p : Int32} {rd : Nat → Nat} {cq : Nat → Nat} (hK : Kin h) (hX : XR h) (hn : gi h 0 7 = nI nc) (hn4 : nc ≤ 4) (hg : ∀ i, i < nc → gr h 11 i = some (cq i)) (hgr : ∀ r, r < 4 → gr h 12 r = some (rd r)) (ho : (isin v 0 (nI nc - 1) && isin r 0 3 && isin id 0 255 && (isin f 0 255 && isin w 1 8)) = false) : JF x yX8_burn cX8_burn 14 (some .int) 21 1 7 [.ref 0, .int v, .int r, .int id, .int f, .int w, .int p] h (some (.int (-1))) h := by
  refine JM_of [some (.ref 0), some (.int v), some (.int r), some (.int id), some (.int f), some (.int w), some (.int p), none, none, none, none, none, none, none] (by decide) (Nat.le_of_ble_eq_true rfl) rfl ?_
  by_cases hv : isin v 0 (nI nc - 1) = true
  · rw [hv, Bool.true_and] at ho
    obtain ⟨i, hi, rfl⟩ := (isinN (by omega)).mp hv
    by_cases hr : isin r 0 3 = true
    · rw [hr, Bool.true_and] at ho
      obtain ⟨j, hj, rfl⟩ := (isK (n := 3) (by omega)).mp hr
      refine J_aload_n (pq := 1) dX8_burn_0 rfl rfl (J_iload_n (pq := 2) dX8_burn_1 rfl rfl (J_virtF (pq := 5) dX8_burn_2 rfl (j_chipAt hK hX hn hn4 hi (hg i hi)) rfl tg_X8_chipAt l_X8_142 vi_X8_chipAt (by first | exact hc0 | exact hd0 | exact hK.at rfl) ⟨by decide, rfl⟩ (Nat.le_of_ble_eq_true rfl) (Nat.zero_le _) (Nat.zero_le _) (Nat.le_of_ble_eq_true rfl) (J_astore (pq := 7) dX8_burn_5 rfl (Nat.le_of_ble_eq_true rfl) (Nat.le_of_ble_eq_true rfl) rfl (J_aload_n (pq := 8) dX8_burn_7 rfl rfl (J_iload_n (pq := 9) dX8_burn_8 rfl rfl (J_virtF (pq := 12) dX8_burn_9 rfl (j_recipeAt hK hX (by omega) (hgr j (by omega))) rfl tg_X8_recipeAt l_X8_179 vi_X8_recipeAt (by first | exact hc0 | exact hd0 | exact hK.at rfl) ⟨by decide, rfl⟩ (Nat.le_of_ble_eq_true rfl) (Nat.zero_le _) (Nat.zero_le _) (Nat.le_of_ble_eq_true rfl) (J_astore (pq := 14) dX8_burn_12 rfl (Nat.le_of_ble_eq_true rfl) (Nat.le_of_ble_eq_true rfl) rfl (J_aload (pq := 16) dX8_burn_14 rfl rfl (J_ifnull (pq := 19) dX8_burn_16 rfl (J_aload (pq := 21) dX8_burn_19 rfl rfl (J_ifnull (pq := 24) dX8_burn_21 rfl (J_iload_n (pq := 25) dX8_burn_24 rfl rfl (J_iconst (pq := 26) dX8_burn_25 rfl c_iconst_0 (J_sipush (pq := 29) dX8_burn_26 rfl c_sipush_255 (J_statF (pq := 32) dX8_burn_29 rfl (j_X8_isWithin) rfl tg_X8_isWithin l_X8_87 st_X8_isWithin (Nat.le_of_ble_eq_true rfl) (Nat.zero_le _) (Nat.zero_le _) (Nat.le_of_ble_eq_true rfl) (J_if_eq (pq := 35) (tgt := 45) dX8_burn_32 rfl rfl (fun c => ?_) (fun c => ?_)))))))))))))))))
      · refine J_iconst (pq := 46) dX8_burn_45 rfl c_iconst_m1 (J_iret dX8_burn_46 rfl rfl ?_)
        exact ⟨rfl, rfl⟩
      · rw [bi_0, Bool.not_eq_false] at c
        rw [c, Bool.true_and] at ho
        refine J_iload (pq := 37) dX8_burn_35 rfl rfl (J_iload (pq := 39) dX8_burn_37 rfl rfl (J_statF (pq := 42) dX8_burn_39 rfl (j_X8_isPart) rfl tg_X8_isPart l_X8_192 st_X8_isPart (Nat.le_of_ble_eq_true rfl) (Nat.zero_le _) (Nat.zero_le _) (Nat.le_of_ble_eq_true rfl) (J_if_ne (pq := 45) (tgt := 47) dX8_burn_42 rfl rfl (fun c => ?_) (fun c => ?_))))
        · rw [ho] at c; exact absurd rfl c
        · refine J_iconst (pq := 46) dX8_burn_45 rfl c_iconst_m1 (J_iret dX8_burn_46 rfl rfl ?_)
          exact ⟨rfl, rfl⟩
    · rw [Bool.not_eq_true] at hr
      refine J_aload_n (pq := 1) dX8_burn_0 rfl rfl (J_iload_n (pq := 2) dX8_burn_1 rfl rfl (J_virtF (pq := 5) dX8_burn_2 rfl (j_chipAt hK hX hn hn4 hi (hg i hi)) rfl tg_X8_chipAt l_X8_142 vi_X8_chipAt (by first | exact hc0 | exact hd0 | exact hK.at rfl) ⟨by decide, rfl⟩ (Nat.le_of_ble_eq_true rfl) (Nat.zero_le _) (Nat.zero_le _) (Nat.le_of_ble_eq_true rfl) (J_astore (pq := 7) dX8_burn_5 rfl (Nat.le_of_ble_eq_true rfl) (Nat.le_of_ble_eq_true rfl) rfl (J_aload_n (pq := 8) dX8_burn_7 rfl rfl (J_iload_n (pq := 9) dX8_burn_8 rfl rfl (J_virtF (pq := 12) dX8_burn_9 rfl (j_recipeAt_no hK hX hr) rfl tg_X8_recipeAt l_X8_179 vi_X8_recipeAt (by first | exact hc0 | exact hd0 | exact hK.at rfl) ⟨by decide, rfl⟩ (Nat.le_of_ble_eq_true rfl) (Nat.zero_le _) (Nat.zero_le _) (Nat.le_of_ble_eq_true rfl) (J_astoreN (pq := 14) dX8_burn_12 rfl (Nat.le_of_ble_eq_true rfl) (Nat.le_of_ble_eq_true rfl) rfl (J_aload (pq := 16) dX8_burn_14 rfl rfl (J_ifnull (pq := 19) dX8_burn_16 rfl (J_aloadN (pq := 21) dX8_burn_19 rfl rfl (J_ifnullN (tgt := 45) dX8_burn_21 rfl (J_iconst (pq := 46) dX8_burn_45 rfl c_iconst_m1 (J_iret dX8_burn_46 rfl rfl ?_)))))))))))))
      exact ⟨rfl, rfl⟩
  · rw [Bool.not_eq_true] at hv
    by_cases hr : isin r 0 3 = true
    · obtain ⟨j, hj, rfl⟩ := (isK (n := 3) (by omega)).mp hr
      refine J_aload_n (pq := 1) dX8_burn_0 rfl rfl (J_iload_n (pq := 2) dX8_burn_1 rfl rfl (J_virtF (pq := 5) dX8_burn_2 rfl (j_chipAt_no hK hX hn hn4 hv) rfl tg_X8_chipAt l_X8_142 vi_X8_chipAt (by first | exact hc0 | exact hd0 | exact hK.at rfl) ⟨by decide, rfl⟩ (Nat.le_of_ble_eq_true rfl) (Nat.zero_le _) (Nat.zero_le _) (Nat.le_of_ble_eq_true rfl) (J_astoreN (pq := 7) dX8_burn_5 rfl (Nat.le_of_ble_eq_true rfl) (Nat.le_of_ble_eq_true rfl) rfl (J_aload_n (pq := 8) dX8_burn_7 rfl rfl (J_iload_n (pq := 9) dX8_burn_8 rfl rfl (J_virtF (pq := 12) dX8_burn_9 rfl (j_recipeAt hK hX (by omega) (hgr j (by omega))) rfl tg_X8_recipeAt l_X8_179 vi_X8_recipeAt (by first | exact hc0 | exact hd0 | exact hK.at rfl) ⟨by decide, rfl⟩ (Nat.le_of_ble_eq_true rfl) (Nat.zero_le _) (Nat.zero_le _) (Nat.le_of_ble_eq_true rfl) (J_astore (pq := 14) dX8_burn_12 rfl (Nat.le_of_ble_eq_true rfl) (Nat.le_of_ble_eq_true rfl) rfl (J_aloadN (pq := 16) dX8_burn_14 rfl rfl (J_ifnullN (tgt := 45) dX8_burn_16 rfl (J_iconst (pq := 46) dX8_burn_45 rfl c_iconst_m1 (J_iret dX8_burn_46 rfl rfl ?_)))))))))))
      exact ⟨rfl, rfl⟩
    · rw [Bool.not_eq_true] at hr
      refine J_aload_n (pq := 1) dX8_burn_0 rfl rfl (J_iload_n (pq := 2) dX8_burn_1 rfl rfl (J_virtF (pq := 5) dX8_burn_2 rfl (j_chipAt_no hK hX hn hn4 hv) rfl tg_X8_chipAt l_X8_142 vi_X8_chipAt (by first | exact hc0 | exact hd0 | exact hK.at rfl) ⟨by decide, rfl⟩ (Nat.le_of_ble_eq_true rfl) (Nat.zero_le _) (Nat.zero_le _) (Nat.le_of_ble_eq_true rfl) (J_astoreN (pq := 7) dX8_burn_5 rfl (Nat.le_of_ble_eq_true rfl) (Nat.le_of_ble_eq_true rfl) rfl (J_aload_n (pq := 8) dX8_burn_7 rfl rfl (J_iload_n (pq := 9) dX8_burn_8 rfl rfl (J_virtF (pq := 12) dX8_burn_9 rfl (j_recipeAt_no hK hX hr) rfl tg_X8_recipeAt l_X8_179 vi_X8_recipeAt (by first | exact hc0 | exact hd0 | exact hK.at rfl) ⟨by decide, rfl⟩ (Nat.le_of_ble_eq_true rfl) (Nat.zero_le _) (Nat.zero_le _) (Nat.le_of_ble_eq_true rfl) (J_astoreN (pq := 14) dX8_burn_12 rfl (Nat.le_of_ble_eq_true rfl) (Nat.le_of_ble_eq_true rfl) rfl (J_aloadN (pq := 16) dX8_burn_14 rfl rfl (J_ifnullN (tgt := 45) dX8_burn_16 rfl (J_iconst (pq := 46) dX8_burn_45 rfl c_iconst_m1 (J_iret dX8_burn_46 rfl rfl ?_)))))))))))
      exact ⟨rfl, rfl⟩
theorem j_X8_burn_why {i r f w : Nat} {id p : Int32} (hK : Kin h) (hX : XR h) (hn : gi h 0 7 = nI nc) (hn4 : nc ≤ 4) (hi : i < nc) (hr : r < 4) (hg : gr h 11 i = some q) (hgr : gr h 12 r = some d) (hC : CK h q s) (hd0 : (kd h)[d]? = some (4, 8)) (hid : isin id 0 255 = true) (hf : f ≤ 255) (hw : 1 ≤ w ∧ w ≤ 8) (hp : isin p 0 100000 = false ∨ xWhy h q s d id f w ≠ 0) : JF x yX8_burn cX8_burn 14 (some .int) 21 1 7 [.ref 0, .int (nI i), .int (nI r), .int id, .int (nI f), .int (nI w), .int p] h (some (.int (-1))) h := by
  have hc0 := hC.1.1
  refine JM_of [some (.ref 0), some (.int (nI i)), some (.int (nI r)), some (.int id), some (.int (nI f)), some (.int (nI w)), some (.int p), none, none, none, none, none, none, none] (by decide) (Nat.le_of_ble_eq_true rfl) rfl ?_
  refine J_aload_n (pq := 1) dX8_burn_0 rfl rfl (J_iload_n (pq := 2) dX8_burn_1 rfl rfl (J_virtF (pq := 5) dX8_burn_2 rfl (j_chipAt hK hX hn hn4 hi hg) rfl tg_X8_chipAt l_X8_142 vi_X8_chipAt (by first | exact hc0 | exact hd0 | exact hK.at rfl) ⟨by decide, rfl⟩ (Nat.le_of_ble_eq_true rfl) (Nat.zero_le _) (Nat.zero_le _) (Nat.le_of_ble_eq_true rfl) (J_astore (pq := 7) dX8_burn_5 rfl (Nat.le_of_ble_eq_true rfl) (Nat.le_of_ble_eq_true rfl) rfl (J_aload_n (pq := 8) dX8_burn_7 rfl rfl (J_iload_n (pq := 9) dX8_burn_8 rfl rfl (J_virtF (pq := 12) dX8_burn_9 rfl (j_recipeAt hK hX hr hgr) rfl tg_X8_recipeAt l_X8_179 vi_X8_recipeAt (by first | exact hc0 | exact hd0 | exact hK.at rfl) ⟨by decide, rfl⟩ (Nat.le_of_ble_eq_true rfl) (Nat.zero_le _) (Nat.zero_le _) (Nat.le_of_ble_eq_true rfl) (J_astore (pq := 14) dX8_burn_12 rfl (Nat.le_of_ble_eq_true rfl) (Nat.le_of_ble_eq_true rfl) rfl (J_aload (pq := 16) dX8_burn_14 rfl rfl (J_ifnull (pq := 19) dX8_burn_16 rfl (J_aload (pq := 21) dX8_burn_19 rfl rfl (J_ifnull (pq := 24) dX8_burn_21 rfl (J_iload_n (pq := 25) dX8_burn_24 rfl rfl (J_iconst (pq := 26) dX8_burn_25 rfl c_iconst_0 (J_sipush (pq := 29) dX8_burn_26 rfl c_sipush_255 (J_statF (pq := 32) dX8_burn_29 rfl (j_X8_isWithin) rfl tg_X8_isWithin l_X8_87 st_X8_isWithin (Nat.le_of_ble_eq_true rfl) (Nat.zero_le _) (Nat.zero_le _) (Nat.le_of_ble_eq_true rfl) (J_if_eq (pq := 35) (tgt := 45) dX8_burn_32 rfl rfl (fun c => ?_) (fun c => ?_)))))))))))))))))
  · rw [hid] at c; exact absurd c (by decide)
  · refine J_iload (pq := 37) dX8_burn_35 rfl rfl (J_iload (pq := 39) dX8_burn_37 rfl rfl (J_statF (pq := 42) dX8_burn_39 rfl (j_X8_isPart) rfl tg_X8_isPart l_X8_192 st_X8_isPart (Nat.le_of_ble_eq_true rfl) (Nat.zero_le _) (Nat.zero_le _) (Nat.le_of_ble_eq_true rfl) (J_if_ne (pq := 45) (tgt := 47) dX8_burn_42 rfl rfl (fun c => ?_) (fun c => ?_))))
    · refine J_iload (pq := 49) dX8_burn_47 rfl rfl (J_iconst (pq := 50) dX8_burn_49 rfl c_iconst_0 (J_ldc (pq := 52) dX8_burn_50 rfl k_X8_199 (J_statF (pq := 55) dX8_burn_52 rfl (j_X8_isWithin) rfl tg_X8_isWithin l_X8_87 st_X8_isWithin (Nat.le_of_ble_eq_true rfl) (Nat.zero_le _) (Nat.zero_le _) (Nat.le_of_ble_eq_true rfl) (J_if_eq (pq := 58) (tgt := 74) dX8_burn_55 rfl rfl (fun c => ?_) (fun c => ?_)))))
      · refine J_iconst (pq := 75) dX8_burn_74 rfl c_iconst_m1 (J_iret dX8_burn_75 rfl rfl ?_)
        exact ⟨rfl, rfl⟩
      · rw [bi_0, Bool.not_eq_false] at c
        refine J_aload_n (pq := 59) dX8_burn_58 rfl rfl (J_aload (pq := 61) dX8_burn_59 rfl rfl (J_aload (pq := 63) dX8_burn_61 rfl rfl (J_iload_n (pq := 64) dX8_burn_63 rfl rfl (J_iload (pq := 66) dX8_burn_64 rfl rfl (J_iload (pq := 68) dX8_burn_66 rfl rfl (J_virtF (pq := 71) dX8_burn_68 rfl (j_hind hK hX hC hd0 hf hw) rfl tg_X8_hindrance l_X8_195 vi_X8_hindrance (by first | exact hc0 | exact hd0 | exact hK.at rfl) ⟨by decide, rfl⟩ (Nat.le_of_ble_eq_true rfl) (Nat.zero_le _) (Nat.zero_le _) (Nat.le_of_ble_eq_true rfl) (J_if_eq (pq := 74) (tgt := 76) dX8_burn_71 rfl rfl (fun c => ?_) (fun c => ?_))))))))
        · rcases hp with hp | hp
          · rw [show isin p 0 100000 = true by assumption] at hp; cases hp
          · exact absurd c hp
        · refine J_iconst (pq := 75) dX8_burn_74 rfl c_iconst_m1 (J_iret dX8_burn_75 rfl rfl ?_)
          exact ⟨rfl, rfl⟩
    · rw [b0_255 hf, b1_8 hw] at c; exact absurd c (by decide)
theorem adS_2 (g : JH) (z : Nat) (α β α' β' : Int32) : adS (adS g z α β) z α' β' = adS g z α' β' := adS_ad g z α β α' β'
def cnP (h : JH) (q s f w k : Nat) : JH → Nat → JH := xPu q (xAdr h q s k) (gi h 3 (f + w * k))
def cnR (h : JH) (q s f w k : Nat) : JH → Bool := xRt q (xAdr h q s k) (gi h 3 (f + w * k))
/-- a worker is made -/
def wkN (h : JH) (q d : Nat) : JH := sr (sr (al h (7, 7)) (kd h).length 0 (some q)) (kd h).length 1 (some d)
theorem wkN_gi (h : JH) (q d a b : Nat) : gi (wkN h q d) a b = if a = (kd h).length then 0 else gi h a b := rfl
theorem wkN_kd (h : JH) (q d : Nat) : kd (wkN h q d) = kd h ++ [(7, 7)] := rfl
theorem wkN_gr (h : JH) (q d a b : Nat) : gr (wkN h q d) a b = if a = (kd h).length ∧ b = 1 then some d else if a = (kd h).length ∧ b = 0 then some q else if a = (kd h).length then none else gr h a b := rfl
theorem CK.mono {g : JH} (hC : CK h q s) (hk : ∀ (a : Nat) (b : Nat × Nat), (kd h)[a]? = some b → (kd g)[a]? = some b) (hr : ∀ b, gr g q b = gr h q b) (hi : gi g q 0 = gi h q 0) : CK g q s := by
  obtain ⟨⟨hc0, hc1, hc2, hc3, hc4, hc5, hc6, hc7⟩, ⟨hr8, hr9, hr10, hr11, hr12, hr13, hr14⟩, hz, hs1, hs2⟩ := hC
  exact ⟨⟨hk _ _ hc0, hk _ _ hc1, hk _ _ hc2, hk _ _ hc3, hk _ _ hc4, hk _ _ hc5, hk _ _ hc6, hk _ _ hc7⟩, ⟨(hr _).trans hr8, (hr _).trans hr9, (hr _).trans hr10, (hr _).trans hr11, (hr _).trans hr12, (hr _).trans hr13, (hr _).trans hr14⟩, hi.trans hz, hs1, hs2⟩
theorem RKc.mono {g : JH} (hC : RKc h d e) (hk : ∀ (a : Nat) (b : Nat × Nat), (kd h)[a]? = some b → (kd g)[a]? = some b) (hr : ∀ b, gr g d b = gr h d b) (hi : gi g d 4 = gi h d 4) : RKc g d e := by
  obtain ⟨⟨⟨hd0, hd1, hd2, hd3, hd4⟩, hq0, hq1, hq2, hq3⟩, h4, he⟩ := hC
  exact ⟨⟨⟨hk _ _ hd0, hk _ _ hd1, hk _ _ hd2, hk _ _ hd3, hk _ _ hd4⟩, (hr _).trans hq0, (hr _).trans hq1, (hr _).trans hq2, (hr _).trans hq3⟩, hi.trans h4, he⟩
theorem wkN_k (h : JH) (q d : Nat) : ∀ (a : Nat) (b : Nat × Nat), (kd h)[a]? = some b → (kd (wkN h q d))[a]? = some b := fun a b hb => by
  rw [wkN_kd, List.getElem?_append_left (List.getElem?_eq_some_iff.mp hb).1]; exact hb
theorem kd_lt {a : Nat} {b : Nat × Nat} (hb : (kd h)[a]? = some b) : a < (kd h).length := (List.getElem?_eq_some_iff.mp hb).1
theorem j_X8_burn {i r f w L : Nat} {id : Int32} {tc : Cond} (hK : Kin h) (hX : XR h) (hn : gi h 0 7 = nI nc) (hn4 : nc ≤ 4) (hi : i < nc) (hr : r < 4) (hg : gr h 11 i = some q) (hgr : gr h 12 r = some d) (hC : CK h q s) (hD : RKc h d e) (hPG : PG tc) (hO : POK tc 5) (hS : DS (gi h) d tc 0 e) (hdq : d + 5 ≤ q) (hq76 : 76 ≤ q) (hll : (kd h).length + 1 < 1000000000) (hid : isin id 0 255 = true) (hf : f ≤ 255) (hw : 1 ≤ w ∧ w ≤ 8) (hL : L ≤ 100000) (hy : xWhy h q s d id f w = 0) : JM x yX8_burn cX8_burn 14 (some .int) 21 1 7 [.ref 0, .int (nI i), .int (nI r), .int id, .int (nI f), .int (nI w), .int (nI L)] h (fun v g => ∃ α β u, v = some (.int (nI L - nI (brn (cnP h q s f w) (cnR h q s f w) tc (wkN h q d, L) (xRch h q s f w)).2)) ∧ g = wS (adS (brn (cnP h q s f w) (cnR h q s f w) tc (wkN h q d, L) (xRch h q s f w)).1 (kd h).length α β) (kd h).length u) := by
  have hc0 := hC.1.1
  have hd0 := hD.1.1.1
  have hs2 := hC.2.2.2.2
  have hgl := goodc_le (xBad h q) s
  have hnn : xRch h q s f w ≤ (255 - f) / w + 1 := Nat.min_le_right _ _
  have hn2 : xRch h q s f w ≤ 8 * goodc (xBad h q) s := Nat.min_le_left _ _
  refine JM_of [some (.ref 0), some (.int (nI i)), some (.int (nI r)), some (.int id), some (.int (nI f)), some (.int (nI w)), some (.int (nI L)), none, none, none, none, none, none, none] (by decide) (Nat.le_of_ble_eq_true rfl) rfl ?_
  refine J_aload_n (pq := 1) dX8_burn_0 rfl rfl (J_iload_n (pq := 2) dX8_burn_1 rfl rfl (J_virtF (pq := 5) dX8_burn_2 rfl (j_chipAt hK hX hn hn4 hi hg) rfl tg_X8_chipAt l_X8_142 vi_X8_chipAt (by first | exact hc0 | exact hd0 | exact hK.at rfl) ⟨by decide, rfl⟩ (Nat.le_of_ble_eq_true rfl) (Nat.zero_le _) (Nat.zero_le _) (Nat.le_of_ble_eq_true rfl) (J_astore (pq := 7) dX8_burn_5 rfl (Nat.le_of_ble_eq_true rfl) (Nat.le_of_ble_eq_true rfl) rfl (J_aload_n (pq := 8) dX8_burn_7 rfl rfl (J_iload_n (pq := 9) dX8_burn_8 rfl rfl (J_virtF (pq := 12) dX8_burn_9 rfl (j_recipeAt hK hX hr hgr) rfl tg_X8_recipeAt l_X8_179 vi_X8_recipeAt (by first | exact hc0 | exact hd0 | exact hK.at rfl) ⟨by decide, rfl⟩ (Nat.le_of_ble_eq_true rfl) (Nat.zero_le _) (Nat.zero_le _) (Nat.le_of_ble_eq_true rfl) (J_astore (pq := 14) dX8_burn_12 rfl (Nat.le_of_ble_eq_true rfl) (Nat.le_of_ble_eq_true rfl) rfl (J_aload (pq := 16) dX8_burn_14 rfl rfl (J_ifnull (pq := 19) dX8_burn_16 rfl (J_aload (pq := 21) dX8_burn_19 rfl rfl (J_ifnull (pq := 24) dX8_burn_21 rfl (J_iload_n (pq := 25) dX8_burn_24 rfl rfl (J_iconst (pq := 26) dX8_burn_25 rfl c_iconst_0 (J_sipush (pq := 29) dX8_burn_26 rfl c_sipush_255 (J_statF (pq := 32) dX8_burn_29 rfl (j_X8_isWithin) rfl tg_X8_isWithin l_X8_87 st_X8_isWithin (Nat.le_of_ble_eq_true rfl) (Nat.zero_le _) (Nat.zero_le _) (Nat.le_of_ble_eq_true rfl) (J_if_eq (pq := 35) (tgt := 45) dX8_burn_32 rfl rfl (fun c => ?_) (fun c => ?_)))))))))))))))))
  · rw [hid] at c; exact absurd c (by decide)
  · refine J_iload (pq := 37) dX8_burn_35 rfl rfl (J_iload (pq := 39) dX8_burn_37 rfl rfl (J_statF (pq := 42) dX8_burn_39 rfl (j_X8_isPart) rfl tg_X8_isPart l_X8_192 st_X8_isPart (Nat.le_of_ble_eq_true rfl) (Nat.zero_le _) (Nat.zero_le _) (Nat.le_of_ble_eq_true rfl) (J_if_ne (pq := 45) (tgt := 47) dX8_burn_42 rfl rfl (fun c => ?_) (fun c => ?_))))
    rotate_left
    · rw [b0_255 hf, b1_8 hw] at c; exact absurd c (by decide)
    · refine J_iload (pq := 49) dX8_burn_47 rfl rfl (J_iconst (pq := 50) dX8_burn_49 rfl c_iconst_0 (J_ldc (pq := 52) dX8_burn_50 rfl k_X8_199 (J_statF (pq := 55) dX8_burn_52 rfl (j_X8_isWithin) rfl tg_X8_isWithin l_X8_87 st_X8_isWithin (Nat.le_of_ble_eq_true rfl) (Nat.zero_le _) (Nat.zero_le _) (Nat.le_of_ble_eq_true rfl) (J_if_eq (pq := 58) (tgt := 74) dX8_burn_55 rfl rfl (fun c => ?_) (fun c => ?_)))))
      · rw [show isin (nI L) 0 100000 = true from (isK (n := 100000) (by omega)).mpr ⟨L, by omega, rfl⟩] at c
        exact absurd c (by decide)
      · refine J_aload_n (pq := 59) dX8_burn_58 rfl rfl (J_aload (pq := 61) dX8_burn_59 rfl rfl (J_aload (pq := 63) dX8_burn_61 rfl rfl (J_iload_n (pq := 64) dX8_burn_63 rfl rfl (J_iload (pq := 66) dX8_burn_64 rfl rfl (J_iload (pq := 68) dX8_burn_66 rfl rfl (J_virtF (pq := 71) dX8_burn_68 rfl (j_hind hK hX hC hd0 hf hw) rfl tg_X8_hindrance l_X8_195 vi_X8_hindrance (by first | exact hc0 | exact hd0 | exact hK.at rfl) ⟨by decide, rfl⟩ (Nat.le_of_ble_eq_true rfl) (Nat.zero_le _) (Nat.zero_le _) (Nat.le_of_ble_eq_true rfl) (J_if_eq (pq := 74) (tgt := 76) dX8_burn_71 rfl rfl (fun c => ?_) (fun c => ?_))))))))
        rotate_left
        · exact absurd hy c
        · have hz0 : (kd (al h (7, 7)))[(kd h).length]? = some (7, 7) := by rw [al_kd]; simp
          have hqz : q + 8 ≤ (kd h).length := kd_lt hC.1.2.2.2.2.2.2.2
          generalize hz : (kd h).length = z at *
          have hCN : CK (wkN h q d) q s := hC.mono (wkN_k h q d) (fun b => by rw [wkN_gr, if_neg (by omega), if_neg (by omega), if_neg (by omega)]) (by rw [wkN_gi, if_neg (by omega)])
          have hDN : RKc (wkN h q d) d e := hD.mono (wkN_k h q d) (fun b => by rw [wkN_gr, if_neg (by omega), if_neg (by omega), if_neg (by omega)]) (by rw [wkN_gi, if_neg (by omega)])
          have hSN : DS (gi (wkN h q d)) d tc 0 e := DS_congr tc hPG 0 e (fun k _ _ => ⟨by rw [wkN_gi, if_neg (by omega)], by rw [wkN_gi, if_neg (by omega)], by rw [wkN_gi, if_neg (by omega)], by rw [wkN_gi, if_neg (by omega)]⟩) hS
          have hKN : Kin (wkN h q d) := by obtain ⟨r', hr'⟩ := hK; exact ⟨r' ++ [(7, 7)], by rw [wkN_kd, hr', List.append_assoc]⟩
          have hXN : XR (wkN h q d) := fun o k a hk => by
            have h38 : o < 38 := by unfold xrt at hk; split at hk <;> first | omega | cases hk
            rw [wkN_gr, if_neg (by omega), if_neg (by omega), if_neg (by omega)]; exact hX o k a hk
          have hzN : (kd (wkN h q d))[z]? = some (7, 7) := by rw [wkN_kd, ← hz]; simp
          have gz : ∀ b, gi (wkN h q d) z b = 0 := fun b => by rw [wkN_gi, hz, if_pos rfl]
          refine J_new (ci := 7) (r := (RX7, TX7, 7)) (pq := 79) dX8_burn_76 rfl rfl (by decide) cl_X8_200 in_X7 it_X7 (by rw [hz]; exact hll) (Nat.le_of_ble_eq_true rfl) (Nat.le_of_ble_eq_true rfl) (?_)
          rw [hz]
          refine J_dup (pq := 80) dX8_burn_79 rfl rfl (J_aload (pq := 82) dX8_burn_80 rfl rfl (J_aload (pq := 84) dX8_burn_82 rfl rfl (J_iload (pq := 86) dX8_burn_84 rfl rfl (J_initF (pq := 89) dX8_burn_86 rfl (j_X7_init hz0) rfl tg_X7_init l_X8_202 ii_X7_init hz0 (Nat.le_of_ble_eq_true rfl) (Nat.zero_le _) (Nat.zero_le _) (Nat.le_of_ble_eq_true rfl) (J_astore (pq := 91) dX8_burn_89 rfl (Nat.le_of_ble_eq_true rfl) (Nat.le_of_ble_eq_true rfl) rfl (?_))))))
          refine J_eq (h' := wS (adS (wkN h q d) z 0 0) z (0, false, L)) rfl rfl (JH_ext (by rw [← hz]; rfl) (fun a b => ?_)) ?_
          · have e1 : gi (si (sr (sr (al h (7, 7)) z 0 (some q)) z 1 (some d)) z 2 (nI L)) a b = if a = z ∧ b = 2 then nI L else gi (wkN h q d) a b := by rw [gi_si, ← hz]; rfl
            rw [e1, gi_wS]
            by_cases ha : a = z
            · subst ha
              simp only [true_and, adS, gi_si, gz]
              by_cases b2 : b = 2
              · rw [if_pos b2, if_pos b2]
              · rw [if_neg b2, if_neg b2]
                repeat' split
                all_goals rfl
            · rw [if_neg (by omega), if_neg (by omega), if_neg (by omega), if_neg (by omega), adS_o ha]
          have hB0 : ∀ g α β u, g.2 = (wkN h q d).2 → (∀ a b, ¬ (a = q ∧ b = 16) → ¬ (q + 3 ≤ a ∧ a ≤ q + 7) → gi g a b = gi (wkN h q d) a b) → Kin (wS (adS g z α β) z u) ∧ XR (wS (adS g z α β) z u) ∧ CK (wS (adS g z α β) z u) q s ∧ (kd (wS (adS g z α β) z u))[z]? = some (7, 7) := fun g α β u e2 eg => by
            have e2' : (wS (adS g z α β) z u).2 = (wkN h q d).2 := e2
            refine ⟨hKN.of2 e2', hXN.of3 (by rw [e2']), hCN.of3 (by rw [e2']) ?_, ?_⟩
            · rw [wS_o (by omega), adS_o (by omega), eg q 0 (by omega) (by omega)]
            · show (wS (adS g z α β) z u).2.2.2[z]? = _
              rw [e2']; exact hzN
          have hkp := fun k (hk : k ≤ xRch h q s f w) => brn_kp (P := cnP h q s f w) (R := cnR h q s f w) (I := pI q (wkN h q d)) hPG (s := (wkN h q d, L)) (n := xRch h q s f w) (fun k g v _ hg => pI_P (h := wkN h q d) g v hg) (pI.rf _ _) k hk
          have eN : ∀ a b, a ≠ z → gi (wkN h q d) a b = gi h a b := fun a b ha => by rw [wkN_gi, hz, if_neg ha]
          obtain ⟨hKw, hXw, hCw, hzw⟩ := hB0 (wkN h q d) 0 0 (0, false, L) rfl (fun _ _ _ _ => rfl)
          have hrc : xRch (wS (adS (wkN h q d) z 0 0) z (0, false, L)) q s f w = xRch h q s f w := by
            unfold xRch
            rw [show xBad (wS (adS (wkN h q d) z 0 0) z (0, false, L)) q = xBad h q from by funext b; unfold xBad; rw [wS_o (by omega), adS_o (by omega), eN _ _ (by omega)]]
          refine J_aload (pq := 93) dX8_burn_91 rfl rfl (J_iload (pq := 95) dX8_burn_93 rfl rfl (J_iload (pq := 97) dX8_burn_95 rfl rfl (J_statF (pq := 100) dX8_burn_97 rfl (j_reach hCw hf hw) rfl tg_X8_reachOf l_X8_205 st_X8_reachOf (Nat.le_of_ble_eq_true rfl) (Nat.zero_le _) (Nat.zero_le _) (Nat.le_of_ble_eq_true rfl) (?_))))
          rw [hrc]
          refine J_istore (pq := 102) dX8_burn_100 rfl (Nat.le_of_ble_eq_true rfl) (Nat.le_of_ble_eq_true rfl) rfl (J_iconst (pq := 103) dX8_burn_102 rfl c_iconst_0 (J_istore (pq := 105) dX8_burn_103 rfl (Nat.le_of_ble_eq_true rfl) (Nat.le_of_ble_eq_true rfl) rfl (?_)))
          refine J_loop (σ := Nat × Int32 × Int32 × Nat × Bool) (fun y => [some (.ref 0), some (.int (nI i)), some (.int (nI r)), some (.int id), some (.int (nI f)), some (.int (nI w)), some (.int (nI L)), some (.ref q), some (.ref d), some (.ref z), some (.int (nI (xRch h q s f w))), some (.int (nI y.1)), none, none]) (fun _ => []) (fun y => wS (adS (brn (cnP h q s f w) (cnR h q s f w) tc (wkN h q d, L) y.1).1 z y.2.1 y.2.2.1) z (y.2.2.2.1, y.2.2.2.2, (brn (cnP h q s f w) (cnR h q s f w) tc (wkN h q d, L) y.1).2)) (fun y => y.1 ≤ xRch h q s f w) (fun y => xRch h q s f w - y.1) (0, 0, 0, 0, false) rfl rfl rfl (Nat.zero_le _) (fun y hy1 ih => ?_)
          obtain ⟨k, α, β, v, ok⟩ := y
          simp only at hy1 ih ⊢
          obtain ⟨i1, i2⟩ := hkp k hy1
          have hstep := brn_s (cnP h q s f w) (cnR h q s f w) tc (wkN h q d, L) k
          have h0end := fun (hq0 : (brn (cnP h q s f w) (cnR h q s f w) tc (wkN h q d, L) k).2 = 0) => brn_0 (P := cnP h q s f w) (R := cnR h q s f w) hPG (s := (wkN h q d, L)) hq0 (xRch h q s f w - k)
          rw [show k + (xRch h q s f w - k) = xRch h q s f w by omega] at h0end
          generalize hZ : brn (cnP h q s f w) (cnR h q s f w) tc (wkN h q d, L) k = Z at *
          obtain ⟨g, l⟩ := Z
          simp only at i1 i2 hstep h0end ⊢
          obtain ⟨hKw, hXw, hCw, hzw⟩ := hB0 g α β (v, ok, l) i1.1 i1.2
          have eo : ∀ a b, a ≠ z → ¬ (a = q ∧ b = 16) → ¬ (q + 3 ≤ a ∧ a ≤ q + 7) → gi (wS (adS g z α β) z (v, ok, l)) a b = gi h a b := fun a b n1 n2 n3 => by rw [wS_o (fun q => n1 q.1), adS_o n1, i1.2 a b n2 n3, eN a b n1]
          have eB : xBad (wS (adS g z α β) z (v, ok, l)) q = xBad h q := by funext b; unfold xBad; rw [eo _ _ (by omega) (by omega) (by omega)]
          have eA : xAdr (wS (adS g z α β) z (v, ok, l)) q s k = xAdr h q s k := by unfold xAdr; rw [eB]
          have hcw0 := hCw.1.1
          refine J_iload (pq := 107) dX8_burn_105 rfl rfl (J_iload (pq := 109) dX8_burn_107 rfl rfl (J_icmp_ge (pq := 112) (tgt := 170) dX8_burn_109 rfl rfl (fun c => ?_) (fun c => ?_)))
          · rw [nI_leI (by omega) (by omega)] at c
            have hk : k = xRch h q s f w := by omega
            refine J_iload (pq := 172) dX8_burn_170 rfl rfl (J_aload (pq := 174) dX8_burn_172 rfl rfl (J_getI (pq := 177) dX8_burn_174 rfl f_X8_209 jsI hzw (J_isub (pq := 178) dX8_burn_177 rfl (J_iret dX8_burn_178 rfl rfl ?_))))
            refine ⟨α, β, (v, ok, l), ?_, ?_⟩
            · rw [wS_2, ← hk, hZ]
            · rw [← hk, hZ]
          · rw [nI_leI (by omega) (by omega)] at c
            have hk : k < xRch h q s f w := Nat.lt_of_not_le c
            have hfw := fw_le hf hnn hk
            have hal := xAdr_lt (h := h) (q := q) (s := s) (Nat.lt_of_lt_of_le hk hn2)
            refine J_aload (pq := 114) dX8_burn_112 rfl rfl (J_getI (pq := 117) dX8_burn_114 rfl f_X8_209 jsI hzw (J_if_le (pq := 120) (tgt := 170) dX8_burn_117 rfl rfl (fun c => ?_) (fun c => ?_)))
            · rw [wS_2, show (0 : Int32) = nI 0 from rfl, nI_leI (by simp only; omega) (by omega)] at c
              have hl0 : l = 0 := by simp only at c; omega
              refine J_iload (pq := 172) dX8_burn_170 rfl rfl (J_aload (pq := 174) dX8_burn_172 rfl rfl (J_getI (pq := 177) dX8_burn_174 rfl f_X8_209 jsI hzw (J_isub (pq := 178) dX8_burn_177 rfl (J_iret dX8_burn_178 rfl rfl ?_))))
              refine ⟨α, β, (v, ok, l), ?_, ?_⟩
              · rw [wS_2, h0end hl0]
              · rw [h0end hl0]
            · refine J_aload (pq := 122) dX8_burn_120 rfl rfl (J_iload (pq := 124) dX8_burn_122 rfl rfl (J_virtF (pq := 127) dX8_burn_124 rfl (j_X0_addressOf hCw (by omega)) rfl tg_X0_addressOf l_X8_212 vi_X0_addressOf hcw0 ⟨by decide, rfl⟩ (Nat.le_of_ble_eq_true rfl) (Nat.zero_le _) (Nat.zero_le _) (Nat.le_of_ble_eq_true rfl) (?_)))
              rw [eB, if_pos (Nat.lt_of_lt_of_le hk hn2), eA]
              refine J_istore (pq := 129) dX8_burn_127 rfl (Nat.le_of_ble_eq_true rfl) (Nat.le_of_ble_eq_true rfl) rfl (J_aload_n (pq := 130) dX8_burn_129 rfl rfl (J_iload (pq := 132) dX8_burn_130 rfl rfl (J_iload (pq := 134) dX8_burn_132 rfl rfl (J_iload (pq := 136) dX8_burn_134 rfl rfl (J_imul (pq := 137) dX8_burn_136 rfl (J_iadd (pq := 138) dX8_burn_137 rfl (?_)))))))
              rw [im_n]
              refine J_virtF (pq := 141) dX8_burn_138 rfl (j_img hKw hXw hfw) rfl tg_X8_image l_X8_215 vi_X8_image (hKw.at rfl) ⟨by decide, rfl⟩ (Nat.le_of_ble_eq_true rfl) (Nat.zero_le _) (Nat.zero_le _) (Nat.le_of_ble_eq_true rfl) (?_)
              rw [eo _ _ (by omega) (by omega) (by omega)]
              have hRt : (decide (gi (wS (adS g z α β) z (v, ok, l)) (q + 3) (xAdr h q s k) = gi h 3 (f + w * k)) && decide (gi (wS (adS g z α β) z (v, ok, l)) (q + 4) (xAdr h q s k) = gi h 3 (f + w * k))) = cnR h q s f w k g := by
                unfold cnR xRt
                rw [wS_o (by omega), wS_o (by omega), adS_o (by omega), adS_o (by omega)]
              refine J_istore (pq := 143) dX8_burn_141 rfl (Nat.le_of_ble_eq_true rfl) (Nat.le_of_ble_eq_true rfl) rfl (J_aload (pq := 145) dX8_burn_143 rfl rfl (J_iload (pq := 147) dX8_burn_145 rfl rfl (J_iload (pq := 149) dX8_burn_147 rfl rfl (J_virtF (pq := 152) dX8_burn_149 rfl (j_X0_isRight hCw hal) rfl tg_X0_isRight l_X8_218 vi_X0_isRight hcw0 ⟨by decide, rfl⟩ (Nat.le_of_ble_eq_true rfl) (Nat.zero_le _) (Nat.zero_le _) (Nat.le_of_ble_eq_true rfl) (J_if_ne (pq := 155) (tgt := 164) dX8_burn_152 rfl rfl (fun c => ?_) (fun c => ?_))))))
              · rw [hRt, bi_0, Bool.not_eq_false] at c
                rw [if_pos c] at hstep
                refine J_iinc (pq := 167) dX8_burn_164 rfl c_iconst_1 rfl (Nat.le_of_ble_eq_true rfl) rfl (J_goto (tgt := 105) dX8_burn_167 rfl (?_))
                rw [nI_1]
                refine J_weak (by simp [lsub]) rfl ?_ (ih (k + 1, α, β, v, ok) (by simp only; omega) (by simp only; omega))
                simp only
                rw [hstep]
              · rw [hRt, bi_0] at c
                rw [if_neg (by rw [c]; decide)] at hstep
                have hSg : DS (gi (adS g z α β)) d tc 0 e := DS_congr tc hPG 0 e (fun j _ _ => ⟨by rw [adS_o (by omega), i1.2 _ _ (by omega) (by omega)], by rw [adS_o (by omega), i1.2 _ _ (by omega) (by omega)], by rw [adS_o (by omega), i1.2 _ _ (by omega) (by omega)], by rw [adS_o (by omega), i1.2 _ _ (by omega) (by omega)]⟩) hSN
                have ea : adS (adS g z α β) z (nI (xAdr h q s k)) (gi h 3 (f + w * k)) = adS g z (nI (xAdr h q s k)) (gi h 3 (f + w * k)) := adS_ad g z α β _ _
                have hWB : WB (adS (adS g z α β) z (nI (xAdr h q s k)) (gi h 3 (f + w * k))) z q d s e (xAdr h q s k) (gi h 3 (f + w * k)) := by
                  rw [ea]
                  have e2 : (adS g z (nI (xAdr h q s k)) (gi h 3 (f + w * k))).2 = (wkN h q d).2 := i1.1
                  have er : ∀ a b, gr (adS g z (nI (xAdr h q s k)) (gi h 3 (f + w * k))) a b = gr (wkN h q d) a b := fun a b => by show (adS g z (nI (xAdr h q s k)) (gi h 3 (f + w * k))).2.2.1 a b = _; rw [e2]; rfl
                  refine ⟨?_, ?_, ?_, ?_, ?_, hCN.of3 (by rw [e2]) (by rw [adS_o (by omega), i1.2 _ _ (by omega) (by omega)]), hDN.of3 (by rw [e2]) (by rw [adS_o (by omega), i1.2 _ _ (by omega) (by omega)]), hal, hdq, hqz⟩
                  · show (adS g z (nI (xAdr h q s k)) (gi h 3 (f + w * k))).2.2.2[z]? = _
                    rw [e2]; exact hzN
                  · rw [er, wkN_gr, hz, if_neg (by omega), if_pos ⟨rfl, rfl⟩]
                  · rw [er, wkN_gr, hz, if_pos ⟨rfl, rfl⟩]
                  · simp [adS, gi_si]
                  · simp [adS, gi_si]
                have hwk := j_workAt (x := x) (v := v) (ok := ok) hWB hPG hO hSg (show l ≤ 100000 by omega)
                rw [adS_ex hqz tc hPG, adS_2] at hwk
                refine J_aload (pq := 157) dX8_burn_155 rfl rfl (J_iload (pq := 159) dX8_burn_157 rfl rfl (J_iload (pq := 161) dX8_burn_159 rfl rfl (J_virtF (pq := 164) dX8_burn_161 rfl (hwk) rfl tg_X7_workAt l_X8_221 vi_X7_workAt hzw ⟨by decide, rfl⟩ (Nat.le_of_ble_eq_true rfl) (Nat.zero_le _) (Nat.zero_le _) (Nat.le_of_ble_eq_true rfl) (J_iinc (pq := 167) dX8_burn_164 rfl c_iconst_1 rfl (Nat.le_of_ble_eq_true rfl) rfl (J_goto (tgt := 105) dX8_burn_167 rfl (?_))))))
                rw [nI_1]
                refine J_weak (by simp [lsub]) rfl ?_ (ih (k + 1, nI (xAdr h q s k), gi h 3 (f + w * k), (cE q (xAdr h q s k) (gi h 3 (f + w * k)) tc (g, 0, false, l)).2.1, (cE q (xAdr h q s k) (gi h 3 (f + w * k)) tc (g, 0, false, l)).2.2.1) (by simp only; omega) (by simp only; omega))
                simp only
                rw [hstep]
                rfl
end D5
