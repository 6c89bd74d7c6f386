-- the class: a call of recipe
section R6
variable {x : JX} {h : JH} {n d : Nat} {t : Nat → Int32}
theorem j_X8_recipe_no {v : Int32} (hv : isin v 0 3 = false) : JF x yX8_recipe cX8_recipe 4 (some .int) 15 0 0 [.ref 0, .int v] h (some (.int (-1))) h := by
  refine JM_of [some (.ref 0), some (.int v), none, none] (by decide) (Nat.le_of_ble_eq_true rfl) rfl ?_
  refine J_iload_n (pq := 1) dX8_recipe_0 rfl rfl (J_iconst (pq := 2) dX8_recipe_1 rfl c_iconst_0 (J_iconst (pq := 3) dX8_recipe_2 rfl c_iconst_3 (J_statF (pq := 6) dX8_recipe_3 rfl (j_X8_isWithin) rfl tg_X8_isWithin l_X8_87 st_X8_isWithin (Nat.le_of_ble_eq_true rfl) (Nat.zero_le _) (Nat.zero_le _) (Nat.le_of_ble_eq_true rfl) (J_if_ne (pq := 9) (tgt := 11) dX8_recipe_6 rfl rfl (fun c => ?_) (fun c => ?_)))))
  · rw [hv] at c; exact absurd rfl c
  · refine J_iconst (pq := 10) dX8_recipe_9 rfl c_iconst_m1 (J_iret dX8_recipe_10 rfl rfl ?_)
    exact ⟨rfl, rfl⟩
/-- what a call of recipe leaves behind in the class: rows and finding, the tape cut; if good, the two recipes change places -/
def RpP (t : Nat → Int32) (n r d d' : Nat) (h : JH) (v : Option Value) (g : JH) : Prop := ∃ g0, RcX d h g0 ∧ gi g0 4 0 = nI (recS t n).1 ∧ gi g0 4 1 = (if (recS t n).1 = 0 then -1 else nI (recS t n).2.1) ∧ (((recS t n).1 ≠ 0 ∧ v = some (.int (-1)) ∧ g = si g0 1 1 0) ∨ ((recS t n).1 = 0 ∧ v = some (.int (nI (recS t n).2.2.2)) ∧ DRec g0 d (recS t n).2.2.1 (recS t n).2.2.2 ∧ g = sr (sr (si g0 1 1 0) 12 r (some d)) 0 9 (some d')))
theorem j_X8_recipe {r d' : Nat} (hK : Kin h) (hX : XR h) (hr : r < 4) (hR : RK h d) (hd1 : 13 ≤ d) (hd2 : d + 4 < 38) (hsp : gr h 0 9 = some d) (hgr : gr h 12 r = some d') (hd0' : (kd h)[d']? = some (4, 8)) (hn : gi h 1 1 = nI n) (hn4 : n ≤ 400) (ht : gi h 2 = t) (hby : tby t) : JM x yX8_recipe cX8_recipe 4 (some .int) 15 0 0 [.ref 0, .int (nI r)] h (RpP t n r d d' h) := by
  refine JM_of [some (.ref 0), some (.int (nI r)), none, none] (by decide) (Nat.le_of_ble_eq_true rfl) rfl ?_
  have hb4 : vp_in (nI r) 4 := vp_in_nI (by omega) (by omega)
  have hxr : ix (nI r) = r := ixn (by omega)
  refine J_iload_n (pq := 1) dX8_recipe_0 rfl rfl (J_iconst (pq := 2) dX8_recipe_1 rfl c_iconst_0 (J_iconst (pq := 3) dX8_recipe_2 rfl c_iconst_3 (J_statF (pq := 6) dX8_recipe_3 rfl (j_X8_isWithin) rfl tg_X8_isWithin l_X8_87 st_X8_isWithin (Nat.le_of_ble_eq_true rfl) (Nat.zero_le _) (Nat.zero_le _) (Nat.le_of_ble_eq_true rfl) (J_if_ne (pq := 9) (tgt := 11) dX8_recipe_6 rfl rfl (fun c => ?_) (fun c => ?_)))))
  rotate_left
  · rw [show isin (nI r) 0 3 = true from (isK (n := 3) (by omega)).mpr ⟨r, by omega, rfl⟩] at c
    exact absurd c (by decide)
  refine J_aload_n (pq := 12) dX8_recipe_11 rfl rfl (J_getA (pq := 15) dX8_recipe_12 rfl f_X8_48 (by decide +kernel) (by first | exact hc0 | exact hd0 | exact hK.at rfl) (hX _ _ _ rfl) (J_aload_n (pq := 16) dX8_recipe_15 rfl rfl (J_getA (pq := 19) dX8_recipe_16 rfl f_X8_65 (by decide +kernel) (by first | exact hc0 | exact hd0 | exact hK.at rfl) hsp (J_virt (pq := 22) dX8_recipe_19 rfl (j_rcRead hK hX hR hd1 hd2 hn hn4 ht hby) rfl tg_X5_readInto l_X8_173 vi_X5_readInto (by first | exact hc0 | exact hd0 | exact hK.at rfl) ⟨by decide, rfl⟩ (Nat.le_of_ble_eq_true rfl) (Nat.zero_le _) (Nat.zero_le _) (Nat.le_of_ble_eq_true rfl) (fun v g hq => ?_)))))
  obtain ⟨hF, rfl, y1, y2, y3⟩ := hq
  have hKg : Kin g := hK.of2 hF.1
  have hXg : XR g := hX.of3 (by rw [hF.1])
  have g11 : gi g 1 1 = nI n := by rw [hF.2 _ _ (by omega) (by omega) (by omega) (by omega) (by omega)]; exact hn
  have hc0 : isin 0 0 (gi g 1 1) = true := by rw [g11]; exact (isK (by omega)).mpr ⟨0, by omega, rfl⟩
  have hsp' : gr (si g 1 1 0) 0 9 = some d := by show g.2.2.1 0 9 = _; rw [hF.1]; exact hsp
  have hgr' : gr (si g 1 1 0) 12 (ix (nI r)) = some d' := by rw [hxr]; show g.2.2.1 12 r = _; rw [hF.1]; exact hgr
  have hkd : kd g = kd h := by show g.2.2.2 = h.2.2.2; rw [hF.1]
  have hdk : (kd (si g 1 1 0))[d]? = some (4, 8) := by show (kd g)[d]? = _; rw [hkd]; exact hR.1.1
  have hK1 : Kin (si g 1 1 0) := hKg
  have hX1 : XR (si g 1 1 0) := hXg
  refine J_istore_m 2 (pq := 23) dX8_recipe_22 rfl rfl (Nat.le_of_ble_eq_true rfl) (Nat.le_of_ble_eq_true rfl) rfl (J_aload_n (pq := 24) dX8_recipe_23 rfl rfl (J_getA (pq := 27) dX8_recipe_24 rfl f_X8_10 (by decide +kernel) (hKg.at rfl) (hXg _ _ _ rfl) (J_iconst (pq := 28) dX8_recipe_27 rfl c_iconst_0 (J_virtF (pq := 31) dX8_recipe_28 rfl (j_X6_cutTo hKg) rfl tg_X6_cutTo l_X8_83 vi_X6_cutTo (hKg.at rfl) ⟨by decide, rfl⟩ (Nat.le_of_ble_eq_true rfl) (Nat.zero_le _) (Nat.zero_le _) (Nat.le_of_ble_eq_true rfl) (?_)))))
  rw [if_pos hc0]
  refine J_pop (pq := 32) dX8_recipe_31 rfl rfl (J_iload_n (pq := 33) dX8_recipe_32 rfl rfl (J_if_ne (pq := 36) (tgt := 38) dX8_recipe_33 rfl rfl (fun c => ?_) (fun c => ?_)))
  rotate_left
  · rw [bi_0, decide_eq_false_iff_not] at c
    refine J_iconst (pq := 37) dX8_recipe_36 rfl c_iconst_m1 (J_iret dX8_recipe_37 rfl rfl ?_)
    exact ⟨g, hF, y1, y2, Or.inl ⟨c, rfl, rfl⟩⟩
  rw [bi_0, decide_eq_false_iff_not, Decidable.not_not] at c
  have hD := y3 c
  have hd0k : (kd (si g 1 1 0))[d']? = some (4, 8) := by show (kd g)[d']? = _; rw [hkd]; exact hd0'
  refine J_aload_n (pq := 39) dX8_recipe_38 rfl rfl (J_getA (pq := 42) dX8_recipe_39 rfl f_X8_60 (by decide +kernel) (hK1.at rfl) (hX1 _ _ _ rfl) (J_iload_n (pq := 43) dX8_recipe_42 rfl rfl (J_aald (Or.inr rfl) (pq := 44) dX8_recipe_43 rfl (hK1.at rfl) (by assumption) hgr' (J_astore_m 3 (pq := 45) dX8_recipe_44 rfl rfl (Nat.le_of_ble_eq_true rfl) (Nat.le_of_ble_eq_true rfl) rfl (J_aload_n (pq := 46) dX8_recipe_45 rfl rfl (J_getA (pq := 49) dX8_recipe_46 rfl f_X8_60 (by decide +kernel) (hK1.at rfl) (hX1 _ _ _ rfl) (J_iload_n (pq := 50) dX8_recipe_49 rfl rfl (J_aload_n (pq := 51) dX8_recipe_50 rfl rfl (J_getA (pq := 54) dX8_recipe_51 rfl f_X8_65 (by decide +kernel) (hK1.at rfl) hsp' (J_aast (Or.inr ⟨rfl, rfl⟩) (pq := 55) dX8_recipe_54 rfl (hK1.at rfl) hdk (by assumption) (J_aload_n (pq := 56) dX8_recipe_55 rfl rfl (J_aload_n (pq := 57) dX8_recipe_56 rfl rfl (J_putR (pq := 60) dX8_recipe_57 rfl f_X8_65 (Or.inl rfl) (hK1.at rfl) rf_LRecipe (?_))))))))))))))
  rw [hxr]
  have hK3 : Kin (sr (sr (si g 1 1 0) 12 r (some d)) 0 9 (some d')) := hK1
  have hX3 : XR (sr (sr (si g 1 1 0) 12 r (some d)) 0 9 (some d')) := fun o k a hk => by
    rw [gr_sr, if_neg (by rintro ⟨rfl, rfl⟩; cases hk), gr_sr, if_neg (by rintro ⟨rfl, rfl⟩; cases hk)]
    exact hX1 o k a hk
  have hg3 : gr (sr (sr (si g 1 1 0) 12 r (some d)) 0 9 (some d')) 12 (ix (nI r)) = some d := by rw [hxr, gr_sr, if_neg (by omega), gr_sr, if_pos ⟨rfl, rfl⟩]
  have hdk3 : (kd (sr (sr (si g 1 1 0) 12 r (some d)) 0 9 (some d')))[d]? = some (4, 8) := hdk
  have e4 : gi (sr (sr (si g 1 1 0) 12 r (some d)) 0 9 (some d')) d 4 = nI (recS t n).2.2.2 := by
    show gi (si g 1 1 0) d 4 = _
    rw [gi_si, if_neg (by omega)]; exact hD.1.2.1
  refine J_aload_n (pq := 61) dX8_recipe_60 rfl rfl (J_getA (pq := 64) dX8_recipe_61 rfl f_X8_60 (by decide +kernel) (hK3.at rfl) (hX3 _ _ _ rfl) (J_iload_n (pq := 65) dX8_recipe_64 rfl rfl (J_aald (Or.inr rfl) (pq := 66) dX8_recipe_65 rfl (hK3.at rfl) (by assumption) hg3 (J_getI (pq := 69) dX8_recipe_66 rfl f_X8_176 jsI hdk3 (J_iret dX8_recipe_69 rfl rfl ?_)))))
  exact ⟨g, hF, y1, y2, Or.inr ⟨c, by rw [e4], hD, rfl⟩⟩
end R6
