-- the law: its loop, its start
section LX
variable {x : JX}
theorem law_loop (hx : xL x ≤ 4608) : ∀ r n h, REL h n → xL x < 9 * (n + r) + 9 → n ≤ 512 → J x yL_law cL_law 4 ret 30 (8 * r) (373 * r) LQ 18 (lsL n) [] h := by
  intro r
  induction r with
  | zero =>
    intro n h hR hlt hn
    have e9 : (nI (xL x) - 9).toInt = (xL x : Int) - 9 := by rw [ti_sub] <;> rw [nI_toInt (by omega)] <;> simp <;> omega
    refine J_iload_n (pq := 19) dL_law_18 rfl rfl (J_aload_n (pq := 20) dL_law_19 rfl rfl (J_slen (pq := 21) dL_law_20 rfl rfl (J_bipush (pq := 23) dL_law_21 rfl c_bipush_9 (J_isub (pq := 24) dL_law_23 rfl (J_icmp_gt (pq := 27) (tgt := 1043) dL_law_24 rfl rfl (fun c => ?_) (fun c => ?_))))))
    · refine J_iconst (pq := 1044) dL_law_1043 rfl c_iconst_1 (?_)
      exact J_iret dL_law_1044 rfl rfl rfl
    · rw [show Int32.ofNat (xL x) = nI (xL x) from rfl, ti_lt, e9, nI_toInt (by omega)] at c
      omega
  | succ r ih =>
    intro n h hR hlt hn
    have e9 : (nI (xL x) - 9).toInt = (xL x : Int) - 9 := by rw [ti_sub] <;> rw [nI_toInt (by omega)] <;> simp <;> omega
    refine J_iload_n (pq := 19) dL_law_18 rfl rfl (J_aload_n (pq := 20) dL_law_19 rfl rfl (J_slen (pq := 21) dL_law_20 rfl rfl (J_bipush (pq := 23) dL_law_21 rfl c_bipush_9 (J_isub (pq := 24) dL_law_23 rfl (J_icmp_gt (pq := 27) (tgt := 1043) dL_law_24 rfl rfl (fun c => ?_) (fun c => ?_))))))
    · refine J_iconst (pq := 1044) dL_law_1043 rfl c_iconst_1 (?_)
      exact J_iret dL_law_1044 rfl rfl rfl
    · rw [show Int32.ofNat (xL x) = nI (xL x) from rfl, ti_lt, e9, nI_toInt (by omega)] at c
      have hb0 : vp_in (nI (9 * n)) (xL x) := vp_in_nI (by omega) (by omega)
      have hb1 : vp_in (nI (9 * n) + 1) (xL x) := vinN (show nI (9 * n) + 1 = nI (9 * n + 1) from nI_add (9 * n) 1) (by omega) (by omega)
      have hb2 : vp_in (nI (9 * n) + 2) (xL x) := vinN (show nI (9 * n) + 2 = nI (9 * n + 2) from nI_add (9 * n) 2) (by omega) (by omega)
      have hb3 : vp_in (nI (9 * n) + 3) (xL x) := vinN (show nI (9 * n) + 3 = nI (9 * n + 3) from nI_add (9 * n) 3) (by omega) (by omega)
      have hb4 : vp_in (nI (9 * n) + 4) (xL x) := vinN (show nI (9 * n) + 4 = nI (9 * n + 4) from nI_add (9 * n) 4) (by omega) (by omega)
      have hb5 : vp_in (nI (9 * n) + 5) (xL x) := vinN (show nI (9 * n) + 5 = nI (9 * n + 5) from nI_add (9 * n) 5) (by omega) (by omega)
      have hb6 : vp_in (nI (9 * n) + 6) (xL x) := vinN (show nI (9 * n) + 6 = nI (9 * n + 6) from nI_add (9 * n) 6) (by omega) (by omega)
      have hb7 : vp_in (nI (9 * n) + 7) (xL x) := vinN (show nI (9 * n) + 7 = nI (9 * n + 7) from nI_add (9 * n) 7) (by omega) (by omega)
      have hb8 : vp_in (nI (9 * n) + 8) (xL x) := vinN (show nI (9 * n) + 8 = nI (9 * n + 8) from nI_add (9 * n) 8) (by omega) (by omega)
      have kN : ∀ ck cs h2, 8 * r ≤ ck → 373 * r ≤ cs → REL h2 (n + 1) → J x yL_law cL_law 4 ret 30 ck cs LQ 1037 (lsL n) [] h2 := fun ck cs h2 g1 g2 hR2 => by
        refine J_bud (8 * r) (373 * r) g1 g2 ?_
        have e : nI (9 * n) + 9 = nI (9 * (n + 1)) := nI_add (9 * n) 9
        refine J_iinc (pq := 1040) dL_law_1037 rfl c_iconst_9 rfl (Nat.le_of_ble_eq_true rfl) rfl (J_goto (tgt := 18) dL_law_1040 rfl (?_))
        rw [e]
        exact ih (n + 1) h2 hR2 (by omega) (by omega)
      refine J_aload_n (pq := 28) dL_law_27 rfl rfl (J_iload_n (pq := 29) dL_law_28 rfl rfl (J_sld (pq := 30) dL_law_29 rfl hb0 (J_bipush (pq := 32) dL_law_30 rfl c_bipush_31 (J_iand (pq := 33) dL_law_32 rfl (?_)))))
      obtain ⟨k, hk, e⟩ := pk_andE (xS x (ix (nI (9 * n)))) (m := 31) 5 rfl
      rw [e]
      by_cases h21 : 21 ≤ k
      · refine J_tabOut (tgt := 1037) dL_law_33 (Or.inr (by rw [nI_toInt (by omega)]; omega)) rfl ?_
        exact kN _ _ _ (by omega) (by omega) (hR.same (by omega) rfl (fun _ _ _ => rfl))
      · rcases (show k = 0 ∨ k = 1 ∨ k = 2 ∨ k = 3 ∨ k = 4 ∨ k = 5 ∨ k = 6 ∨ k = 7 ∨ k = 8 ∨ k = 9 ∨ k = 10 ∨ k = 11 ∨ k = 12 ∨ k = 13 ∨ k = 14 ∨ k = 15 ∨ k = 16 ∨ k = 17 ∨ k = 18 ∨ k = 19 ∨ k = 20 by omega) with rfl | rfl | rfl | rfl | rfl | rfl | rfl | rfl | rfl | rfl | rfl | rfl | rfl | rfl | rfl | rfl | rfl | rfl | rfl | rfl | rfl
        · exact J_tabIn (tgt := 132) dL_law_33 (by decide) (by decide) rfl rfl (lc_feed hR (by omega) hb1 hb2 hb3 hb4 hb5 hb6 hb7 hb8 kN)
        · exact J_tabIn (tgt := 195) dL_law_33 (by decide) (by decide) rfl rfl (lc_end hR (by omega) hb1 hb2 hb3 hb4 hb5 hb6 hb7 hb8 kN)
        · exact J_tabIn (tgt := 218) dL_law_33 (by decide) (by decide) rfl rfl (lc_file hR (by omega) hb1 hb2 hb3 hb4 hb5 hb6 hb7 hb8 kN)
        · exact J_tabIn (tgt := 241) dL_law_33 (by decide) (by decide) rfl rfl (lc_fault hR (by omega) hb1 hb2 hb3 hb4 hb5 hb6 hb7 hb8 kN)
        · exact J_tabIn (tgt := 264) dL_law_33 (by decide) (by decide) rfl rfl (lc_write hR (by omega) hb1 hb2 hb3 hb4 hb5 hb6 hb7 hb8 kN)
        · exact J_tabIn (tgt := 307) dL_law_33 (by decide) (by decide) rfl rfl (lc_tape hR (by omega) hb1 hb2 hb3 hb4 hb5 hb6 hb7 hb8 kN)
        · exact J_tabIn (tgt := 330) dL_law_33 (by decide) (by decide) rfl rfl (lc_image hR (by omega) hb1 hb2 hb3 hb4 hb5 hb6 hb7 hb8 kN)
        · exact J_tabIn (tgt := 353) dL_law_33 (by decide) (by decide) rfl rfl (lc_fill hR (by omega) hb1 hb2 hb3 hb4 hb5 hb6 hb7 hb8 kN)
        · exact J_tabIn (tgt := 376) dL_law_33 (by decide) (by decide) rfl rfl (lc_chip hR (by omega) hb1 hb2 hb3 hb4 hb5 hb6 hb7 hb8 kN)
        · exact J_tabIn (tgt := 491) dL_law_33 (by decide) (by decide) rfl rfl (lc_need hR (by omega) hb1 hb2 hb3 hb4 hb5 hb6 hb7 hb8 kN)
        · exact J_tabIn (tgt := 534) dL_law_33 (by decide) (by decide) rfl rfl (lc_bad hR (by omega) hb1 hb2 hb3 hb4 hb5 hb6 hb7 hb8 kN)
        · exact J_tabIn (tgt := 593) dL_law_33 (by decide) (by decide) rfl rfl (lc_contact hR (by omega) hb1 hb2 hb3 hb4 hb5 hb6 hb7 hb8 kN)
        · exact J_tabIn (tgt := 652) dL_law_33 (by decide) (by decide) rfl rfl (lc_erase hR (by omega) hb1 hb2 hb3 hb4 hb5 hb6 hb7 hb8 kN)
        · exact J_tabIn (tgt := 675) dL_law_33 (by decide) (by decide) rfl rfl (lc_chipOf hR (by omega) hb1 hb2 hb3 hb4 hb5 hb6 hb7 hb8 kN)
        · exact J_tabIn (tgt := 708) dL_law_33 (by decide) (by decide) rfl rfl (lc_recipe hR (by omega) hb1 hb2 hb3 hb4 hb5 hb6 hb7 hb8 kN)
        · exact J_tabIn (tgt := 731) dL_law_33 (by decide) (by decide) rfl rfl (lc_walk hR (by omega) hb1 hb2 hb3 hb4 hb5 hb6 hb7 hb8 kN)
        · exact J_tabIn (tgt := 764) dL_law_33 (by decide) (by decide) rfl rfl (lc_why hR (by omega) hb1 hb2 hb3 hb4 hb5 hb6 hb7 hb8 kN)
        · exact J_tabIn (tgt := 827) dL_law_33 (by decide) (by decide) rfl rfl (lc_burn hR (by omega) hb1 hb2 hb3 hb4 hb5 hb6 hb7 hb8 kN)
        · exact J_tabIn (tgt := 902) dL_law_33 (by decide) (by decide) rfl rfl (lc_wrong hR (by omega) hb1 hb2 hb3 hb4 hb5 hb6 hb7 hb8 kN)
        · exact J_tabIn (tgt := 945) dL_law_33 (by decide) (by decide) rfl rfl (lc_read hR (by omega) hb1 hb2 hb3 hb4 hb5 hb6 hb7 hb8 kN)
        · exact J_tabIn (tgt := 1014) dL_law_33 (by decide) (by decide) rfl rfl (lc_about hR (by omega) hb1 hb2 hb3 hb4 hb5 hb6 hb7 hb8 kN)
theorem j_law (hx : xL x ≤ 4608) : J x yL_law cL_law 4 ret 30 4172 197425 LQ 0 [some (.ref 1000000000), none, none, none] [] hz := by
  refine J_new (ci := 8) (r := (RX8, TX8, 11)) (pq := 3) dL_law_0 rfl rfl (by decide) cl_L_7 in_X8 it_X8 (by decide +kernel) (Nat.le_of_ble_eq_true rfl) (Nat.le_of_ble_eq_true rfl) (?_)
  refine J_eq (st' := [.ref 0]) (h' := u0) rfl rfl rfl ?_
  refine J_dup (pq := 4) dL_law_3 rfl rfl (J_initF (pq := 7) dL_law_4 rfl (j_X8_init) rfl tg_X8_init l_L_9 ii_X8_init rfl (Nat.le_of_ble_eq_true rfl) (Nat.le_of_ble_eq_true rfl) (Nat.le_of_ble_eq_true rfl) (Nat.le_of_ble_eq_true rfl) (J_astore_m 1 (pq := 8) dL_law_7 rfl rfl (Nat.le_of_ble_eq_true rfl) (Nat.le_of_ble_eq_true rfl) rfl (?_)))
  refine J_new (ci := 9) (r := (RX9, TX9, 56)) (pq := 11) dL_law_8 rfl rfl (by decide) cl_L_10 in_X9 it_X9 (by decide +kernel) (Nat.le_of_ble_eq_true rfl) (Nat.le_of_ble_eq_true rfl) (?_)
  refine J_eq (st' := [.ref 38]) (h' := y0) rfl rfl rfl ?_
  refine J_dup (pq := 12) dL_law_11 rfl rfl (J_initF (pq := 15) dL_law_12 rfl (j_X9_init) rfl tg_X9_init l_L_12 ii_X9_init rfl (Nat.le_of_ble_eq_true rfl) (Nat.le_of_ble_eq_true rfl) (Nat.le_of_ble_eq_true rfl) (Nat.le_of_ble_eq_true rfl) (J_astore_m 2 (pq := 16) dL_law_15 rfl rfl (Nat.le_of_ble_eq_true rfl) (Nat.le_of_ble_eq_true rfl) rfl (J_iconst (pq := 17) dL_law_16 rfl c_iconst_0 (J_istore_m 3 (pq := 18) dL_law_17 rfl rfl (Nat.le_of_ble_eq_true rfl) (Nat.le_of_ble_eq_true rfl) rfl (?_)))))
  refine J_eq (ls' := lsL 0) (st' := []) (h' := yF) rfl rfl rfl ?_
  exact J_bud (8 * 512) (373 * 512) (Nat.le_of_ble_eq_true rfl) (Nat.le_of_ble_eq_true rfl) (law_loop hx 512 0 yF yF_R (by omega) (by omega))
end LX
