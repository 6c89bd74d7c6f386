-- the class: write
section E2
variable {x : JX} {h : JH} {n : Nat}
theorem lnH_B (fm kn ad m : Nat) (f : Nat → Nat) : lnB fm kn ad m f = lnH fm kn ad m ++ dat f m := rfl
theorem flat_len : ∀ l : List Nat, (l.flatMap byteL).length = 2 * l.length
  | [] => rfl
  | b :: l => by rw [List.flatMap_cons, List.length_append, flat_len l, show (byteL b).length = 2 from rfl, List.length_cons]; omega
theorem j_writeOut {fm a b : Nat} {fI : Int32} {f : Nat → Nat} (hfm : (fm = 1 ∧ fI = 1) ∨ (fm = 2 ∧ fI = 2)) (hK : Kin h) (hX : XR h) (hab : a ≤ b) (hb : b ≤ 255) (hf : ∀ k, f k < 256) (him : ∀ k, k < 256 → gi h 3 k = nI (f k)) (hlen : wrLen fm a b ≤ 400) (hn : gi h 1 1 = nI n) (hn4 : n ≤ 400) : JM x yX3_writeOut cX3_writeOut 8 none 5 0 0 [.ref 7, .ref 3, .int fI, .int (nI a), .int (nI b)] h (fun v g => v = none ∧ ∃ S, g = wT (si h 1 1 0) (wrL fm a b f) S) := by
  refine JM_of [some (.ref 7), some (.ref 3), some (.int fI), some (.int (nI a)), some (.int (nI b)), none, none, none] (by decide) (Nat.le_of_ble_eq_true rfl) rfl ?_
  have hK1 : Kin (si h 1 1 0) := hK
  have hX1 : XR (si h 1 1 0) := hX
  have hn1 : gi (si h 1 1 0) 1 1 = nI 0 := by rw [gi_si, if_pos ⟨rfl, rfl⟩]; rfl
  have hK0 : ∀ l S, Kin (wT (si h 1 1 0) l S) := fun l S => wT_k hK1
  have hX0 : ∀ l S, XR (wT (si h 1 1 0) l S) := fun l S => wT_x hX1
  have hi3 : ∀ l S k, k < 256 → gi (wT (si h 1 1 0) l S) 3 k = nI (f k) := fun l S k hk => by
    unfold wT; rw [gi_si, if_neg (by omega), pus_o (by omega) (by omega), gi_si, if_neg (by omega)]; exact him k hk
  have hll := fun k hk => lsN_len fm a b f hab k hk
  have hwl : (b - a) / 16 + 1 ≤ 17 := by omega
  have hwr : wrLen fm a b = 2 * (b - a + 1) + ((b - a) / 16 + 1) * eL fm + eL fm := rfl
  have heL : eL fm = 12 ∨ eL fm = 11 := by unfold eL; split <;> omega
  have hlnl := fun kn ad m (f' : Nat → Nat) => lnL_len fm kn ad m f'
  have hc0 : isin 0 0 (gi h 1 1) = true := by
    rw [hn]; exact (isK (by omega)).mpr ⟨0, by omega, rfl⟩
  refine J_aload_n (pq := 1) dX3_writeOut_0 rfl rfl (J_getA (pq := 4) dX3_writeOut_1 rfl f_X3_9 (by decide +kernel) (by first | exact hc0 | exact hd0 | exact hK.at rfl) (hX _ _ _ rfl) (J_iconst (pq := 5) dX3_writeOut_4 rfl c_iconst_0 (J_virtF (pq := 8) dX3_writeOut_5 rfl (j_X6_cutTo hK) rfl tg_X6_cutTo l_X3_15 vi_X6_cutTo (by first | exact hc0 | exact hd0 | exact hK.at rfl) ⟨by decide, rfl⟩ (Nat.le_of_ble_eq_true rfl) (Nat.zero_le _) (Nat.zero_le _) (Nat.le_of_ble_eq_true rfl) (?_))))
  rw [if_pos hc0]
  refine J_pop (pq := 9) dX3_writeOut_8 rfl rfl (J_iload_n (pq := 10) dX3_writeOut_9 rfl rfl (J_istore (pq := 12) dX3_writeOut_10 rfl (Nat.le_of_ble_eq_true rfl) (Nat.le_of_ble_eq_true rfl) rfl (?_)))
  refine J_loop (σ := Nat × Int32) (fun y => [some (.ref 7), some (.ref 3), some (.int fI), some (.int (nI a)), some (.int (nI b)), some (.int (nI (a + 16 * y.1))), none, none]) (fun _ => []) (fun y => si (pus (si h 1 1 0) (lsN fm a b f y.1)) 7 1 y.2) (fun y => y.1 ≤ (b - a) / 16 + 1) (fun y => (b - a) / 16 + 1 - y.1) (0, gi h 7 1) rfl rfl (si_self (by show gi (si h 1 1 0) 7 1 = gi h 7 1; rw [gi_si, if_neg (by omega)])).symm (Nat.zero_le _) (fun y hy ih => ?_)
  obtain ⟨k, v⟩ := y
  simp only at hy ih ⊢
  have hl1 := hll k hy
  have hmul : k * eL fm ≤ ((b - a) / 16 + 1) * eL fm := Nat.mul_le_mul_right _ hy
  generalize hL : lsN fm a b f k = L at *
  have hKv : Kin (si (pus (si h 1 1 0) L) 7 1 v) := hK0 L 0
  refine J_iload (pq := 14) dX3_writeOut_12 rfl rfl (J_iload (pq := 16) dX3_writeOut_14 rfl rfl (J_icmp_gt (pq := 19) (tgt := 107) dX3_writeOut_16 rfl rfl (fun c => ?_) (fun c => ?_)))
  · rw [nI_ltI (by omega) (by omega)] at c
    have hk : k = (b - a) / 16 + 1 := by omega
    have hj := fun (kn : Nat) (hkn : kn < 10) => j_start (x := x) (l := L) (kn := kn) (ad := 0) (m := 0) (v := v) hfm hK1 hX1 hn1 (by rw [hl1]; omega) (by omega) hkn (by omega)
    have fin : ∀ kn, kn < 10 → kn = (if fm = 1 then 1 else 9) → J x yX3_writeOut cX3_writeOut 8 none 5 0 0 (fun v g => v = none ∧ ∃ S, g = wT (si h 1 1 0) (wrL fm a b f) S) 122 [some (.ref 7), some (.ref 3), some (.int fI), some (.int (nI a)), some (.int (nI b)), some (.int (nI (a + 16 * k))), none, none] [.int (nI 0), .int (nI 0), .int (nI kn), .int fI, .ref 7] (si (pus (si h 1 1 0) L) 7 1 v) := fun kn hkn hkk => by
      have hsm : (lnH fm kn 0 0).sum < 1000000 := by unfold lnH; split <;> simp <;> omega
      have hlh : (lnP fm kn ++ (lnH fm kn 0 0).flatMap byteL).length + 3 = eL fm := by
        rw [List.length_append, flat_len]
        unfold lnP lnH eL
        split <;> simp
      have hl1' := hl1
      rw [hk] at hl1'
      refine J_virtF (pq := 125) dX3_writeOut_122 rfl (hj kn hkn) rfl tg_X3_startLine l_X3_27 vi_X3_startLine (hKv.at rfl) ⟨by decide, rfl⟩ (Nat.le_of_ble_eq_true rfl) (Nat.zero_le _) (Nat.zero_le _) (Nat.le_of_ble_eq_true rfl) (?_)
      refine J_aload_n (pq := 126) dX3_writeOut_125 rfl rfl (J_iload_n (pq := 127) dX3_writeOut_126 rfl rfl (J_virtF (pq := 130) dX3_writeOut_127 rfl (j_stop hfm hK1 hX1 hn1 (by rw [List.length_append]; omega) hsm) rfl tg_X3_stopLine l_X3_35 vi_X3_stopLine ((hK0 _ _).at rfl) ⟨by decide, rfl⟩ (Nat.le_of_ble_eq_true rfl) (Nat.zero_le _) (Nat.zero_le _) (Nat.le_of_ble_eq_true rfl) (J_vret dX3_writeOut_130 rfl ?_)))
      refine ⟨rfl, (lnH fm kn 0 0).sum + lnC fm (lnH fm kn 0 0).sum, ?_⟩
      congr 1
      rw [wrL, ← hk, hL, lnL, lnH_B, ← hkk]
      simp [dat]
    refine J_aload_n (pq := 108) dX3_writeOut_107 rfl rfl (J_iload_n (pq := 109) dX3_writeOut_108 rfl rfl (J_iload_n (pq := 110) dX3_writeOut_109 rfl rfl (J_iconst (pq := 111) dX3_writeOut_110 rfl c_iconst_1 (J_icmp_ne (pq := 114) (tgt := 118) dX3_writeOut_111 rfl rfl (fun c => ?_) (fun c => ?_)))))
    · rcases hfm with ⟨rfl, rfl⟩ | ⟨rfl, rfl⟩
      · exact absurd rfl c
      · refine J_bipush (pq := 120) dX3_writeOut_118 rfl c_bipush_9 (J_iconst (pq := 121) dX3_writeOut_120 rfl c_iconst_0 (J_iconst (pq := 122) dX3_writeOut_121 rfl c_iconst_0 (?_)))
        exact fin 9 (by omega) rfl
    · rcases hfm with ⟨rfl, rfl⟩ | ⟨rfl, rfl⟩
      · refine J_iconst (pq := 115) dX3_writeOut_114 rfl c_iconst_1 (J_goto (tgt := 120) dX3_writeOut_115 rfl (J_iconst (pq := 121) dX3_writeOut_120 rfl c_iconst_0 (J_iconst (pq := 122) dX3_writeOut_121 rfl c_iconst_0 (?_))))
        exact fin 1 (by omega) rfl
      · exact absurd c (by decide)
  · rw [nI_ltI (by omega) (by omega)] at c
    have hk : k < (b - a) / 16 + 1 := by omega
    have hl2 := hll (k + 1) (by omega)
    have hstp : lsN fm a b f (k + 1) = L ++ lnL fm (if fm = 1 then 0 else 1) (a + 16 * k) (min 16 (b - (a + 16 * k) + 1)) (fun j => f (a + 16 * k + j)) := by rw [← hL]; rfl
    generalize hm : min 16 (b - (a + 16 * k) + 1) = m at *
    have hm16 : m ≤ 16 := by omega
    have hmb : a + 16 * k + m ≤ 256 := by omega
    have hlk : L.length + eL fm + 2 * m ≤ 400 := by
      have := hlnl (if fm = 1 then 0 else 1) (a + 16 * k) m (fun j => f (a + 16 * k + j))
      rw [hstp, List.length_append, this] at hl2
      have hmul2 : (k + 1) * eL fm ≤ ((b - a) / 16 + 1) * eL fm := Nat.mul_le_mul_right _ hk
      omega
    have hkn : ∃ kn, kn < 10 ∧ kn = (if fm = 1 then 0 else 1) := ⟨_, by split <;> omega, rfl⟩
    obtain ⟨kn, hkn1, hkn2⟩ := hkn
    rw [← hkn2] at hstp
    have hlh : (lnP fm kn ++ (lnH fm kn (a + 16 * k) m).flatMap byteL).length + 3 = eL fm := by
      rw [List.length_append, flat_len]
      unfold lnP lnH eL
      split <;> simp
    have hj := j_start (x := x) (l := L) (kn := kn) (ad := a + 16 * k) (m := m) (v := v) hfm hK1 hX1 hn1 (by rcases heL with q | q <;> omega) (by omega) hkn1 hm16
    have fin : J x yX3_writeOut cX3_writeOut 8 none 5 0 0 (fun v g => v = none ∧ ∃ S, g = wT (si h 1 1 0) (wrL fm a b f) S) 45 [some (.ref 7), some (.ref 3), some (.int fI), some (.int (nI a)), some (.int (nI b)), some (.int (nI (a + 16 * k))), some (.int (nI m)), none] [.int (nI kn), .int fI, .ref 7] (si (pus (si h 1 1 0) L) 7 1 v) := by
      refine J_iload (pq := 47) dX3_writeOut_45 rfl rfl (J_iload (pq := 49) dX3_writeOut_47 rfl rfl (J_virtF (pq := 52) dX3_writeOut_49 rfl (hj) rfl tg_X3_startLine l_X3_27 vi_X3_startLine (hKv.at rfl) ⟨by decide, rfl⟩ (Nat.le_of_ble_eq_true rfl) (Nat.zero_le _) (Nat.zero_le _) (Nat.le_of_ble_eq_true rfl) (J_iload (pq := 54) dX3_writeOut_52 rfl rfl (J_istore (pq := 56) dX3_writeOut_54 rfl (Nat.le_of_ble_eq_true rfl) (Nat.le_of_ble_eq_true rfl) rfl (?_)))))
      generalize hL2 : L ++ (lnP fm kn ++ (lnH fm kn (a + 16 * k) m).flatMap byteL) = L2 at *
      have hL2l : L2.length + 3 = L.length + eL fm := by rw [← hL2, List.length_append]; omega
      have hSb : (lnH fm kn (a + 16 * k) m).sum ≤ 1000 := by unfold lnH; split <;> simp <;> omega
      refine J_loop (σ := Nat) (fun j => [some (.ref 7), some (.ref 3), some (.int fI), some (.int (nI a)), some (.int (nI b)), some (.int (nI (a + 16 * k))), some (.int (nI m)), some (.int (nI (a + 16 * k + j)))]) (fun _ => []) (fun j => wT (si h 1 1 0) (L2 ++ (dat (fun j => f (a + 16 * k + j)) j).flatMap byteL) ((lnH fm kn (a + 16 * k) m).sum + (dat (fun j => f (a + 16 * k + j)) j).sum)) (fun j => j ≤ m) (fun j => m - j) 0 rfl rfl (by simp [dat]) (Nat.zero_le _) (fun j hj ih2 => ?_)
      have hdl : ((dat (fun j => f (a + 16 * k + j)) j).flatMap byteL).length = 2 * j := by rw [flat_len, dat_len]
      have hds := sum_dat_lt (fun j => f (a + 16 * k + j)) (fun _ => hf _) j
      refine J_iload (pq := 58) dX3_writeOut_56 rfl rfl (J_iload (pq := 60) dX3_writeOut_58 rfl rfl (J_iload (pq := 62) dX3_writeOut_60 rfl rfl (J_iadd (pq := 63) dX3_writeOut_62 rfl (?_))))
      rw [nI_add]
      refine J_icmp_ge (pq := 66) (tgt := 96) dX3_writeOut_63 rfl rfl (fun c => ?_) (fun c => ?_)
      · rw [nI_leI (by omega) (by omega)] at c
        have hjm : j = m := by omega
        refine J_aload_n (pq := 97) dX3_writeOut_96 rfl rfl (J_iload_n (pq := 98) dX3_writeOut_97 rfl rfl (J_virtF (pq := 101) dX3_writeOut_98 rfl (j_stop hfm hK1 hX1 hn1 (by rw [List.length_append, hdl]; omega) (by omega)) rfl tg_X3_stopLine l_X3_35 vi_X3_stopLine ((hK0 _ _).at rfl) ⟨by decide, rfl⟩ (Nat.le_of_ble_eq_true rfl) (Nat.zero_le _) (Nat.zero_le _) (Nat.le_of_ble_eq_true rfl) (J_iinc (pq := 104) dX3_writeOut_101 rfl c_iconst_16 rfl (Nat.le_of_ble_eq_true rfl) rfl (J_goto (tgt := 12) dX3_writeOut_104 rfl (?_)))))
        rw [show (16 : Int32) = nI 16 from rfl, nI_add, show a + 16 * k + 16 = a + 16 * (k + 1) by omega]
        refine J_weak (by simp [lsub]) rfl ?_ (ih (k + 1, nI ((lnH fm kn (a + 16 * k) m).sum + (dat (fun j => f (a + 16 * k + j)) j).sum + lnC fm ((lnH fm kn (a + 16 * k) m).sum + (dat (fun j => f (a + 16 * k + j)) j).sum))) (by simp only; omega) (by simp only; omega))
        show wT _ _ _ = si (pus _ (lsN fm a b f (k + 1))) 7 1 _
        unfold wT
        congr 2
        rw [hstp, hjm, lnL, lnH_B, ← hL2]
        simp [List.sum_append]
      · rw [nI_leI (by omega) (by omega)] at c
        have hj2 : j < m := by omega
        have hb3 : vp_in (nI (a + 16 * k + j)) 256 := vp_in_nI (by omega) (by omega)
        refine J_iload (pq := 68) dX3_writeOut_66 rfl rfl (J_aload_n (pq := 69) dX3_writeOut_68 rfl rfl (J_alen (pq := 70) dX3_writeOut_69 rfl ((hK0 _ _).at rfl) (Or.inl rfl) rfl (J_icmp_ge (pq := 73) (tgt := 96) dX3_writeOut_70 rfl rfl (fun c => ?_) (fun c => ?_))))
        · rw [show Int32.ofNat 256 = nI 256 from rfl, nI_leI (by omega) (by omega)] at c; omega
        · refine J_aload_n (pq := 74) dX3_writeOut_73 rfl rfl (J_iload (pq := 76) dX3_writeOut_74 rfl rfl (J_if_lt (pq := 79) (tgt := 86) dX3_writeOut_76 rfl rfl (fun c => ?_) (fun c => ?_)))
          · rw [show (0 : Int32) = nI 0 from rfl, nI_ltI (by omega) (by omega)] at c; omega
          · refine J_aload_n (pq := 80) dX3_writeOut_79 rfl rfl (J_iload (pq := 82) dX3_writeOut_80 rfl rfl (J_iald (pq := 83) dX3_writeOut_82 rfl ((hK0 _ _).at rfl) (by assumption) (J_goto (tgt := 87) dX3_writeOut_83 rfl (?_))))
            rw [ixn (by omega), hi3 _ _ _ (by omega)]
            refine J_virtF (pq := 90) dX3_writeOut_87 rfl (j_byte hK1 hX1 hn1 (by rw [List.length_append, hdl]; omega) (hf _)) rfl tg_X3_addByte l_X3_31 vi_X3_addByte ((hK0 _ _).at rfl) ⟨by decide, rfl⟩ (Nat.le_of_ble_eq_true rfl) (Nat.zero_le _) (Nat.zero_le _) (Nat.le_of_ble_eq_true rfl) (J_iinc (pq := 93) dX3_writeOut_90 rfl c_iconst_1 rfl (Nat.le_of_ble_eq_true rfl) rfl (J_goto (tgt := 56) dX3_writeOut_93 rfl (?_)))
            rw [nI_1]
            refine J_weak (ls' := [some (.ref 7), some (.ref 3), some (.int fI), some (.int (nI a)), some (.int (nI b)), some (.int (nI (a + 16 * k))), some (.int (nI m)), some (.int (nI (a + 16 * k + (j + 1))))]) (by simp [lsub, Nat.add_assoc]) rfl ?_ (ih2 (j + 1) (by omega) (by omega))
            rw [dat_s]
            simp [List.flatMap_append, List.sum_append, Nat.add_assoc]
    refine J_bipush (pq := 21) dX3_writeOut_19 rfl c_bipush_16 (J_iload (pq := 23) dX3_writeOut_21 rfl rfl (J_iload (pq := 25) dX3_writeOut_23 rfl rfl (J_isub (pq := 26) dX3_writeOut_25 rfl (?_))))
    rw [pk_sub (by omega)]
    refine J_iconst (pq := 27) dX3_writeOut_26 rfl c_iconst_1 (J_iadd (pq := 28) dX3_writeOut_27 rfl (?_))
    rw [nI_1]
    refine J_statF (pq := 31) dX3_writeOut_28 rfl (j_min (m := 16) (by omega) (by omega)) rfl tg_J9_min_7cf53 l_X3_21 st_J9_min_7cf53 (Nat.le_of_ble_eq_true rfl) (Nat.zero_le _) (Nat.zero_le _) (Nat.le_of_ble_eq_true rfl) (?_)
    rw [show min 16 (b - (a + 16 * k) + 1) = m from hm]
    refine J_istore (pq := 33) dX3_writeOut_31 rfl (Nat.le_of_ble_eq_true rfl) (Nat.le_of_ble_eq_true rfl) rfl (J_aload_n (pq := 34) dX3_writeOut_33 rfl rfl (J_iload_n (pq := 35) dX3_writeOut_34 rfl rfl (J_iload_n (pq := 36) dX3_writeOut_35 rfl rfl (J_iconst (pq := 37) dX3_writeOut_36 rfl c_iconst_1 (J_icmp_ne (pq := 40) (tgt := 44) dX3_writeOut_37 rfl rfl (fun c => ?_) (fun c => ?_))))))
    · rcases hfm with ⟨rfl, rfl⟩ | ⟨rfl, rfl⟩
      · exact absurd rfl c
      · refine J_iconst (pq := 45) dX3_writeOut_44 rfl c_iconst_1 (?_)
        rw [if_neg (by omega)] at hkn2
        subst hkn2
        exact fin
    · rcases hfm with ⟨rfl, rfl⟩ | ⟨rfl, rfl⟩
      · refine J_iconst (pq := 41) dX3_writeOut_40 rfl c_iconst_0 (J_goto (tgt := 45) dX3_writeOut_41 rfl (?_))
        rw [if_pos rfl] at hkn2
        subst hkn2
        exact fin
      · exact absurd c (by decide)
theorem j_lengthOf {fm c : Nat} {fI : Int32} (hfm : (fm = 1 ∧ fI = 1) ∨ (fm = 2 ∧ fI = 2)) (hc : c ≤ 256) : JF x yX3_lengthOf cX3_lengthOf 5 (some .int) 0 0 0 [.ref 7, .int fI, .int (nI c)] h (some (.int (nI (((c + 15) / 16 + 1) * eL fm + 2 * c)))) h := by
  refine JM_of [some (.ref 7), some (.int fI), some (.int (nI c)), none, none] (by decide) (Nat.le_of_ble_eq_true rfl) rfl ?_
  have e1 : (nI c + 16 - 1) / 16 = nI ((c + 15) / 16) := by
    rw [show (16 : Int32) = nI 16 from rfl, nI_add, show (1 : Int32) = nI 1 from rfl, pk_sub (by omega), pk_div (by omega) (by omega) (by omega)]
    rfl
  have fin : ∀ m : Nat, m = eL fm → J x yX3_lengthOf cX3_lengthOf 5 (some .int) 0 0 0 (fun v g => v = some (.int (nI (((c + 15) / 16 + 1) * eL fm + 2 * c))) ∧ g = h) 12 [some (.ref 7), some (.int fI), some (.int (nI c)), none, none] [.int (nI m)] h := fun m hm => by
    refine J_istore_m 3 (pq := 13) dX3_lengthOf_12 rfl rfl (Nat.le_of_ble_eq_true rfl) (Nat.le_of_ble_eq_true rfl) rfl (J_iload_n (pq := 14) dX3_lengthOf_13 rfl rfl (J_bipush (pq := 16) dX3_lengthOf_14 rfl c_bipush_16 (J_iadd (pq := 17) dX3_lengthOf_16 rfl (J_iconst (pq := 18) dX3_lengthOf_17 rfl c_iconst_1 (J_isub (pq := 19) dX3_lengthOf_18 rfl (J_bipush (pq := 21) dX3_lengthOf_19 rfl c_bipush_16 (J_idiv (pq := 22) dX3_lengthOf_21 rfl (by decide) (J_istore (pq := 24) dX3_lengthOf_22 rfl (Nat.le_of_ble_eq_true rfl) (Nat.le_of_ble_eq_true rfl) rfl (J_iload (pq := 26) dX3_lengthOf_24 rfl rfl (J_iconst (pq := 27) dX3_lengthOf_26 rfl c_iconst_1 (J_iadd (pq := 28) dX3_lengthOf_27 rfl (J_iload_n (pq := 29) dX3_lengthOf_28 rfl rfl (J_imul (pq := 30) dX3_lengthOf_29 rfl (J_iconst (pq := 31) dX3_lengthOf_30 rfl c_iconst_2 (J_iload_n (pq := 32) dX3_lengthOf_31 rfl rfl (J_imul (pq := 33) dX3_lengthOf_32 rfl (J_iadd (pq := 34) dX3_lengthOf_33 rfl (J_iret dX3_lengthOf_34 rfl rfl ?_))))))))))))))))))
    refine ⟨?_, rfl⟩
    rw [e1, nI_1, pk_mul, show (2 : Int32) = nI 2 from rfl, pk_mul, nI_add, hm]
  rcases hfm with ⟨rfl, rfl⟩ | ⟨rfl, rfl⟩
  · refine J_iload_n (pq := 1) dX3_lengthOf_0 rfl rfl (J_iconst (pq := 2) dX3_lengthOf_1 rfl c_iconst_1 (J_icmp_ne (pq := 5) (tgt := 10) dX3_lengthOf_2 rfl rfl (fun c => ?_) (fun c => ?_)))
    · exact absurd rfl c
    · refine J_bipush (pq := 7) dX3_lengthOf_5 rfl c_bipush_12 (J_goto (tgt := 12) dX3_lengthOf_7 rfl (?_))
      exact fin 12 rfl
  · refine J_iload_n (pq := 1) dX3_lengthOf_0 rfl rfl (J_iconst (pq := 2) dX3_lengthOf_1 rfl c_iconst_1 (J_icmp_ne (pq := 5) (tgt := 10) dX3_lengthOf_2 rfl rfl (fun c => ?_) (fun c => ?_)))
    · refine J_bipush (pq := 12) dX3_lengthOf_10 rfl c_bipush_11 (?_)
      exact fin 11 rfl
    · exact absurd c (by decide)
theorem j_X8_write_no {v a b : Int32} (hK : Kin h) (hX : XR h) (hc : (isin v 1 2 && isin a 0 255 && isin b a 255) = false) : JF x yX8_write cX8_write 4 (some .int) 6 0 0 [.ref 0, .int v, .int a, .int b] h (some (.int (-1))) h := by
  refine JM_of [some (.ref 0), some (.int v), some (.int a), some (.int b)] (by decide) (Nat.le_of_ble_eq_true rfl) rfl ?_
  refine J_iload_n (pq := 1) dX8_write_0 rfl rfl (J_iconst (pq := 2) dX8_write_1 rfl c_iconst_1 (J_iconst (pq := 3) dX8_write_2 rfl c_iconst_2 (J_statF (pq := 6) dX8_write_3 rfl (j_X8_isWithin) rfl tg_X8_isWithin l_X8_87 st_X8_isWithin (Nat.le_of_ble_eq_true rfl) (Nat.zero_le _) (Nat.zero_le _) (Nat.le_of_ble_eq_true rfl) (J_if_eq (pq := 9) (tgt := 29) dX8_write_6 rfl rfl (fun c => ?_) (fun c => ?_)))))
  · refine J_iconst (pq := 30) dX8_write_29 rfl c_iconst_m1 (J_iret dX8_write_30 rfl rfl ?_)
    exact ⟨rfl, rfl⟩
  rw [bi_0, Bool.not_eq_false] at c
  rw [c, Bool.true_and] at hc
  refine J_iload_n (pq := 10) dX8_write_9 rfl rfl (J_iconst (pq := 11) dX8_write_10 rfl c_iconst_0 (J_iload_n (pq := 12) dX8_write_11 rfl rfl (J_statF (pq := 15) dX8_write_12 rfl (j_X8_isWithin) rfl tg_X8_isWithin l_X8_87 st_X8_isWithin (Nat.le_of_ble_eq_true rfl) (Nat.zero_le _) (Nat.zero_le _) (Nat.le_of_ble_eq_true rfl) (J_if_eq (pq := 18) (tgt := 29) dX8_write_15 rfl rfl (fun c => ?_) (fun c => ?_)))))
  · refine J_iconst (pq := 30) dX8_write_29 rfl c_iconst_m1 (J_iret dX8_write_30 rfl rfl ?_)
    exact ⟨rfl, rfl⟩
  have c1 := c
  rw [bi_0, Bool.not_eq_false, isin_t] at c1
  refine J_iload_n (pq := 19) dX8_write_18 rfl rfl (J_iload_n (pq := 20) dX8_write_19 rfl rfl (J_sipush (pq := 23) dX8_write_20 rfl c_sipush_255 (J_statF (pq := 26) dX8_write_23 rfl (j_X8_isWithin) rfl tg_X8_isWithin l_X8_87 st_X8_isWithin (Nat.le_of_ble_eq_true rfl) (Nat.zero_le _) (Nat.zero_le _) (Nat.le_of_ble_eq_true rfl) (J_if_ne (pq := 29) (tgt := 31) dX8_write_26 rfl rfl (fun c => ?_) (fun c => ?_)))))
  · rw [bi_0, Bool.not_eq_false] at c
    have c2 := c
    rw [isin_t] at c2
    rw [c, Bool.and_true, isin_f] at hc
    exfalso
    exact hc ⟨c1.1, by omega⟩
  · refine J_iconst (pq := 30) dX8_write_29 rfl c_iconst_m1 (J_iret dX8_write_30 rfl rfl ?_)
    exact ⟨rfl, rfl⟩
theorem j_X8_write {fm a b : Nat} {fI : Int32} {f : Nat → Nat} (hfm : (fm = 1 ∧ fI = 1) ∨ (fm = 2 ∧ fI = 2)) (hK : Kin h) (hX : XR h) (hab : a ≤ b) (hb : b ≤ 255) (hf : ∀ k, f k < 256) (him : ∀ k, k < 256 → gi h 3 k = nI (f k)) (hn : gi h 1 1 = nI n) (hn4 : n ≤ 400) : JM x yX8_write cX8_write 4 (some .int) 6 0 0 [.ref 0, .int fI, .int (nI a), .int (nI b)] h (fun v g => v = some (.int (if wrLen fm a b ≤ 400 then nI (wrLen fm a b) else -1)) ∧ ((wrLen fm a b ≤ 400 ∧ ∃ S, g = wT (si h 1 1 0) (wrL fm a b f) S) ∨ (¬ wrLen fm a b ≤ 400 ∧ g = h))) := by
  refine JM_of [some (.ref 0), some (.int fI), some (.int (nI a)), some (.int (nI b))] (by decide) (Nat.le_of_ble_eq_true rfl) rfl ?_
  have b1 : isin fI 1 2 = true := by rcases hfm with ⟨-, rfl⟩ | ⟨-, rfl⟩ <;> decide
  have b2 : isin (nI a) 0 (nI b) = true := (isK (by omega)).mpr ⟨a, hab, rfl⟩
  have b3 : isin (nI b) (nI a) 255 = true := by rw [isin_t, nI_toInt (by omega), nI_toInt (by omega), show (255 : Int32).toInt = 255 from rfl]; omega
  have hwl : ((b - a + 1 + 15) / 16 + 1) * eL fm + 2 * (b - a + 1) = wrLen fm a b := by
    unfold wrLen
    rw [show (b - a + 1 + 15) / 16 = (b - a) / 16 + 1 by omega, Nat.add_mul ((b - a) / 16 + 1) 1, Nat.one_mul]
    omega
  have hwb : wrLen fm a b < 100000 := by
    unfold wrLen
    have : ((b - a) / 16 + 1) * eL fm ≤ 17 * 12 := Nat.mul_le_mul (by omega) (by unfold eL; split <;> omega)
    have : eL fm ≤ 12 := by unfold eL; split <;> omega
    omega
  refine J_iload_n (pq := 1) dX8_write_0 rfl rfl (J_iconst (pq := 2) dX8_write_1 rfl c_iconst_1 (J_iconst (pq := 3) dX8_write_2 rfl c_iconst_2 (J_statF (pq := 6) dX8_write_3 rfl (j_X8_isWithin) rfl tg_X8_isWithin l_X8_87 st_X8_isWithin (Nat.le_of_ble_eq_true rfl) (Nat.zero_le _) (Nat.zero_le _) (Nat.le_of_ble_eq_true rfl) (J_if_eq (pq := 9) (tgt := 29) dX8_write_6 rfl rfl (fun c => ?_) (fun c => ?_)))))
  · rw [b1] at c; exact absurd c (by decide)
  refine J_iload_n (pq := 10) dX8_write_9 rfl rfl (J_iconst (pq := 11) dX8_write_10 rfl c_iconst_0 (J_iload_n (pq := 12) dX8_write_11 rfl rfl (J_statF (pq := 15) dX8_write_12 rfl (j_X8_isWithin) rfl tg_X8_isWithin l_X8_87 st_X8_isWithin (Nat.le_of_ble_eq_true rfl) (Nat.zero_le _) (Nat.zero_le _) (Nat.le_of_ble_eq_true rfl) (J_if_eq (pq := 18) (tgt := 29) dX8_write_15 rfl rfl (fun c => ?_) (fun c => ?_)))))
  · rw [b2] at c; exact absurd c (by decide)
  refine J_iload_n (pq := 19) dX8_write_18 rfl rfl (J_iload_n (pq := 20) dX8_write_19 rfl rfl (J_sipush (pq := 23) dX8_write_20 rfl c_sipush_255 (J_statF (pq := 26) dX8_write_23 rfl (j_X8_isWithin) rfl tg_X8_isWithin l_X8_87 st_X8_isWithin (Nat.le_of_ble_eq_true rfl) (Nat.zero_le _) (Nat.zero_le _) (Nat.le_of_ble_eq_true rfl) (J_if_ne (pq := 29) (tgt := 31) dX8_write_26 rfl rfl (fun c => ?_) (fun c => ?_)))))
  rotate_left
  · rw [b3] at c; exact absurd c (by decide)
  refine J_aload_n (pq := 32) dX8_write_31 rfl rfl (J_getA (pq := 35) dX8_write_32 rfl f_X8_41 (by decide +kernel) (by first | exact hc0 | exact hd0 | exact hK.at rfl) (hX _ _ _ rfl) (J_iload_n (pq := 36) dX8_write_35 rfl rfl (J_iload_n (pq := 37) dX8_write_36 rfl rfl (J_iload_n (pq := 38) dX8_write_37 rfl rfl (J_isub (pq := 39) dX8_write_38 rfl (J_iconst (pq := 40) dX8_write_39 rfl c_iconst_1 (J_iadd (pq := 41) dX8_write_40 rfl (?_))))))))
  rw [pk_sub hab, nI_1]
  refine J_virtF (pq := 44) dX8_write_41 rfl (j_lengthOf hfm (by omega)) rfl tg_X3_lengthOf l_X8_113 vi_X3_lengthOf (by first | exact hc0 | exact hd0 | exact hK.at rfl) ⟨by decide, rfl⟩ (Nat.le_of_ble_eq_true rfl) (Nat.zero_le _) (Nat.zero_le _) (Nat.le_of_ble_eq_true rfl) (?_)
  rw [hwl]
  refine J_sipush (pq := 47) dX8_write_44 rfl c_sipush_400 (J_icmp_le (pq := 50) (tgt := 52) dX8_write_47 rfl rfl (fun c => ?_) (fun c => ?_))
  · rw [show (400 : Int32) = nI 400 from rfl, nI_leI (by omega) (by omega)] at c
    refine J_aload_n (pq := 53) dX8_write_52 rfl rfl (J_getA (pq := 56) dX8_write_53 rfl f_X8_41 (by decide +kernel) (by first | exact hc0 | exact hd0 | exact hK.at rfl) (hX _ _ _ rfl) (J_aload_n (pq := 57) dX8_write_56 rfl rfl (J_getA (pq := 60) dX8_write_57 rfl f_X8_16 (by decide +kernel) (by first | exact hc0 | exact hd0 | exact hK.at rfl) (hX _ _ _ rfl) (J_iload_n (pq := 61) dX8_write_60 rfl rfl (J_iload_n (pq := 62) dX8_write_61 rfl rfl (J_iload_n (pq := 63) dX8_write_62 rfl rfl (J_virt (pq := 66) dX8_write_63 rfl (j_writeOut hfm hK hX hab hb hf him c hn hn4) rfl tg_X3_writeOut l_X8_117 vi_X3_writeOut (by first | exact hc0 | exact hd0 | exact hK.at rfl) ⟨by decide, rfl⟩ (Nat.le_of_ble_eq_true rfl) (Nat.zero_le _) (Nat.zero_le _) (Nat.le_of_ble_eq_true rfl) (fun v g hq => ?_))))))))
    obtain ⟨rfl, S, rfl⟩ := hq
    have hK1 : Kin (si h 1 1 0) := hK
    have hX1 : XR (si h 1 1 0) := hX
    have hn1 : gi (si h 1 1 0) 1 1 = nI 0 := by rw [gi_si, if_pos ⟨rfl, rfl⟩]; rfl
    have hK2 : Kin (wT (si h 1 1 0) (wrL fm a b f) S) := wT_k hK1
    have hX2 : XR (wT (si h 1 1 0) (wrL fm a b f) S) := wT_x hX1
    refine J_aload_n (pq := 67) dX8_write_66 rfl rfl (J_getA (pq := 70) dX8_write_67 rfl f_X8_10 (by decide +kernel) (hK2.at rfl) (hX2 _ _ _ rfl) (J_virtF (pq := 73) dX8_write_70 rfl (j_X6_size hK2) rfl tg_X6_size l_X8_75 vi_X6_size (hK2.at rfl) ⟨by decide, rfl⟩ (Nat.le_of_ble_eq_true rfl) (Nat.zero_le _) (Nat.zero_le _) (Nat.le_of_ble_eq_true rfl) (J_iret dX8_write_73 rfl rfl ?_)))
    refine ⟨?_, Or.inl ⟨c, S, rfl⟩⟩
    rw [wT_n hn1, wrL_len fm a b f hab, Nat.zero_add, if_pos c]
  · rw [show (400 : Int32) = nI 400 from rfl, nI_leI (by omega) (by omega)] at c
    refine J_iconst (pq := 51) dX8_write_50 rfl c_iconst_m1 (J_iret dX8_write_51 rfl rfl ?_)
    exact ⟨by rw [if_neg c], Or.inr ⟨c, rfl⟩⟩
end E2
