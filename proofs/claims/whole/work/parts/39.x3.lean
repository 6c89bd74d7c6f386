-- the reference at work on a byte: its orders
section X3
variable {x : JX} {h : JH} {i r a : Nat} {d : Int32} {F : JH × Nat}
theorem wkI_P (i a : Nat) (d : Int32) (g : JH) (v : Nat) (hI : wkI h g) : wkI h (mPu i a d g v) := by
  have hF := hI.2.2.pulse i a d (nI v)
  exact ⟨hI.1.of3 (hF.1.trans hI.2.2.1.symm), hI.2.1.of3 (hF.1.trans hI.2.2.1.symm), hF⟩
theorem wk_pulses {p n : Nat} {s : JH × Nat × Bool × Nat} {T : Nat → Int32} (hI : Kp (wkI h) 100000 s) (hr : r < 4) (hi : i < 4) (ha : a < 64) (hp : p < 80) (h64 : gi h 64 (100 * r + p) = nI n) (hn : n ≤ 50)
    (k : ∀ u, wJ x F 125 [some (.ref 38), some (.int (nI i)), some (.int (nI r)), some (.int (nI a)), some (.int d), some (.int (nI (100 * r))), some (.int (nI (pul (mPu i a d) n s).2.1)), some (.int (bi (pul (mPu i a d) n s).2.2.1)), some (.int (nI p)), some (.int (nI 1)), some (.int (nI (p + 1))), u] (tS (pul (mPu i a d) n s).1 T (nI (pul (mPu i a d) n s).2.2.2))) :
    wJ x F 68 [some (.ref 38), some (.int (nI i)), some (.int (nI r)), some (.int (nI a)), some (.int d), some (.int (nI (100 * r))), some (.int (nI s.2.1)), some (.int (bi s.2.2.1)), some (.int (nI p)), some (.int (nI 1)), some (.int (nI (p + 1))), none] (tS s.1 T (nI s.2.2.2)) := by
  refine J_iload (pq := 70) dX9_work_68 rfl rfl (J_iconst (pq := 71) dX9_work_70 rfl c_iconst_1 (J_icmp_ne (pq := 74) (tgt := 125) dX9_work_71 rfl rfl (fun c => ?_) (fun c => ?_)))
  · exact absurd rfl c
  · refine J_iconst (pq := 75) dX9_work_74 rfl c_iconst_0 (J_istore (pq := 77) dX9_work_75 rfl (Nat.le_of_ble_eq_true rfl) (Nat.le_of_ble_eq_true rfl) rfl (?_))
    refine J_loop (σ := Nat × (JH × Nat × Bool × Nat)) (fun z => [some (.ref 38), some (.int (nI i)), some (.int (nI r)), some (.int (nI a)), some (.int d), some (.int (nI (100 * r))), some (.int (nI z.2.2.1)), some (.int (bi z.2.2.2.1)), some (.int (nI p)), some (.int (nI 1)), some (.int (nI (p + 1))), some (.int (nI z.1))]) (fun _ => []) (fun z => tS z.2.1 T (nI z.2.2.2.2)) (fun z => z.1 ≤ n ∧ Kp (wkI h) 100000 z.2 ∧ pul (mPu i a d) (n - z.1) z.2 = pul (mPu i a d) n s) (fun z => n - z.1) (0, s) rfl rfl rfl ⟨Nat.zero_le _, hI, rfl⟩ (fun z hz ih => ?_)
    obtain ⟨j, z⟩ := z
    obtain ⟨z1, z2, z3⟩ := hz
    simp only at z1 z2 z3 ih ⊢
    have hL := z2.2
    have hK' : Kin (tS z.1 T (nI z.2.2.2)) := z2.1.1.of2 rfl
    have hR' : MR (tS z.1 T (nI z.2.2.2)) := z2.1.2.1.of2 rfl
    have ea : nI (100 * r) + nI p = nI (100 * r + p) := nI_add _ _
    have hbp : vp_in (nI (100 * r) + nI p) 500 := vinN ea (by omega) (by omega)
    have hxp : ix (nI (100 * r) + nI p) = 100 * r + p := by rw [ea, ixn (by omega)]
    have e64 : gi (tS z.1 T (nI z.2.2.2)) 64 (100 * r + p) = nI n := by rw [tS_o (by decide) (by simp), z2.1.2.2.2.1 64 _ (by decide) (by decide) (by decide) (by decide), h64]
    have e55 : gi (tS z.1 T (nI z.2.2.2)) 38 55 = nI z.2.2.2 := rfl
    refine J_iload (pq := 79) dX9_work_77 rfl rfl (J_aload_n (pq := 80) dX9_work_79 rfl rfl (J_getA (pq := 83) dX9_work_80 rfl f_X9_94 (by decide +kernel) (hK'.at rfl) (hR' _ _ rfl) (J_iload (pq := 85) dX9_work_83 rfl rfl (J_iload (pq := 87) dX9_work_85 rfl rfl (J_iadd (pq := 88) dX9_work_87 rfl (J_iald (pq := 89) dX9_work_88 rfl (hK'.at rfl) (by assumption) (J_icmp_ge (pq := 92) (tgt := 125) dX9_work_89 rfl rfl (fun c => ?_) (fun c => ?_))))))))
    · rw [hxp, e64, nI_leI (by omega) (by omega)] at c
      rw [show n - j = 0 by omega] at z3
      have z3 : z = pul (mPu i a d) n s := z3
      rw [z3]
      exact k _
    · rw [hxp, e64, nI_leI (by omega) (by omega)] at c
      have hj : j < n := by omega
      refine J_aload_n (pq := 93) dX9_work_92 rfl rfl (J_getI (pq := 96) dX9_work_93 rfl f_X9_324 jsI (hK'.at rfl) (J_if_le (pq := 99) (tgt := 125) dX9_work_96 rfl rfl (fun c => ?_) (fun c => ?_)))
      · rw [e55, show (0 : Int32) = nI 0 from rfl, nI_leI (by omega) (by omega)] at c
        rw [pul_0 _ _ (by omega)] at z3
        rw [z3]
        exact k _
      · rw [e55, show (0 : Int32) = nI 0 from rfl, nI_leI (by omega) (by omega)] at c
        refine J_aload_n (pq := 100) dX9_work_99 rfl rfl (J_iload_n (pq := 101) dX9_work_100 rfl rfl (J_iload_n (pq := 102) dX9_work_101 rfl rfl (J_iload (pq := 104) dX9_work_102 rfl rfl (J_iload (pq := 106) dX9_work_104 rfl rfl (J_virtF (pq := 109) dX9_work_106 rfl (j_X9_pulse hK' hR' hi ha) rfl tg_X9_pulse l_X9_327 vi_X9_pulse (hK'.at rfl) ⟨by decide, rfl⟩ (Nat.le_of_ble_eq_true rfl) (Nat.zero_le _) (Nat.zero_le _) (Nat.le_of_ble_eq_true rfl) (?_))))))
        rw [tS_P]
        have hIP := wkI_P i a d z.1 z.2.1 z2.1
        have hK2 : Kin (tS (mPu i a d z.1 z.2.1) T (nI z.2.2.2)) := hIP.1.of2 rfl
        have hR2 : MR (tS (mPu i a d z.1 z.2.1) T (nI z.2.2.2)) := hIP.2.1.of2 rfl
        refine J_aload_n (pq := 110) dX9_work_109 rfl rfl (J_dup (pq := 111) dX9_work_110 rfl rfl (J_getI (pq := 114) dX9_work_111 rfl f_X9_324 jsI (hK2.at rfl) (J_iconst (pq := 115) dX9_work_114 rfl c_iconst_1 (J_isub (pq := 116) dX9_work_115 rfl (J_putI (pq := 119) dX9_work_116 rfl f_X9_324 (Or.inl rfl) (hK2.at rfl) (J_iinc (pq := 122) dX9_work_119 rfl c_iconst_1 rfl (Nat.le_of_ble_eq_true rfl) rfl (J_goto (tgt := 77) dX9_work_122 rfl (?_))))))))
        rw [tS_L, nI_1, show gi (tS (mPulse z.1 i a d (nI z.2.1)) T (nI z.2.2.2)) 38 55 = nI z.2.2.2 from rfl, show nI z.2.2.2 - 1 = nI (z.2.2.2 - 1) from by rw [show (1 : Int32) = nI 1 from rfl, pk_sub (by omega)]]
        refine ih (j + 1, (mPu i a d z.1 z.2.1, z.2.1, z.2.2.1, z.2.2.2 - 1)) ⟨by simp only; omega, ⟨hIP, by simp only; omega⟩, ?_⟩ (by simp only; omega)
        rw [← z3, show n - j = (n - (j + 1)) + 1 by omega]
        show _ = (if z.2.2.2 = 0 then z else _)
        rw [if_neg (by omega)]
end X3
