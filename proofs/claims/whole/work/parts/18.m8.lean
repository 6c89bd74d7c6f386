-- the reference: a line, and the whole of write
def dat (f : Nat → Nat) (k : Nat) : List Nat := (List.range k).map f
theorem dat_s (f : Nat → Nat) (k : Nat) : dat f (k + 1) = dat f k ++ [f k] := by simp [dat, List.range_succ]
theorem dat_len (f : Nat → Nat) (k : Nat) : (dat f k).length = k := by simp [dat]
/-- the bytes of a line: form, kind, address, count, data -/
def lnB (fm kn ad m : Nat) (f : Nat → Nat) : List Nat := (if fm = 1 then [m, ad / 256, ad % 256, kn] else [m + 3, ad / 256, ad % 256]) ++ dat f m
def lnC (fm S : Nat) : Nat := if fm = 1 then (256 - S % 256) % 256 else 255 - S % 256
def lnP (fm kn : Nat) : List Int32 := if fm = 1 then [58] else [83, nI (48 + kn)]
/-- a line as bytes of the tape -/
def lnL (fm kn ad m : Nat) (f : Nat → Nat) : List Int32 := lnP fm kn ++ (lnB fm kn ad m f).flatMap byteL ++ byteL (lnC fm (lnB fm kn ad m f).sum) ++ [10]
def mPre (h : JH) (fm kn : Nat) : JH := if fm = 1 then mAdd (si h 38 11 0) 58 else mAdd (mAdd (si h 38 11 0) 83) (nI (48 + kn))
def wLine (h : JH) (fm kn ad m : Nat) (f : Nat → Nat) : JH := mAdd (wB (wBs (mPre h fm kn) (lnB fm kn ad m f)) (lnC fm (lnB fm kn ad m f).sum)) 10
theorem lnC_lt (fm S : Nat) : lnC fm S < 256 := by unfold lnC; split <;> omega
theorem WrF.pre (h : JH) (fm kn : Nat) : WrF h (mPre h fm kn) := by
  unfold mPre
  split
  · exact (WrF.sum h 0).tr (WrF.add _ _)
  · exact ((WrF.sum h 0).tr (WrF.add _ _)).tr (WrF.add _ _)
theorem WrF.line (h : JH) (fm kn ad m : Nat) (f : Nat → Nat) : WrF h (wLine h fm kn ad m f) := (((WrF.pre h fm kn).tr (WrF.bytes _ _)).tr (WrF.byte _ _)).tr (WrF.add _ _)
theorem Tm.line {h : JH} {l : List Int32} (hT : Tm h l) {fm kn ad m : Nat} {f : Nat → Nat} (hl : l.length < 1000000) (hm : m < 1000) : Tm (wLine h fm kn ad m f) (l ++ lnL fm kn ad m f) := by
  have h0 : Tm (si h 38 11 0) l := hT.of_si (by decide) (by decide)
  have h1 : Tm (mPre h fm kn) (l ++ lnP fm kn) := by
    unfold mPre lnP
    split
    · exact h0.add (by omega) 58
    · have := (h0.add (by omega) 83).add (by simp; omega) (nI (48 + kn))
      simpa using this
  have hp : (lnP fm kn).length ≤ 2 := by unfold lnP; split <;> simp
  have hb : (lnB fm kn ad m f).length ≤ m + 4 := by unfold lnB; split <;> simp [dat_len] <;> omega
  have hfl : ∀ bs : List Nat, (bs.flatMap byteL).length = 2 * bs.length := by
    intro bs
    induction bs with
    | nil => rfl
    | cons b bs ih => simp only [List.flatMap_cons, List.length_append, ih, byteL, List.length_cons, List.length_nil]; omega
  have h2 := Tm.bytes (h := h) (lnB fm kn ad m f) h1 (by simp only [List.length_append]; omega)
  have h3 := h2.byte (by simp only [List.length_append, hfl]; omega) (lnC fm (lnB fm kn ad m f).sum)
  have h4 := h3.add (by simp only [List.length_append, hfl, byteL, List.length_cons, List.length_nil]; omega) 10
  unfold lnL wLine
  simpa [List.append_assoc] using h4
theorem rem256 (S : Nat) (hS : S < 2147483648) : nI S - nI S / 256 * 256 = nI (S % 256) := by rw [show (256 : Int32) = nI 256 from rfl, pk_rem hS (by omega) (by omega)]
section M8
variable {x : JX} {h : JH}
theorem sum_dat_lt (f : Nat → Nat) (hf : ∀ k, f k < 256) : ∀ m, (dat f m).sum ≤ 255 * m
  | 0 => by simp [dat]
  | m + 1 => by
    rw [dat_s, List.sum_append]
    have := sum_dat_lt f hf m
    have := hf m
    simp; omega
theorem j_X9_writeLine1 {kn ad m n : Nat} {f : Nat → Nat} (hK : Kin h) (hR : MR h) (hn : gi h 38 2 = nI n) (hn4 : n + 12 + 2 * m ≤ 400) (hkn : kn < 10) (had : ad + m ≤ 256) (had2 : ad < 256) (hm : m ≤ 16) (hf : ∀ k, f k < 256) (him : ∀ k, k < m → gi h 39 (ad + k) = nI (f k)) : JF x yX9_writeLine cX9_writeLine 6 none 2 0 0 [.ref 38, .int 1, .int (nI kn), .int (nI ad), .int (nI m)] h none (wLine h 1 kn ad m f) := by
  refine JM_of [some (.ref 38), some (.int 1), some (.int (nI kn)), some (.int (nI ad)), some (.int (nI m)), none] (by decide) (Nat.le_of_ble_eq_true rfl) rfl ?_
  have hn1 : gi (si h 38 11 0) 38 2 = nI n := by simp [gi_si, hn]
  have e256 : nI ad / 256 = nI (ad / 256) := by rw [show (256 : Int32) = nI 256 from rfl, pk_div (by omega) (by omega) (by omega)]
  have r256 := rem256 ad (by omega)
  refine J_aload_n (pq := 1) dX9_writeLine_0 rfl rfl (J_iconst (pq := 2) dX9_writeLine_1 rfl c_iconst_0 (J_putI (pq := 5) dX9_writeLine_2 rfl f_X9_186 (Or.inl rfl) (hK.at rfl) (J_aload_n (pq := 6) dX9_writeLine_5 rfl rfl (J_iload_n (pq := 7) dX9_writeLine_6 rfl rfl (J_iconst (pq := 8) dX9_writeLine_7 rfl c_iconst_1 (J_icmp_ne (pq := 11) (tgt := 16) dX9_writeLine_8 rfl rfl (fun c => ?_) (fun c => ?_)))))))
  · exact absurd rfl c
  · refine J_bipush (pq := 13) dX9_writeLine_11 rfl c_bipush_58 (J_goto (tgt := 18) dX9_writeLine_13 rfl (J_virtF (pq := 21) dX9_writeLine_18 rfl (j_X9_writeSign hK hR hn1 (by omega)) rfl tg_X9_writeSign l_X9_183 vi_X9_writeSign (hK.at rfl) ⟨by decide, rfl⟩ (Nat.le_of_ble_eq_true rfl) (Nat.zero_le _) (Nat.zero_le _) (Nat.le_of_ble_eq_true rfl) (J_iload_n (pq := 22) dX9_writeLine_21 rfl rfl (J_iconst (pq := 23) dX9_writeLine_22 rfl c_iconst_2 (J_icmp_ne (pq := 26) (tgt := 34) dX9_writeLine_23 rfl rfl (fun c => ?_) (fun c => ?_))))))
    · have hp0 : gi (mPre h 1 kn) 38 2 = nI (n + 1) := by
        show gi (mAdd (si h 38 11 0) 58) 38 2 = _
        rw [mAdd_n, hn1, nI_1]
      refine J_aload_n (pq := 35) dX9_writeLine_34 rfl rfl (J_iload_n (pq := 36) dX9_writeLine_35 rfl rfl (J_iconst (pq := 37) dX9_writeLine_36 rfl c_iconst_1 (J_icmp_ne (pq := 40) (tgt := 45) dX9_writeLine_37 rfl rfl (fun c => ?_) (fun c => ?_))))
      · exact absurd rfl c
      · refine J_iload (pq := 42) dX9_writeLine_40 rfl rfl (J_goto (tgt := 49) dX9_writeLine_42 rfl (J_virtF (pq := 52) dX9_writeLine_49 rfl (j_X9_writeByte (h := mPre h 1 kn) hK hR hp0 (by omega) (by omega)) rfl tg_X9_writeByte l_X9_189 vi_X9_writeByte (hK.at rfl) ⟨by decide, rfl⟩ (Nat.le_of_ble_eq_true rfl) (Nat.zero_le _) (Nat.zero_le _) (Nat.le_of_ble_eq_true rfl) (J_aload_n (pq := 53) dX9_writeLine_52 rfl rfl (J_iload_n (pq := 54) dX9_writeLine_53 rfl rfl (J_sipush (pq := 57) dX9_writeLine_54 rfl c_sipush_256 (J_idiv (pq := 58) dX9_writeLine_57 rfl (by decide) (?_)))))))
        rw [e256]
        refine J_virtF (pq := 61) dX9_writeLine_58 rfl (j_X9_writeByte hK hR (wB_n hp0 _) (by omega) (by omega)) rfl tg_X9_writeByte l_X9_189 vi_X9_writeByte (hK.at rfl) ⟨by decide, rfl⟩ (Nat.le_of_ble_eq_true rfl) (Nat.zero_le _) (Nat.zero_le _) (Nat.le_of_ble_eq_true rfl) (J_aload_n (pq := 62) dX9_writeLine_61 rfl rfl (J_iload_n (pq := 63) dX9_writeLine_62 rfl rfl (J_sipush (pq := 66) dX9_writeLine_63 rfl c_sipush_256 (J_irem (pq := 67) dX9_writeLine_66 rfl (by decide) (?_)))))
        rw [r256]
        refine J_virtF (pq := 70) dX9_writeLine_67 rfl (j_X9_writeByte hK hR (wB_n (wB_n hp0 _) _) (by omega) (by omega)) rfl tg_X9_writeByte l_X9_189 vi_X9_writeByte (hK.at rfl) ⟨by decide, rfl⟩ (Nat.le_of_ble_eq_true rfl) (Nat.zero_le _) (Nat.zero_le _) (Nat.le_of_ble_eq_true rfl) (J_iload_n (pq := 71) dX9_writeLine_70 rfl rfl (J_iconst (pq := 72) dX9_writeLine_71 rfl c_iconst_1 (J_icmp_ne (pq := 75) (tgt := 80) dX9_writeLine_72 rfl rfl (fun c => ?_) (fun c => ?_))))
        · exact absurd rfl c
        · refine J_aload_n (pq := 76) dX9_writeLine_75 rfl rfl (J_iload_n (pq := 77) dX9_writeLine_76 rfl rfl (J_virtF (pq := 80) dX9_writeLine_77 rfl (j_X9_writeByte hK hR (wB_n (wB_n (wB_n hp0 _) _) _) (by omega) (by omega)) rfl tg_X9_writeByte l_X9_189 vi_X9_writeByte (hK.at rfl) ⟨by decide, rfl⟩ (Nat.le_of_ble_eq_true rfl) (Nat.zero_le _) (Nat.zero_le _) (Nat.le_of_ble_eq_true rfl) (J_iconst (pq := 81) dX9_writeLine_80 rfl c_iconst_0 (J_istore (pq := 83) dX9_writeLine_81 rfl (Nat.le_of_ble_eq_true rfl) (Nat.le_of_ble_eq_true rfl) rfl (?_)))))
          refine J_loop (σ := Nat) (fun k => [some (.ref 38), some (.int 1), some (.int (nI kn)), some (.int (nI ad)), some (.int (nI m)), some (.int (nI k))]) (fun _ => []) (fun k => wBs (mPre h 1 kn) ([m, ad / 256, ad % 256, kn] ++ dat f k)) (fun k => k ≤ m) (fun k => m - k) 0 rfl rfl rfl (by omega) (fun k hk ih => ?_)
          generalize hg : wBs (mPre h 1 kn) ([m, ad / 256, ad % 256, kn] ++ dat f k) = g
          have hF : WrF h g := by rw [← hg]; exact (WrF.pre h 1 kn).tr (WrF.bytes _ _)
          have hKg : Kin g := hK.of2 hF.1
          have hRg : MR g := hR.of2 hF.1
          have hng : gi g 38 2 = nI (n + 9 + 2 * k) := by
            rw [← hg, wBs_n _ hp0]; congr 1; simp [dat_len]; omega
          refine J_iload (pq := 85) dX9_writeLine_83 rfl rfl (J_iload (pq := 87) dX9_writeLine_85 rfl rfl (J_icmp_ge (pq := 90) (tgt := 109) dX9_writeLine_87 rfl rfl (fun c => ?_) (fun c => ?_)))
          · rw [nI_leI (by omega) (by omega)] at c
            have hkm : k = m := by omega
            subst hkm
            have hsum : gi g 38 11 = nI (lnB 1 kn ad k f).sum := by
              rw [← hg, wBs_sum]
              show gi (mAdd (si h 38 11 0) 58) 38 11 + _ = _
              have : gi (mAdd (si h 38 11 0) 58) 38 11 = nI 0 := by simp [mAdd, gi_si]; exact nI_0.symm
              rw [this, nI_add, Nat.zero_add]
              rfl
            have hS : (lnB 1 kn ad k f).sum < 100000 := by
              have := sum_dat_lt f hf k
              simp only [lnB, if_pos, List.sum_append, List.sum_cons, List.sum_nil]
              omega
            have hck : ((256 : Int32) - (nI (lnB 1 kn ad k f).sum - nI (lnB 1 kn ad k f).sum / 256 * 256)) - ((256 : Int32) - (nI (lnB 1 kn ad k f).sum - nI (lnB 1 kn ad k f).sum / 256 * 256)) / 256 * 256 = nI (lnC 1 (lnB 1 kn ad k f).sum) := by
              rw [rem256 _ (by omega), show (256 : Int32) - nI ((lnB 1 kn ad k f).sum % 256) = nI (256 - (lnB 1 kn ad k f).sum % 256) from by rw [show (256 : Int32) = nI 256 from rfl, pk_sub (by omega)], rem256 _ (by omega)]
              rfl
            refine J_aload_n (pq := 110) dX9_writeLine_109 rfl rfl (J_iload_n (pq := 111) dX9_writeLine_110 rfl rfl (J_iconst (pq := 112) dX9_writeLine_111 rfl c_iconst_1 (J_icmp_ne (pq := 115) (tgt := 130) dX9_writeLine_112 rfl rfl (fun c => ?_) (fun c => ?_))))
            · exact absurd rfl c
            · refine J_sipush (pq := 118) dX9_writeLine_115 rfl c_sipush_256 (J_aload_n (pq := 119) dX9_writeLine_118 rfl rfl (J_getI (pq := 122) dX9_writeLine_119 rfl f_X9_186 jsI (hKg.at rfl) (J_sipush (pq := 125) dX9_writeLine_122 rfl c_sipush_256 (J_irem (pq := 126) dX9_writeLine_125 rfl (by decide) (J_isub (pq := 127) dX9_writeLine_126 rfl (J_goto (tgt := 142) dX9_writeLine_127 rfl (J_sipush (pq := 145) dX9_writeLine_142 rfl c_sipush_256 (J_irem (pq := 146) dX9_writeLine_145 rfl (by decide) (?_)))))))))
              rw [hsum, hck]
              refine J_virtF (pq := 149) dX9_writeLine_146 rfl (j_X9_writeByte hKg hRg hng (by omega) (lnC_lt _ _)) rfl tg_X9_writeByte l_X9_189 vi_X9_writeByte (hKg.at rfl) ⟨by decide, rfl⟩ (Nat.le_of_ble_eq_true rfl) (Nat.zero_le _) (Nat.zero_le _) (Nat.le_of_ble_eq_true rfl) (J_aload_n (pq := 150) dX9_writeLine_149 rfl rfl (J_bipush (pq := 152) dX9_writeLine_150 rfl c_bipush_10 (J_virtF (pq := 155) dX9_writeLine_152 rfl (j_X9_writeSign hKg hRg (wB_n hng _) (by omega)) rfl tg_X9_writeSign l_X9_183 vi_X9_writeSign (hKg.at rfl) ⟨by decide, rfl⟩ (Nat.le_of_ble_eq_true rfl) (Nat.zero_le _) (Nat.zero_le _) (Nat.le_of_ble_eq_true rfl) (J_vret dX9_writeLine_155 rfl ?_))))
              refine ⟨rfl, ?_⟩
              rw [← hg]
              rfl
          · rw [nI_leI (by omega) (by omega)] at c
            have hb : vp_in (nI ad + nI k) 256 := vinN (nI_add ad k) (by omega) (by omega)
            have hx : ix (nI ad + nI k) = ad + k := by rw [nI_add, ixn (by omega)]
            have hi39 : gi g 39 (ix (nI ad + nI k)) = nI (f k) := by rw [hx, hF.2 39 _ (by decide) (by simp)]; exact him k (by omega)
            refine J_aload_n (pq := 91) dX9_writeLine_90 rfl rfl (J_aload_n (pq := 92) dX9_writeLine_91 rfl rfl (J_getA (pq := 95) dX9_writeLine_92 rfl f_X9_7 (by decide +kernel) (hKg.at rfl) (hRg _ _ rfl) (J_iload_n (pq := 96) dX9_writeLine_95 rfl rfl (J_iload (pq := 98) dX9_writeLine_96 rfl rfl (J_iadd (pq := 99) dX9_writeLine_98 rfl (J_iald (pq := 100) dX9_writeLine_99 rfl (hKg.at rfl) (by assumption) (?_)))))))
            rw [hi39]
            refine J_virtF (pq := 103) dX9_writeLine_100 rfl (j_X9_writeByte hKg hRg hng (by omega) (hf k)) rfl tg_X9_writeByte l_X9_189 vi_X9_writeByte (hKg.at rfl) ⟨by decide, rfl⟩ (Nat.le_of_ble_eq_true rfl) (Nat.zero_le _) (Nat.zero_le _) (Nat.le_of_ble_eq_true rfl) (J_iinc (pq := 106) dX9_writeLine_103 rfl c_iconst_1 rfl (Nat.le_of_ble_eq_true rfl) rfl (J_goto (tgt := 83) dX9_writeLine_106 rfl (?_)))
            refine J_weak ?_ rfl ?_ (ih (k + 1) (by omega) (by omega))
            · simp [nI_1, lsub]
            · rw [dat_s, ← List.append_assoc, wBs_app, hg]; rfl
    · exact absurd c (by decide)
theorem j_X9_writeLine2 {kn ad m n : Nat} {f : Nat → Nat} (hK : Kin h) (hR : MR h) (hn : gi h 38 2 = nI n) (hn4 : n + 11 + 2 * m ≤ 400) (hkn : kn < 10) (had : ad + m ≤ 256) (had2 : ad < 256) (hm : m ≤ 16) (hf : ∀ k, f k < 256) (him : ∀ k, k < m → gi h 39 (ad + k) = nI (f k)) : JF x yX9_writeLine cX9_writeLine 6 none 2 0 0 [.ref 38, .int 2, .int (nI kn), .int (nI ad), .int (nI m)] h none (wLine h 2 kn ad m f) := by
  refine JM_of [some (.ref 38), some (.int 2), some (.int (nI kn)), some (.int (nI ad)), some (.int (nI m)), none] (by decide) (Nat.le_of_ble_eq_true rfl) rfl ?_
  have hn1 : gi (si h 38 11 0) 38 2 = nI n := by simp [gi_si, hn]
  have hn2 : ∀ v, gi (mAdd (si h 38 11 0) v) 38 2 = nI (n + 1) := fun v => by rw [mAdd_n, hn1, nI_1]
  have e256 : nI ad / 256 = nI (ad / 256) := by rw [show (256 : Int32) = nI 256 from rfl, pk_div (by omega) (by omega) (by omega)]
  have r256 := rem256 ad (by omega)
  have e48 : (48 : Int32) + nI kn = nI (48 + kn) := by rw [show (48 : Int32) = nI 48 from rfl, nI_add]
  have e3 : nI m + 3 = nI (m + 3) := by rw [show (3 : Int32) = nI 3 from rfl, nI_add]
  refine J_aload_n (pq := 1) dX9_writeLine_0 rfl rfl (J_iconst (pq := 2) dX9_writeLine_1 rfl c_iconst_0 (J_putI (pq := 5) dX9_writeLine_2 rfl f_X9_186 (Or.inl rfl) (hK.at rfl) (J_aload_n (pq := 6) dX9_writeLine_5 rfl rfl (J_iload_n (pq := 7) dX9_writeLine_6 rfl rfl (J_iconst (pq := 8) dX9_writeLine_7 rfl c_iconst_1 (J_icmp_ne (pq := 11) (tgt := 16) dX9_writeLine_8 rfl rfl (fun c => ?_) (fun c => ?_)))))))
  · refine J_bipush (pq := 18) dX9_writeLine_16 rfl c_bipush_83 (J_virtF (pq := 21) dX9_writeLine_18 rfl (j_X9_writeSign hK hR hn1 (by omega)) rfl tg_X9_writeSign l_X9_183 vi_X9_writeSign (hK.at rfl) ⟨by decide, rfl⟩ (Nat.le_of_ble_eq_true rfl) (Nat.zero_le _) (Nat.zero_le _) (Nat.le_of_ble_eq_true rfl) (J_iload_n (pq := 22) dX9_writeLine_21 rfl rfl (J_iconst (pq := 23) dX9_writeLine_22 rfl c_iconst_2 (J_icmp_ne (pq := 26) (tgt := 34) dX9_writeLine_23 rfl rfl (fun c => ?_) (fun c => ?_)))))
    · exact absurd rfl c
    · refine J_aload_n (pq := 27) dX9_writeLine_26 rfl rfl (J_bipush (pq := 29) dX9_writeLine_27 rfl c_bipush_48 (J_iload_n (pq := 30) dX9_writeLine_29 rfl rfl (J_iadd (pq := 31) dX9_writeLine_30 rfl (?_))))
      rw [e48]
      have hp0 : gi (mPre h 2 kn) 38 2 = nI (n + 2) := by
        show gi (mAdd (mAdd (si h 38 11 0) 83) (nI (48 + kn))) 38 2 = _
        rw [mAdd_n, mAdd_n, hn1, nI_1, nI_1]
      refine J_virtF (pq := 34) dX9_writeLine_31 rfl (j_X9_writeSign hK hR (hn2 _) (by omega)) rfl tg_X9_writeSign l_X9_183 vi_X9_writeSign (hK.at rfl) ⟨by decide, rfl⟩ (Nat.le_of_ble_eq_true rfl) (Nat.zero_le _) (Nat.zero_le _) (Nat.le_of_ble_eq_true rfl) (J_aload_n (pq := 35) dX9_writeLine_34 rfl rfl (J_iload_n (pq := 36) dX9_writeLine_35 rfl rfl (J_iconst (pq := 37) dX9_writeLine_36 rfl c_iconst_1 (J_icmp_ne (pq := 40) (tgt := 45) dX9_writeLine_37 rfl rfl (fun c => ?_) (fun c => ?_)))))
      · refine J_iload (pq := 47) dX9_writeLine_45 rfl rfl (J_iconst (pq := 48) dX9_writeLine_47 rfl c_iconst_3 (J_iadd (pq := 49) dX9_writeLine_48 rfl (?_)))
        rw [e3]
        refine J_virtF (pq := 52) dX9_writeLine_49 rfl (j_X9_writeByte (h := mPre h 2 kn) hK hR hp0 (by omega) (by omega)) rfl tg_X9_writeByte l_X9_189 vi_X9_writeByte (hK.at rfl) ⟨by decide, rfl⟩ (Nat.le_of_ble_eq_true rfl) (Nat.zero_le _) (Nat.zero_le _) (Nat.le_of_ble_eq_true rfl) (J_aload_n (pq := 53) dX9_writeLine_52 rfl rfl (J_iload_n (pq := 54) dX9_writeLine_53 rfl rfl (J_sipush (pq := 57) dX9_writeLine_54 rfl c_sipush_256 (J_idiv (pq := 58) dX9_writeLine_57 rfl (by decide) (?_)))))
        rw [e256]
        refine J_virtF (pq := 61) dX9_writeLine_58 rfl (j_X9_writeByte hK hR (wB_n hp0 _) (by omega) (by omega)) rfl tg_X9_writeByte l_X9_189 vi_X9_writeByte (hK.at rfl) ⟨by decide, rfl⟩ (Nat.le_of_ble_eq_true rfl) (Nat.zero_le _) (Nat.zero_le _) (Nat.le_of_ble_eq_true rfl) (J_aload_n (pq := 62) dX9_writeLine_61 rfl rfl (J_iload_n (pq := 63) dX9_writeLine_62 rfl rfl (J_sipush (pq := 66) dX9_writeLine_63 rfl c_sipush_256 (J_irem (pq := 67) dX9_writeLine_66 rfl (by decide) (?_)))))
        rw [r256]
        refine J_virtF (pq := 70) dX9_writeLine_67 rfl (j_X9_writeByte hK hR (wB_n (wB_n hp0 _) _) (by omega) (by omega)) rfl tg_X9_writeByte l_X9_189 vi_X9_writeByte (hK.at rfl) ⟨by decide, rfl⟩ (Nat.le_of_ble_eq_true rfl) (Nat.zero_le _) (Nat.zero_le _) (Nat.le_of_ble_eq_true rfl) (J_iload_n (pq := 71) dX9_writeLine_70 rfl rfl (J_iconst (pq := 72) dX9_writeLine_71 rfl c_iconst_1 (J_icmp_ne (pq := 75) (tgt := 80) dX9_writeLine_72 rfl rfl (fun c => ?_) (fun c => ?_))))
        · refine J_iconst (pq := 81) dX9_writeLine_80 rfl c_iconst_0 (J_istore (pq := 83) dX9_writeLine_81 rfl (Nat.le_of_ble_eq_true rfl) (Nat.le_of_ble_eq_true rfl) rfl (?_))
          refine J_loop (σ := Nat) (fun k => [some (.ref 38), some (.int 2), some (.int (nI kn)), some (.int (nI ad)), some (.int (nI m)), some (.int (nI k))]) (fun _ => []) (fun k => wBs (mPre h 2 kn) ([m + 3, ad / 256, ad % 256] ++ dat f k)) (fun k => k ≤ m) (fun k => m - k) 0 rfl rfl rfl (by omega) (fun k hk ih => ?_)
          generalize hg : wBs (mPre h 2 kn) ([m + 3, ad / 256, ad % 256] ++ dat f k) = g
          have hF : WrF h g := by rw [← hg]; exact (WrF.pre h 2 kn).tr (WrF.bytes _ _)
          have hKg : Kin g := hK.of2 hF.1
          have hRg : MR g := hR.of2 hF.1
          have hng : gi g 38 2 = nI (n + 8 + 2 * k) := by
            rw [← hg, wBs_n _ hp0]; congr 1; simp [dat_len]; omega
          refine J_iload (pq := 85) dX9_writeLine_83 rfl rfl (J_iload (pq := 87) dX9_writeLine_85 rfl rfl (J_icmp_ge (pq := 90) (tgt := 109) dX9_writeLine_87 rfl rfl (fun c => ?_) (fun c => ?_)))
          · rw [nI_leI (by omega) (by omega)] at c
            have hkm : k = m := by omega
            subst hkm
            have hsum : gi g 38 11 = nI (lnB 2 kn ad k f).sum := by
              rw [← hg, wBs_sum]
              show gi (mAdd (mAdd (si h 38 11 0) 83) (nI (48 + kn))) 38 11 + _ = _
              have : gi (mAdd (mAdd (si h 38 11 0) 83) (nI (48 + kn))) 38 11 = nI 0 := by simp [mAdd, gi_si]; exact nI_0.symm
              rw [this, nI_add, Nat.zero_add]
              rfl
            have hS : (lnB 2 kn ad k f).sum < 100000 := by
              have := sum_dat_lt f hf k
              simp only [lnB, List.sum_append]
              simp; omega
            have hck : ((255 : Int32) - (nI (lnB 2 kn ad k f).sum - nI (lnB 2 kn ad k f).sum / 256 * 256)) - ((255 : Int32) - (nI (lnB 2 kn ad k f).sum - nI (lnB 2 kn ad k f).sum / 256 * 256)) / 256 * 256 = nI (lnC 2 (lnB 2 kn ad k f).sum) := by
              rw [rem256 _ (by omega), show (255 : Int32) - nI ((lnB 2 kn ad k f).sum % 256) = nI (255 - (lnB 2 kn ad k f).sum % 256) from by rw [show (255 : Int32) = nI 255 from rfl, pk_sub (by omega)], rem256 _ (by omega)]
              congr 1
              show _ = 255 - _ % 256
              omega
            refine J_aload_n (pq := 110) dX9_writeLine_109 rfl rfl (J_iload_n (pq := 111) dX9_writeLine_110 rfl rfl (J_iconst (pq := 112) dX9_writeLine_111 rfl c_iconst_1 (J_icmp_ne (pq := 115) (tgt := 130) dX9_writeLine_112 rfl rfl (fun c => ?_) (fun c => ?_))))
            · refine J_sipush (pq := 133) dX9_writeLine_130 rfl c_sipush_255 (J_aload_n (pq := 134) dX9_writeLine_133 rfl rfl (J_getI (pq := 137) dX9_writeLine_134 rfl f_X9_186 jsI (hKg.at rfl) (J_sipush (pq := 140) dX9_writeLine_137 rfl c_sipush_256 (J_irem (pq := 141) dX9_writeLine_140 rfl (by decide) (J_isub (pq := 142) dX9_writeLine_141 rfl (J_sipush (pq := 145) dX9_writeLine_142 rfl c_sipush_256 (J_irem (pq := 146) dX9_writeLine_145 rfl (by decide) (?_))))))))
              rw [hsum, hck]
              refine J_virtF (pq := 149) dX9_writeLine_146 rfl (j_X9_writeByte hKg hRg hng (by omega) (lnC_lt _ _)) rfl tg_X9_writeByte l_X9_189 vi_X9_writeByte (hKg.at rfl) ⟨by decide, rfl⟩ (Nat.le_of_ble_eq_true rfl) (Nat.zero_le _) (Nat.zero_le _) (Nat.le_of_ble_eq_true rfl) (J_aload_n (pq := 150) dX9_writeLine_149 rfl rfl (J_bipush (pq := 152) dX9_writeLine_150 rfl c_bipush_10 (J_virtF (pq := 155) dX9_writeLine_152 rfl (j_X9_writeSign hKg hRg (wB_n hng _) (by omega)) rfl tg_X9_writeSign l_X9_183 vi_X9_writeSign (hKg.at rfl) ⟨by decide, rfl⟩ (Nat.le_of_ble_eq_true rfl) (Nat.zero_le _) (Nat.zero_le _) (Nat.le_of_ble_eq_true rfl) (J_vret dX9_writeLine_155 rfl ?_))))
              refine ⟨rfl, ?_⟩
              rw [← hg]
              rfl
            · exact absurd c (by decide)
          · rw [nI_leI (by omega) (by omega)] at c
            have hb : vp_in (nI ad + nI k) 256 := vinN (nI_add ad k) (by omega) (by omega)
            have hx : ix (nI ad + nI k) = ad + k := by rw [nI_add, ixn (by omega)]
            have hi39 : gi g 39 (ix (nI ad + nI k)) = nI (f k) := by rw [hx, hF.2 39 _ (by decide) (by simp)]; exact him k (by omega)
            refine J_aload_n (pq := 91) dX9_writeLine_90 rfl rfl (J_aload_n (pq := 92) dX9_writeLine_91 rfl rfl (J_getA (pq := 95) dX9_writeLine_92 rfl f_X9_7 (by decide +kernel) (hKg.at rfl) (hRg _ _ rfl) (J_iload_n (pq := 96) dX9_writeLine_95 rfl rfl (J_iload (pq := 98) dX9_writeLine_96 rfl rfl (J_iadd (pq := 99) dX9_writeLine_98 rfl (J_iald (pq := 100) dX9_writeLine_99 rfl (hKg.at rfl) (by assumption) (?_)))))))
            rw [hi39]
            refine J_virtF (pq := 103) dX9_writeLine_100 rfl (j_X9_writeByte hKg hRg hng (by omega) (hf k)) rfl tg_X9_writeByte l_X9_189 vi_X9_writeByte (hKg.at rfl) ⟨by decide, rfl⟩ (Nat.le_of_ble_eq_true rfl) (Nat.zero_le _) (Nat.zero_le _) (Nat.le_of_ble_eq_true rfl) (J_iinc (pq := 106) dX9_writeLine_103 rfl c_iconst_1 rfl (Nat.le_of_ble_eq_true rfl) rfl (J_goto (tgt := 83) dX9_writeLine_106 rfl (?_)))
            refine J_weak ?_ rfl ?_ (ih (k + 1) (by omega) (by omega))
            · simp [nI_1, lsub]
            · rw [dat_s, ← List.append_assoc, wBs_app, hg]; rfl
        · exact absurd c (by decide)
      · exact absurd c (by decide)
  · exact absurd c (by decide)
end M8
