-- the reference: write
/-- the first k lines, from a to b -/
def wN (h : JH) (fm a b : Nat) (f : Nat → Nat) : Nat → JH
  | 0 => si h 38 2 0
  | k + 1 => wLine (wN h fm a b f k) fm (if fm = 1 then 0 else 1) (a + 16 * k) (min 16 (b - (a + 16 * k) + 1)) (fun j => f (a + 16 * k + j))
def lsN (fm a b : Nat) (f : Nat → Nat) : Nat → List Int32
  | 0 => []
  | k + 1 => lsN fm a b f k ++ lnL fm (if fm = 1 then 0 else 1) (a + 16 * k) (min 16 (b - (a + 16 * k) + 1)) (fun j => f (a + 16 * k + j))
/-- all that write writes -/
def wrL (fm a b : Nat) (f : Nat → Nat) : List Int32 := lsN fm a b f ((b - a) / 16 + 1) ++ lnL fm (if fm = 1 then 1 else 9) 0 0 (fun _ => 0)
def mWrite (h : JH) (fm a b : Nat) (f : Nat → Nat) : JH := wLine (wN h fm a b f ((b - a) / 16 + 1)) fm (if fm = 1 then 1 else 9) 0 0 (fun _ => 0)
def eL (fm : Nat) : Nat := if fm = 1 then 12 else 11
def wrLen (fm a b : Nat) : Nat := 2 * (b - a + 1) + ((b - a) / 16 + 1) * eL fm + eL fm
theorem lnL_len (fm kn ad m : Nat) (f : Nat → Nat) : (lnL fm kn ad m f).length = eL fm + 2 * m := by
  have hfl : ∀ bs : List Nat, (bs.flatMap byteL).length = 2 * bs.length := by
    intro bs
    induction bs with
    | nil => rfl
    | cons b bs ih => simp only [List.flatMap_cons, List.length_append, ih, byteL, List.length_cons, List.length_nil]; omega
  unfold lnL lnP lnB eL
  by_cases h1 : fm = 1
  · simp only [if_pos h1, List.length_append, hfl, byteL, List.length_cons, List.length_nil, dat_len]; omega
  · simp only [if_neg h1, List.length_append, hfl, byteL, List.length_cons, List.length_nil, dat_len]; omega
theorem lsN_len (fm a b : Nat) (f : Nat → Nat) (hab : a ≤ b) : ∀ k, k ≤ (b - a) / 16 + 1 → (lsN fm a b f k).length = k * eL fm + 2 * min (16 * k) (b - a + 1)
  | 0, _ => by simp [lsN]
  | k + 1, hk => by
    simp only [lsN, List.length_append, lnL_len, lsN_len fm a b f hab k (by omega), Nat.add_mul, Nat.one_mul]
    have h16 : 16 * k ≤ b - a := by omega
    omega
def WrG (h g : JH) : Prop := WrF (si h 38 2 0) g
theorem WrF.of_si2 (h : JH) : WrF h (si h 38 2 0) := ⟨rfl, fun a b ha hb => by rw [gi_si, if_neg (fun q => hb ⟨q.1, Or.inl q.2⟩)]⟩
theorem wN_F (h : JH) (fm a b : Nat) (f : Nat → Nat) : ∀ k, WrF h (wN h fm a b f k)
  | 0 => WrF.of_si2 h
  | k + 1 => (wN_F h fm a b f k).tr (WrF.line _ _ _ _ _ _)
theorem Tm.nil (h : JH) : Tm (si h 38 2 0) [] := ⟨by rw [gi_si, if_pos ⟨rfl, rfl⟩]; rfl, fun j v hj => by simp at hj⟩
theorem wN_T (h : JH) (fm a b : Nat) (f : Nat → Nat) (hab : a ≤ b) (hb : b < 256) : ∀ k, k ≤ (b - a) / 16 + 1 → Tm (wN h fm a b f k) (lsN fm a b f k)
  | 0, _ => Tm.nil h
  | k + 1, hk => by
    have he : eL fm ≤ 12 := by unfold eL; split <;> omega
    refine (wN_T h fm a b f hab hb k (by omega)).line ?_ (by omega)
    rw [lsN_len fm a b f hab k (by omega)]
    have : k * eL fm ≤ 17 * 12 := Nat.mul_le_mul (by omega) he
    omega
theorem mWrite_F (h : JH) (fm a b : Nat) (f : Nat → Nat) : WrF h (mWrite h fm a b f) := (wN_F h fm a b f _).tr (WrF.line _ _ _ _ _ _)
theorem mWrite_T (h : JH) (fm a b : Nat) (f : Nat → Nat) (hab : a ≤ b) (hb : b < 256) : Tm (mWrite h fm a b f) (wrL fm a b f) := by
  have he : eL fm ≤ 12 := by unfold eL; split <;> omega
  refine (wN_T h fm a b f hab hb _ (Nat.le_refl _)).line ?_ (by omega)
  rw [lsN_len fm a b f hab _ (Nat.le_refl _)]
  have : ((b - a) / 16 + 1) * eL fm ≤ 17 * 12 := Nat.mul_le_mul (by omega) he
  omega
theorem wrL_len (fm a b : Nat) (f : Nat → Nat) (hab : a ≤ b) : (wrL fm a b f).length = wrLen fm a b := by
  unfold wrL wrLen
  rw [List.length_append, lsN_len fm a b f hab _ (Nat.le_refl _), lnL_len]
  omega
section M9
variable {x : JX} {h : JH}
theorem j_X9_writeLine {fm : Nat} {fI : Int32} {kn ad m n : Nat} {f : Nat → Nat} (hfm : (fm = 1 ∧ fI = 1) ∨ (fm = 2 ∧ fI = 2)) (hK : Kin h) (hR : MR h) (hn : gi h 38 2 = nI n) (hn4 : n + eL fm + 2 * m ≤ 400) (hkn : kn < 10) (had : ad + m ≤ 256) (had2 : ad < 256) (hm : m ≤ 16) (hf : ∀ k, f k < 256) (him : ∀ k, k < m → gi h 39 (ad + k) = nI (f k)) : JF x yX9_writeLine cX9_writeLine 6 none 2 0 0 [.ref 38, .int fI, .int (nI kn), .int (nI ad), .int (nI m)] h none (wLine h fm kn ad m f) := by
  rcases hfm with ⟨rfl, rfl⟩ | ⟨rfl, rfl⟩
  · exact j_X9_writeLine1 hK hR hn hn4 hkn had had2 hm hf him
  · exact j_X9_writeLine2 hK hR hn hn4 hkn had had2 hm hf him
theorem j_X9_write_no {v a b : Int32} (hc : (isin v 1 2 && isin a 0 255 && isin b a 255) = false) : JF x yX9_write cX9_write 8 (some .int) 3 0 0 [.ref 38, .int v, .int a, .int b] h (some (.int (-1))) h := by
  refine JM_of [some (.ref 38), some (.int v), some (.int a), some (.int b), none, none, none, none] (by decide) (Nat.le_of_ble_eq_true rfl) rfl ?_
  refine J_iload_n (pq := 1) dX9_write_0 rfl rfl (J_iconst (pq := 2) dX9_write_1 rfl c_iconst_1 (J_iconst (pq := 3) dX9_write_2 rfl c_iconst_2 (J_statF (pq := 6) dX9_write_3 rfl (j_X9_isIn) rfl tg_X9_isIn l_X9_137 st_X9_isIn (Nat.le_of_ble_eq_true rfl) (Nat.zero_le _) (Nat.zero_le _) (Nat.le_of_ble_eq_true rfl) (J_if_eq (pq := 9) (tgt := 31) dX9_write_6 rfl rfl (fun c => ?_) (fun c => ?_)))))
  · refine J_iconst (pq := 32) dX9_write_31 rfl c_iconst_m1 (J_iret dX9_write_32 rfl rfl ?_)
    exact ⟨rfl, rfl⟩
  · rw [bi_0, Bool.not_eq_false] at c
    have c1 := c
    refine J_iload_n (pq := 10) dX9_write_9 rfl rfl (J_iconst (pq := 11) dX9_write_10 rfl c_iconst_0 (J_sipush (pq := 14) dX9_write_11 rfl c_sipush_255 (J_statF (pq := 17) dX9_write_14 rfl (j_X9_isIn) rfl tg_X9_isIn l_X9_137 st_X9_isIn (Nat.le_of_ble_eq_true rfl) (Nat.zero_le _) (Nat.zero_le _) (Nat.le_of_ble_eq_true rfl) (J_if_eq (pq := 20) (tgt := 31) dX9_write_17 rfl rfl (fun c => ?_) (fun c => ?_)))))
    · refine J_iconst (pq := 32) dX9_write_31 rfl c_iconst_m1 (J_iret dX9_write_32 rfl rfl ?_)
      exact ⟨rfl, rfl⟩
    · rw [bi_0, Bool.not_eq_false] at c
      have c2 := c
      refine J_iload_n (pq := 21) dX9_write_20 rfl rfl (J_iload_n (pq := 22) dX9_write_21 rfl rfl (J_sipush (pq := 25) dX9_write_22 rfl c_sipush_255 (J_statF (pq := 28) dX9_write_25 rfl (j_X9_isIn) rfl tg_X9_isIn l_X9_137 st_X9_isIn (Nat.le_of_ble_eq_true rfl) (Nat.zero_le _) (Nat.zero_le _) (Nat.le_of_ble_eq_true rfl) (J_if_ne (pq := 31) (tgt := 33) dX9_write_28 rfl rfl (fun c => ?_) (fun c => ?_)))))
      · rw [bi_0, Bool.not_eq_false] at c
        rw [c1, c2, c] at hc
        exact absurd hc (by decide)
      · refine J_iconst (pq := 32) dX9_write_31 rfl c_iconst_m1 (J_iret dX9_write_32 rfl rfl ?_)
        exact ⟨rfl, rfl⟩
theorem j_X9_write {fm a b : Nat} {fI : Int32} {f : Nat → Nat} (hfm : (fm = 1 ∧ fI = 1) ∨ (fm = 2 ∧ fI = 2)) (hK : Kin h) (hR : MR h) (hab : a ≤ b) (hb : b ≤ 255) (hf : ∀ k, f k < 256) (him : ∀ k, k < 256 → gi h 39 k = nI (f k)) : JF x yX9_write cX9_write 8 (some .int) 3 0 0 [.ref 38, .int fI, .int (nI a), .int (nI b)] h (some (.int (if wrLen fm a b ≤ 400 then nI (wrLen fm a b) else -1))) (if wrLen fm a b ≤ 400 then mWrite h fm a b f else h) := by
  refine JM_of [some (.ref 38), some (.int fI), some (.int (nI a)), some (.int (nI b)), none, none, none, none] (by decide) (Nat.le_of_ble_eq_true rfl) rfl ?_
  have hi1 : isin fI 1 2 = true := by rcases hfm with ⟨-, rfl⟩ | ⟨-, rfl⟩ <;> decide
  have hi2 : isin (nI a) 0 255 = true := by rw [isin_t, nI_toInt (by omega)]; simp; omega
  have hi3 : isin (nI b) (nI a) 255 = true := by rw [isin_t, nI_toInt (by omega), nI_toInt (by omega)]; simp; omega
  have e1 : nI b - nI a + 1 = nI (b - a + 1) := by rw [pk_sub hab, nI_1]
  have e2 : (nI b - nI a + 1 + 15) / 16 = nI ((b - a) / 16 + 1) := by
    rw [e1, show (15 : Int32) = nI 15 from rfl, nI_add, show (16 : Int32) = nI 16 from rfl, pk_div (by omega) (by omega) (by omega)]
    congr 1; omega
  have heL : eL fm = 12 ∨ eL fm = 11 := by unfold eL; split <;> simp
  have hLb : ((b - a) / 16 + 1) * eL fm ≤ 17 * 12 := Nat.mul_le_mul (by omega) (by omega)
  have e3 : ∀ q : Int32, q = nI (eL fm) → (2 : Int32) * (nI b - nI a + 1) + (nI b - nI a + 1 + 15) / 16 * q + q = nI (wrLen fm a b) := by
    intro q hq
    rw [e2, e1, hq, show (2 : Int32) = nI 2 from rfl, pk_mul, pk_mul, nI_add, nI_add]
    rfl
  have hwl : wrLen fm a b < 100000 := by unfold wrLen; omega
  refine J_iload_n (pq := 1) dX9_write_0 rfl rfl (J_iconst (pq := 2) dX9_write_1 rfl c_iconst_1 (J_iconst (pq := 3) dX9_write_2 rfl c_iconst_2 (J_statF (pq := 6) dX9_write_3 rfl (j_X9_isIn) rfl tg_X9_isIn l_X9_137 st_X9_isIn (Nat.le_of_ble_eq_true rfl) (Nat.zero_le _) (Nat.zero_le _) (Nat.le_of_ble_eq_true rfl) (J_if_eq (pq := 9) (tgt := 31) dX9_write_6 rfl rfl (fun c => ?_) (fun c => ?_)))))
  · rw [hi1] at c; exact absurd c (by decide)
  · refine J_iload_n (pq := 10) dX9_write_9 rfl rfl (J_iconst (pq := 11) dX9_write_10 rfl c_iconst_0 (J_sipush (pq := 14) dX9_write_11 rfl c_sipush_255 (J_statF (pq := 17) dX9_write_14 rfl (j_X9_isIn) rfl tg_X9_isIn l_X9_137 st_X9_isIn (Nat.le_of_ble_eq_true rfl) (Nat.zero_le _) (Nat.zero_le _) (Nat.le_of_ble_eq_true rfl) (J_if_eq (pq := 20) (tgt := 31) dX9_write_17 rfl rfl (fun c => ?_) (fun c => ?_)))))
    · rw [hi2] at c; exact absurd c (by decide)
    · refine J_iload_n (pq := 21) dX9_write_20 rfl rfl (J_iload_n (pq := 22) dX9_write_21 rfl rfl (J_sipush (pq := 25) dX9_write_22 rfl c_sipush_255 (J_statF (pq := 28) dX9_write_25 rfl (j_X9_isIn) rfl tg_X9_isIn l_X9_137 st_X9_isIn (Nat.le_of_ble_eq_true rfl) (Nat.zero_le _) (Nat.zero_le _) (Nat.le_of_ble_eq_true rfl) (J_if_ne (pq := 31) (tgt := 33) dX9_write_28 rfl rfl (fun c => ?_) (fun c => ?_)))))
      · refine J_cut (σ := Unit) 85 (fun _ => [some (.ref 38), some (.int fI), some (.int (nI a)), some (.int (nI b)), none, none, some (.int (nI (wrLen fm a b))), none]) (fun _ => []) (fun _ => h) (fun _ => True) (fun _ _ => ?_) (fun k85 => ?_)
        · refine J_iload (pq := 87) dX9_write_85 rfl rfl (J_sipush (pq := 90) dX9_write_87 rfl c_sipush_400 (J_icmp_le (pq := 93) (tgt := 95) dX9_write_90 rfl rfl (fun c => ?_) (fun c => ?_)))
          · rw [show (400 : Int32) = nI 400 from rfl, nI_leI (by omega) (by omega)] at c
            rw [if_pos c, if_pos c]
            have hwl4 := c
            refine J_aload_n (pq := 96) dX9_write_95 rfl rfl (J_iconst (pq := 97) dX9_write_96 rfl c_iconst_0 (J_putI (pq := 100) dX9_write_97 rfl f_X9_130 (Or.inl rfl) (hK.at rfl) (J_iload_n (pq := 101) dX9_write_100 rfl rfl (J_istore (pq := 103) dX9_write_101 rfl (Nat.le_of_ble_eq_true rfl) (Nat.le_of_ble_eq_true rfl) rfl (?_)))))
            refine J_weak (ls' := [some (.ref 38), some (.int fI), some (.int (nI a)), some (.int (nI b)), none, none, none, some (.int (nI (a + 16 * 0)))]) (by simp [lsub]) rfl rfl ?_
            refine J_loop (σ := Nat) (fun k => [some (.ref 38), some (.int fI), some (.int (nI a)), some (.int (nI b)), none, none, none, some (.int (nI (a + 16 * k)))]) (fun _ => []) (fun k => wN h fm a b f k) (fun k => k ≤ (b - a) / 16 + 1) (fun k => (b - a) / 16 + 1 - k) 0 rfl rfl rfl (by omega) (fun k hk ih => ?_)
            have hT := wN_T h fm a b f hab (by omega) k hk
            have hF := wN_F h fm a b f k
            have hlen := lsN_len fm a b f hab k hk
            have hnk := hT.1
            rw [hlen] at hnk
            have hke : (k + 1) * eL fm = k * eL fm + eL fm := by rw [Nat.add_mul, Nat.one_mul]
            generalize hg : wN h fm a b f k = g at hnk hF ⊢
            have hKg : Kin g := hK.of2 hF.1
            have hRg : MR g := hR.of2 hF.1
            refine J_iload (pq := 105) dX9_write_103 rfl rfl (J_iload_n (pq := 106) dX9_write_105 rfl rfl (J_icmp_gt (pq := 109) (tgt := 152) dX9_write_106 rfl rfl (fun c => ?_) (fun c => ?_)))
            · rw [nI_ltI (by omega) (by omega)] at c
              have hkL : k = (b - a) / 16 + 1 := by omega
              have hroom : k * eL fm + 2 * min (16 * k) (b - a + 1) + eL fm + 2 * 0 ≤ 400 := by
                unfold wrLen at hwl4; rw [hkL]; omega
              have hlast : ∀ kn, kn < 10 → JF x yX9_writeLine cX9_writeLine 6 none 2 0 0 [.ref 38, .int fI, .int (nI kn), .int (nI 0), .int (nI 0)] g none (wLine g fm kn 0 0 (fun _ => 0)) := fun kn hkn => j_X9_writeLine hfm hKg hRg hnk hroom hkn (by omega) (by omega) (by omega) (fun _ => by omega) (fun k hk => by omega)
              have hend : ∀ kn, kn = (if fm = 1 then 1 else 9) → wLine g fm kn 0 0 (fun _ => 0) = mWrite h fm a b f := by
                intro kn hkn; unfold mWrite; rw [← hkL, hg, hkn]
              have hnum : gi (mWrite h fm a b f) 38 2 = nI (wrLen fm a b) := by rw [(mWrite_T h fm a b f hab (by omega)).1, wrL_len fm a b f hab]
              rcases hfm with ⟨rfl, rfl⟩ | ⟨rfl, rfl⟩
              · refine J_aload_n (pq := 153) dX9_write_152 rfl rfl (J_iload_n (pq := 154) dX9_write_153 rfl rfl (J_iload_n (pq := 155) dX9_write_154 rfl rfl (J_iconst (pq := 156) dX9_write_155 rfl c_iconst_1 (J_icmp_ne (pq := 159) (tgt := 163) dX9_write_156 rfl rfl (fun c => ?_) (fun c => ?_)))))
                · exact absurd rfl c
                · refine J_iconst (pq := 160) dX9_write_159 rfl c_iconst_1 (J_goto (tgt := 165) dX9_write_160 rfl (J_iconst (pq := 166) dX9_write_165 rfl c_iconst_0 (J_iconst (pq := 167) dX9_write_166 rfl c_iconst_0 (J_virtF (pq := 170) dX9_write_167 rfl (hlast 1 (by omega)) rfl tg_X9_writeLine l_X9_192 vi_X9_writeLine (hKg.at rfl) ⟨by decide, rfl⟩ (Nat.le_of_ble_eq_true rfl) (Nat.zero_le _) (Nat.zero_le _) (Nat.le_of_ble_eq_true rfl) (J_aload_n (pq := 171) dX9_write_170 rfl rfl (J_getI (pq := 174) dX9_write_171 rfl f_X9_130 jsI (hKg.at rfl) (J_iret dX9_write_174 rfl rfl ?_)))))))
                  rw [hend 1 rfl]
                  exact ⟨by rw [hnum], rfl⟩
              · refine J_aload_n (pq := 153) dX9_write_152 rfl rfl (J_iload_n (pq := 154) dX9_write_153 rfl rfl (J_iload_n (pq := 155) dX9_write_154 rfl rfl (J_iconst (pq := 156) dX9_write_155 rfl c_iconst_1 (J_icmp_ne (pq := 159) (tgt := 163) dX9_write_156 rfl rfl (fun c => ?_) (fun c => ?_)))))
                · refine J_bipush (pq := 165) dX9_write_163 rfl c_bipush_9 (J_iconst (pq := 166) dX9_write_165 rfl c_iconst_0 (J_iconst (pq := 167) dX9_write_166 rfl c_iconst_0 (J_virtF (pq := 170) dX9_write_167 rfl (hlast 9 (by omega)) rfl tg_X9_writeLine l_X9_192 vi_X9_writeLine (hKg.at rfl) ⟨by decide, rfl⟩ (Nat.le_of_ble_eq_true rfl) (Nat.zero_le _) (Nat.zero_le _) (Nat.le_of_ble_eq_true rfl) (J_aload_n (pq := 171) dX9_write_170 rfl rfl (J_getI (pq := 174) dX9_write_171 rfl f_X9_130 jsI (hKg.at rfl) (J_iret dX9_write_174 rfl rfl ?_))))))
                  rw [hend 9 rfl]
                  exact ⟨by rw [hnum], rfl⟩
                · exact absurd c (by decide)
            · rw [nI_ltI (by omega) (by omega)] at c
              have hroom : k * eL fm + 2 * min (16 * k) (b - a + 1) + eL fm + 2 * min 16 (b - (a + 16 * k) + 1) ≤ 400 := by
                unfold wrLen at hwl4
                have : (k + 1) * eL fm ≤ ((b - a) / 16 + 1) * eL fm := Nat.mul_le_mul (by omega) (Nat.le_refl _)
                omega
              have hline : ∀ kn, kn < 10 → JF x yX9_writeLine cX9_writeLine 6 none 2 0 0 [.ref 38, .int fI, .int (nI kn), .int (nI (a + 16 * k)), .int (nI (min 16 (b - (a + 16 * k) + 1)))] g none (wLine g fm kn (a + 16 * k) (min 16 (b - (a + 16 * k) + 1)) (fun j => f (a + 16 * k + j))) := fun kn hkn => j_X9_writeLine hfm hKg hRg hnk hroom hkn (by omega) (by omega) (by omega) (fun j => hf _) (fun j hj => by rw [hF.2 39 _ (by decide) (by simp)]; exact him _ (by omega))
              have hgo : ∀ kn, kn = (if fm = 1 then 0 else 1) → wLine g fm kn (a + 16 * k) (min 16 (b - (a + 16 * k) + 1)) (fun j => f (a + 16 * k + j)) = wN h fm a b f (k + 1) := by
                intro kn hkn; rw [wN, hg, hkn]
              have hsub : nI b - nI (a + 16 * k) = nI (b - (a + 16 * k)) := pk_sub (by omega)
              have hsub1 : nI b - nI (a + 16 * k) + 1 = nI (b - (a + 16 * k) + 1) := by rw [hsub, nI_1]
              have hinc : nI (a + 16 * k) + 16 = nI (a + 16 * (k + 1)) := by rw [show (16 : Int32) = nI 16 from rfl, nI_add]; congr 1
              have l16 : (16 : Int32) = nI 16 := rfl
              rcases hfm with ⟨rfl, rfl⟩ | ⟨rfl, rfl⟩
              · refine J_aload_n (pq := 110) dX9_write_109 rfl rfl (J_iload_n (pq := 111) dX9_write_110 rfl rfl (J_iload_n (pq := 112) dX9_write_111 rfl rfl (J_iconst (pq := 113) dX9_write_112 rfl c_iconst_1 (J_icmp_ne (pq := 116) (tgt := 120) dX9_write_113 rfl rfl (fun c => ?_) (fun c => ?_)))))
                · exact absurd rfl c
                · refine J_iconst (pq := 117) dX9_write_116 rfl c_iconst_0 (J_goto (tgt := 121) dX9_write_117 rfl (J_iload (pq := 123) dX9_write_121 rfl rfl (J_iload_n (pq := 124) dX9_write_123 rfl rfl (J_iload (pq := 126) dX9_write_124 rfl rfl (J_isub (pq := 127) dX9_write_126 rfl (J_bipush (pq := 129) dX9_write_127 rfl c_bipush_16 (J_icmp_ge (pq := 132) (tgt := 141) dX9_write_129 rfl rfl (fun c => ?_) (fun c => ?_))))))))
                  · rw [hsub, l16, nI_leI (by omega) (by omega)] at c
                    have hm16 : min 16 (b - (a + 16 * k) + 1) = 16 := by omega
                    have hl := hline 0 (by omega)
                    rw [hm16] at hl
                    refine J_bipush (pq := 143) dX9_write_141 rfl c_bipush_16 (J_virtF (pq := 146) dX9_write_143 rfl (hl) rfl tg_X9_writeLine l_X9_192 vi_X9_writeLine (hKg.at rfl) ⟨by decide, rfl⟩ (Nat.le_of_ble_eq_true rfl) (Nat.zero_le _) (Nat.zero_le _) (Nat.le_of_ble_eq_true rfl) (J_iinc (pq := 149) dX9_write_146 rfl c_iconst_16 rfl (Nat.le_of_ble_eq_true rfl) rfl (J_goto (tgt := 103) dX9_write_149 rfl (?_))))
                    have hg2 := hgo 0 rfl
                    rw [hm16] at hg2
                    rw [hinc, hg2]
                    exact J_weak (by simp [lsub]) rfl rfl (ih (k + 1) (by omega) (by omega))
                  · rw [hsub, l16, nI_leI (by omega) (by omega)] at c
                    have hm16 : min 16 (b - (a + 16 * k) + 1) = b - (a + 16 * k) + 1 := by omega
                    have hl := hline 0 (by omega)
                    rw [hm16] at hl
                    refine J_iload_n (pq := 133) dX9_write_132 rfl rfl (J_iload (pq := 135) dX9_write_133 rfl rfl (J_isub (pq := 136) dX9_write_135 rfl (J_iconst (pq := 137) dX9_write_136 rfl c_iconst_1 (J_iadd (pq := 138) dX9_write_137 rfl (J_goto (tgt := 143) dX9_write_138 rfl (?_))))))
                    rw [hsub1]
                    refine J_virtF (pq := 146) dX9_write_143 rfl (hl) rfl tg_X9_writeLine l_X9_192 vi_X9_writeLine (hKg.at rfl) ⟨by decide, rfl⟩ (Nat.le_of_ble_eq_true rfl) (Nat.zero_le _) (Nat.zero_le _) (Nat.le_of_ble_eq_true rfl) (J_iinc (pq := 149) dX9_write_146 rfl c_iconst_16 rfl (Nat.le_of_ble_eq_true rfl) rfl (J_goto (tgt := 103) dX9_write_149 rfl (?_)))
                    have hg2 := hgo 0 rfl
                    rw [hm16] at hg2
                    rw [hinc, hg2]
                    exact J_weak (by simp [lsub]) rfl rfl (ih (k + 1) (by omega) (by omega))
              · refine J_aload_n (pq := 110) dX9_write_109 rfl rfl (J_iload_n (pq := 111) dX9_write_110 rfl rfl (J_iload_n (pq := 112) dX9_write_111 rfl rfl (J_iconst (pq := 113) dX9_write_112 rfl c_iconst_1 (J_icmp_ne (pq := 116) (tgt := 120) dX9_write_113 rfl rfl (fun c => ?_) (fun c => ?_)))))
                · refine J_iconst (pq := 121) dX9_write_120 rfl c_iconst_1 (J_iload (pq := 123) dX9_write_121 rfl rfl (J_iload_n (pq := 124) dX9_write_123 rfl rfl (J_iload (pq := 126) dX9_write_124 rfl rfl (J_isub (pq := 127) dX9_write_126 rfl (J_bipush (pq := 129) dX9_write_127 rfl c_bipush_16 (J_icmp_ge (pq := 132) (tgt := 141) dX9_write_129 rfl rfl (fun c => ?_) (fun c => ?_)))))))
                  · rw [hsub, l16, nI_leI (by omega) (by omega)] at c
                    have hm16 : min 16 (b - (a + 16 * k) + 1) = 16 := by omega
                    have hl := hline 1 (by omega)
                    rw [hm16] at hl
                    refine J_bipush (pq := 143) dX9_write_141 rfl c_bipush_16 (J_virtF (pq := 146) dX9_write_143 rfl (hl) rfl tg_X9_writeLine l_X9_192 vi_X9_writeLine (hKg.at rfl) ⟨by decide, rfl⟩ (Nat.le_of_ble_eq_true rfl) (Nat.zero_le _) (Nat.zero_le _) (Nat.le_of_ble_eq_true rfl) (J_iinc (pq := 149) dX9_write_146 rfl c_iconst_16 rfl (Nat.le_of_ble_eq_true rfl) rfl (J_goto (tgt := 103) dX9_write_149 rfl (?_))))
                    have hg2 := hgo 1 rfl
                    rw [hm16] at hg2
                    rw [hinc, hg2]
                    exact J_weak (by simp [lsub]) rfl rfl (ih (k + 1) (by omega) (by omega))
                  · rw [hsub, l16, nI_leI (by omega) (by omega)] at c
                    have hm16 : min 16 (b - (a + 16 * k) + 1) = b - (a + 16 * k) + 1 := by omega
                    have hl := hline 1 (by omega)
                    rw [hm16] at hl
                    refine J_iload_n (pq := 133) dX9_write_132 rfl rfl (J_iload (pq := 135) dX9_write_133 rfl rfl (J_isub (pq := 136) dX9_write_135 rfl (J_iconst (pq := 137) dX9_write_136 rfl c_iconst_1 (J_iadd (pq := 138) dX9_write_137 rfl (J_goto (tgt := 143) dX9_write_138 rfl (?_))))))
                    rw [hsub1]
                    refine J_virtF (pq := 146) dX9_write_143 rfl (hl) rfl tg_X9_writeLine l_X9_192 vi_X9_writeLine (hKg.at rfl) ⟨by decide, rfl⟩ (Nat.le_of_ble_eq_true rfl) (Nat.zero_le _) (Nat.zero_le _) (Nat.le_of_ble_eq_true rfl) (J_iinc (pq := 149) dX9_write_146 rfl c_iconst_16 rfl (Nat.le_of_ble_eq_true rfl) rfl (J_goto (tgt := 103) dX9_write_149 rfl (?_)))
                    have hg2 := hgo 1 rfl
                    rw [hm16] at hg2
                    rw [hinc, hg2]
                    exact J_weak (by simp [lsub]) rfl rfl (ih (k + 1) (by omega) (by omega))
                · exact absurd c (by decide)
          · rw [show (400 : Int32) = nI 400 from rfl, nI_leI (by omega) (by omega)] at c
            rw [if_neg c, if_neg c]
            refine J_iconst (pq := 94) dX9_write_93 rfl c_iconst_m1 (J_iret dX9_write_94 rfl rfl ?_)
            exact ⟨rfl, rfl⟩
        · rcases hfm with ⟨rfl, rfl⟩ | ⟨rfl, rfl⟩
          · refine J_iload_n (pq := 34) dX9_write_33 rfl rfl (J_iload_n (pq := 35) dX9_write_34 rfl rfl (J_isub (pq := 36) dX9_write_35 rfl (J_iconst (pq := 37) dX9_write_36 rfl c_iconst_1 (J_iadd (pq := 38) dX9_write_37 rfl (J_istore (pq := 40) dX9_write_38 rfl (Nat.le_of_ble_eq_true rfl) (Nat.le_of_ble_eq_true rfl) rfl (J_iload (pq := 42) dX9_write_40 rfl rfl (J_bipush (pq := 44) dX9_write_42 rfl c_bipush_15 (J_iadd (pq := 45) dX9_write_44 rfl (J_bipush (pq := 47) dX9_write_45 rfl c_bipush_16 (J_idiv (pq := 48) dX9_write_47 rfl (by decide) (J_istore (pq := 50) dX9_write_48 rfl (Nat.le_of_ble_eq_true rfl) (Nat.le_of_ble_eq_true rfl) rfl (J_iconst (pq := 51) dX9_write_50 rfl c_iconst_2 (J_iload (pq := 53) dX9_write_51 rfl rfl (J_imul (pq := 54) dX9_write_53 rfl (J_iload (pq := 56) dX9_write_54 rfl rfl (J_iload_n (pq := 57) dX9_write_56 rfl rfl (J_iconst (pq := 58) dX9_write_57 rfl c_iconst_1 (J_icmp_ne (pq := 61) (tgt := 66) dX9_write_58 rfl rfl (fun c => ?_) (fun c => ?_)))))))))))))))))))
            · exact absurd rfl c
            · refine J_bipush (pq := 63) dX9_write_61 rfl c_bipush_12 (J_goto (tgt := 68) dX9_write_63 rfl (J_imul (pq := 69) dX9_write_68 rfl (J_iadd (pq := 70) dX9_write_69 rfl (J_iload_n (pq := 71) dX9_write_70 rfl rfl (J_iconst (pq := 72) dX9_write_71 rfl c_iconst_1 (J_icmp_ne (pq := 75) (tgt := 80) dX9_write_72 rfl rfl (fun c => ?_) (fun c => ?_)))))))
              · exact absurd rfl c
              · refine J_bipush (pq := 77) dX9_write_75 rfl c_bipush_12 (J_goto (tgt := 82) dX9_write_77 rfl (J_iadd (pq := 83) dX9_write_82 rfl (J_istore (pq := 85) dX9_write_83 rfl (Nat.le_of_ble_eq_true rfl) (Nat.le_of_ble_eq_true rfl) rfl (?_))))
                rw [e3 12 rfl]
                exact J_weak (by simp [lsub]) rfl rfl (k85 () trivial)
          · refine J_iload_n (pq := 34) dX9_write_33 rfl rfl (J_iload_n (pq := 35) dX9_write_34 rfl rfl (J_isub (pq := 36) dX9_write_35 rfl (J_iconst (pq := 37) dX9_write_36 rfl c_iconst_1 (J_iadd (pq := 38) dX9_write_37 rfl (J_istore (pq := 40) dX9_write_38 rfl (Nat.le_of_ble_eq_true rfl) (Nat.le_of_ble_eq_true rfl) rfl (J_iload (pq := 42) dX9_write_40 rfl rfl (J_bipush (pq := 44) dX9_write_42 rfl c_bipush_15 (J_iadd (pq := 45) dX9_write_44 rfl (J_bipush (pq := 47) dX9_write_45 rfl c_bipush_16 (J_idiv (pq := 48) dX9_write_47 rfl (by decide) (J_istore (pq := 50) dX9_write_48 rfl (Nat.le_of_ble_eq_true rfl) (Nat.le_of_ble_eq_true rfl) rfl (J_iconst (pq := 51) dX9_write_50 rfl c_iconst_2 (J_iload (pq := 53) dX9_write_51 rfl rfl (J_imul (pq := 54) dX9_write_53 rfl (J_iload (pq := 56) dX9_write_54 rfl rfl (J_iload_n (pq := 57) dX9_write_56 rfl rfl (J_iconst (pq := 58) dX9_write_57 rfl c_iconst_1 (J_icmp_ne (pq := 61) (tgt := 66) dX9_write_58 rfl rfl (fun c => ?_) (fun c => ?_)))))))))))))))))))
            · refine J_bipush (pq := 68) dX9_write_66 rfl c_bipush_11 (J_imul (pq := 69) dX9_write_68 rfl (J_iadd (pq := 70) dX9_write_69 rfl (J_iload_n (pq := 71) dX9_write_70 rfl rfl (J_iconst (pq := 72) dX9_write_71 rfl c_iconst_1 (J_icmp_ne (pq := 75) (tgt := 80) dX9_write_72 rfl rfl (fun c => ?_) (fun c => ?_))))))
              · refine J_bipush (pq := 82) dX9_write_80 rfl c_bipush_11 (J_iadd (pq := 83) dX9_write_82 rfl (J_istore (pq := 85) dX9_write_83 rfl (Nat.le_of_ble_eq_true rfl) (Nat.le_of_ble_eq_true rfl) rfl (?_)))
                rw [e3 11 rfl]
                exact J_weak (by simp [lsub]) rfl rfl (k85 () trivial)
              · exact absurd c (by decide)
            · exact absurd c (by decide)
      · rw [hi3] at c; exact absurd c (by decide)
end M9
