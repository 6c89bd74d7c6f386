-- the reference: writing
/-- a digit's sign -/
def hexd (k : Nat) : Int32 := if k < 10 then nI (48 + k) else nI (55 + k)
def byteL (b : Nat) : List Int32 := [hexd (b / 16), hexd (b % 16)]
/-- the reference writes a byte -/
def wB (h : JH) (b : Nat) : JH := si (mAdd (mAdd h (hexd (b / 16))) (hexd (b % 16))) 38 11 (gi h 38 11 + nI b)
def wBs (h : JH) (l : List Nat) : JH := l.foldl wB h
theorem wBs_app (h : JH) (l m : List Nat) : wBs h (l ++ m) = wBs (wBs h l) m := List.foldl_append ..
/-- the tape of the reference holds these bytes -/
def Tm (h : JH) (l : List Int32) : Prop := gi h 38 2 = nI l.length ∧ ∀ j v, l[j]? = some v → gi h 40 j = v
theorem Tm.add {h : JH} {l : List Int32} (hT : Tm h l) (hl : l.length < 2147483647) (b : Int32) : Tm (mAdd h b) (l ++ [b]) := by
  refine ⟨?_, fun j v hj => ?_⟩
  · rw [mAdd_n, hT.1, nI_1]; simp
  · simp only [mAdd, gi_si, hT.1, ixn (show l.length < 2147483648 by omega)]
    rw [if_neg (by simp)]
    by_cases hjl : j = l.length
    · subst hjl
      simp at hj
      rw [if_pos ⟨trivial, rfl⟩]
      exact hj
    · rw [if_neg (fun a => hjl a.2)]
      refine hT.2 j v ?_
      have hlt : j < l.length := by
        have := (List.getElem?_eq_some_iff.mp hj).1
        simp at this; omega
      rw [List.getElem?_append_left hlt] at hj
      exact hj
theorem Tm.of_si {h : JH} {l : List Int32} (hT : Tm h l) {o k : Nat} {v : Int32} (h1 : ¬ (o = 38 ∧ k = 2)) (h2 : o ≠ 40) : Tm (si h o k v) l := by
  refine ⟨?_, fun j w hj => ?_⟩
  · rw [gi_si, if_neg (fun a => h1 ⟨a.1.symm, a.2.symm⟩)]; exact hT.1
  · rw [gi_si, if_neg (fun a => h2 a.1.symm)]; exact hT.2 j w hj
theorem Tm.byte {h : JH} {l : List Int32} (hT : Tm h l) (hl : l.length < 2147483640) (b : Nat) : Tm (wB h b) (l ++ byteL b) := by
  have h1 := (hT.add (by omega) (hexd (b / 16))).add (by simp; omega) (hexd (b % 16))
  rw [List.append_assoc] at h1
  exact Tm.of_si h1 (by decide) (by decide)
theorem Tm.bytes {h : JH} : ∀ (bs : List Nat) {h : JH} {l : List Int32}, Tm h l → l.length + 2 * bs.length < 2147483640 → Tm (wBs h bs) (l ++ bs.flatMap byteL)
  | [], h, l, hT, _ => by simpa [wBs] using hT
  | b :: bs, h, l, hT, hl => by
    have := Tm.bytes (h := h) bs (hT.byte (by simp at hl; omega) b) (by simp [byteL] at hl ⊢; omega)
    simpa [wBs, List.append_assoc] using this
theorem wB_sum (h : JH) (b : Nat) : gi (wB h b) 38 11 = gi h 38 11 + nI b := by simp [wB, gi_si]
theorem wBs_sum : ∀ (bs : List Nat) (h : JH), gi (wBs h bs) 38 11 = gi h 38 11 + nI bs.sum
  | [], h => by simp [wBs]; exact nI_0
  | b :: bs, h => by
    have := wBs_sum bs (wB h b)
    simp only [wBs, List.foldl_cons, List.sum_cons] at this ⊢
    rw [this, wB_sum, Int32.add_assoc, nI_add]
/-- nothing else is touched -/
def WrF (h g : JH) : Prop := g.2 = h.2 ∧ ∀ a b, a ≠ 40 → ¬ (a = 38 ∧ (b = 2 ∨ b = 11)) → gi g a b = gi h a b
theorem WrF.rf (h : JH) : WrF h h := ⟨rfl, fun _ _ _ _ => rfl⟩
theorem WrF.tr {h g k : JH} (h1 : WrF h g) (h2 : WrF g k) : WrF h k := ⟨h2.1.trans h1.1, fun a b ha hb => (h2.2 a b ha hb).trans (h1.2 a b ha hb)⟩
theorem WrF.add (h : JH) (v : Int32) : WrF h (mAdd h v) := ⟨rfl, fun a b ha hb => by
  simp only [mAdd, gi_si]
  rw [if_neg (fun q => hb ⟨q.1, Or.inl q.2⟩), if_neg (fun q => ha q.1)]⟩
theorem WrF.sum (h : JH) (v : Int32) : WrF h (si h 38 11 v) := ⟨rfl, fun a b ha hb => by
  rw [gi_si, if_neg (fun q => hb ⟨q.1, Or.inr q.2⟩)]⟩
theorem WrF.byte (h : JH) (b : Nat) : WrF h (wB h b) := (((WrF.add h _).tr (WrF.add _ _)).tr (WrF.sum _ _))
theorem WrF.bytes : ∀ (bs : List Nat) (h : JH), WrF h (wBs h bs)
  | [], h => WrF.rf h
  | b :: bs, h => (WrF.byte h b).tr (WrF.bytes bs (wB h b))
theorem wB_n {h : JH} {n : Nat} (hn : gi h 38 2 = nI n) (b : Nat) : gi (wB h b) 38 2 = nI (n + 2) := by
  have : gi (wB h b) 38 2 = gi (mAdd (mAdd h (hexd (b / 16))) (hexd (b % 16))) 38 2 := by simp [wB, gi_si]
  rw [this, mAdd_n, mAdd_n, hn, nI_1, nI_1]
theorem wBs_n : ∀ (bs : List Nat) {h : JH} {n : Nat}, gi h 38 2 = nI n → gi (wBs h bs) 38 2 = nI (n + 2 * bs.length)
  | [], h, n, hn => hn
  | b :: bs, h, n, hn => by
    have := wBs_n bs (wB_n hn b)
    simp only [wBs, List.foldl_cons] at this ⊢
    rw [this]
    congr 1
    simp; omega
section M7
variable {x : JX} {h : JH}
theorem j_X9_writeSign {v : Int32} {n : Nat} (hK : Kin h) (hR : MR h) (hn : gi h 38 2 = nI n) (hn4 : n < 400) : JF x yX9_writeSign cX9_writeSign 2 none 0 0 0 [.ref 38, .int v] h none (mAdd h v) := by
  refine JM_of [some (.ref 38), some (.int v)] (by decide) (Nat.le_of_ble_eq_true rfl) rfl ?_
  have hb : vp_in (gi h 38 2) 400 := vinN hn (by omega) (by omega)
  refine J_aload_n (pq := 1) dX9_writeSign_0 rfl rfl (J_getA (pq := 4) dX9_writeSign_1 rfl f_X9_13 (by decide +kernel) (hK.at rfl) (hR _ _ rfl) (J_aload_n (pq := 5) dX9_writeSign_4 rfl rfl (J_getI (pq := 8) dX9_writeSign_5 rfl f_X9_130 jsI (hK.at rfl) (J_iload_n (pq := 9) dX9_writeSign_8 rfl rfl (J_iast (pq := 10) dX9_writeSign_9 rfl (hK.at rfl) (by assumption) (J_aload_n (pq := 11) dX9_writeSign_10 rfl rfl (J_dup (pq := 12) dX9_writeSign_11 rfl rfl (J_getI (pq := 15) dX9_writeSign_12 rfl f_X9_130 jsI (hK.at rfl) (J_iconst (pq := 16) dX9_writeSign_15 rfl c_iconst_1 (J_iadd (pq := 17) dX9_writeSign_16 rfl (J_putI (pq := 20) dX9_writeSign_17 rfl f_X9_130 (Or.inl rfl) (hK.at rfl) (J_vret dX9_writeSign_20 rfl ?_))))))))))))
  exact ⟨rfl, by simp [mAdd, gi_si]⟩
theorem shr4 {b : Nat} (hb : b < 256) : nI b >>> ((4 : Int32) &&& 31) &&& 15 = nI (b / 16) := by
  have : ∀ b : Fin 256, nI b.val >>> ((4 : Int32) &&& 31) &&& 15 = nI (b.val / 16) := by decide +kernel
  exact this ⟨b, hb⟩
theorem shr0 {b : Nat} (hb : b < 256) : nI b >>> ((0 : Int32) &&& 31) &&& 15 = nI (b % 16) := by
  have : ∀ b : Fin 256, nI b.val >>> ((0 : Int32) &&& 31) &&& 15 = nI (b.val % 16) := by decide +kernel
  exact this ⟨b, hb⟩
theorem hexd_lo {k : Nat} (hk : k < 10) : (48 : Int32) + nI k = hexd k := by rw [show (48 : Int32) = nI 48 from rfl, nI_add, hexd, if_pos hk]
theorem hexd_hi {k : Nat} (hk : ¬ k < 10) (hk2 : k < 100) : (65 : Int32) + nI k - 10 = hexd k := by
  rw [show (65 : Int32) = nI 65 from rfl, nI_add, show (10 : Int32) = nI 10 from rfl, pk_sub (by omega), hexd, if_neg hk]
  congr 1; omega
theorem j_X9_writeByte {b n : Nat} (hK : Kin h) (hR : MR h) (hn : gi h 38 2 = nI n) (hn4 : n + 2 ≤ 400) (hb : b < 256) : JF x yX9_writeByte cX9_writeByte 4 none 1 0 0 [.ref 38, .int (nI b)] h none (wB h b) := by
  refine JM_of [some (.ref 38), some (.int (nI b)), none, none] (by decide) (Nat.le_of_ble_eq_true rfl) rfl ?_
  have l10 : (10 : Int32) = nI 10 := rfl
  refine J_cut (σ := Unit) 43 (fun _ => [some (.ref 38), some (.int (nI b)), none, none]) (fun _ => []) (fun _ => mAdd (mAdd h (hexd (b / 16))) (hexd (b % 16))) (fun _ => True) (fun _ _ => ?_) (fun k43 => ?_)
  · refine J_aload_n (pq := 44) dX9_writeByte_43 rfl rfl (J_dup (pq := 45) dX9_writeByte_44 rfl rfl (J_getI (pq := 48) dX9_writeByte_45 rfl f_X9_186 jsI (hK.at rfl) (J_iload_n (pq := 49) dX9_writeByte_48 rfl rfl (J_iadd (pq := 50) dX9_writeByte_49 rfl (J_putI (pq := 53) dX9_writeByte_50 rfl f_X9_186 (Or.inl rfl) (hK.at rfl) (J_vret dX9_writeByte_53 rfl ?_))))))
    refine ⟨rfl, ?_⟩
    simp [wB, mAdd, gi_si]
  refine J_cut (σ := Unit) 2 (fun _ => [some (.ref 38), some (.int (nI b)), some (.int 0), none]) (fun _ => []) (fun _ => mAdd h (hexd (b / 16))) (fun _ => True) (fun _ _ => ?_) (fun k2 => ?_)
  · have hn1 : gi (mAdd h (hexd (b / 16))) 38 2 = nI (n + 1) := by rw [mAdd_n, hn, nI_1]
    refine J_iload_n (pq := 3) dX9_writeByte_2 rfl rfl (J_if_lt (pq := 6) (tgt := 43) dX9_writeByte_3 rfl rfl (fun c => ?_) (fun c => ?_))
    · exact absurd c (by decide)
    · refine J_iload_n (pq := 7) dX9_writeByte_6 rfl rfl (J_iload_n (pq := 8) dX9_writeByte_7 rfl rfl (J_ishr (pq := 9) dX9_writeByte_8 rfl (J_bipush (pq := 11) dX9_writeByte_9 rfl c_bipush_15 (J_iand (pq := 12) dX9_writeByte_11 rfl (J_istore_m 3 (pq := 13) dX9_writeByte_12 rfl rfl (Nat.le_of_ble_eq_true rfl) (Nat.le_of_ble_eq_true rfl) rfl (J_aload_n (pq := 14) dX9_writeByte_13 rfl rfl (J_iload_n (pq := 15) dX9_writeByte_14 rfl rfl (J_bipush (pq := 17) dX9_writeByte_15 rfl c_bipush_10 (J_icmp_ge (pq := 20) (tgt := 27) dX9_writeByte_17 rfl rfl (fun c => ?_) (fun c => ?_))))))))))
      · rw [shr0 hb, l10, nI_leI (by omega) (by omega)] at c
        refine J_bipush (pq := 29) dX9_writeByte_27 rfl c_bipush_65 (J_iload_n (pq := 30) dX9_writeByte_29 rfl rfl (J_iadd (pq := 31) dX9_writeByte_30 rfl (J_bipush (pq := 33) dX9_writeByte_31 rfl c_bipush_10 (J_isub (pq := 34) dX9_writeByte_33 rfl (J_virtF (pq := 37) dX9_writeByte_34 rfl (j_X9_writeSign hK hR hn1 (by omega)) rfl tg_X9_writeSign l_X9_183 vi_X9_writeSign (hK.at rfl) ⟨by decide, rfl⟩ (Nat.le_of_ble_eq_true rfl) (Nat.zero_le _) (Nat.zero_le _) (Nat.le_of_ble_eq_true rfl) (J_iinc (pq := 40) dX9_writeByte_37 rfl c_iconst_m4 rfl (Nat.le_of_ble_eq_true rfl) rfl (J_goto (tgt := 2) dX9_writeByte_40 rfl (?_))))))))
        refine J_iload_n (pq := 3) dX9_writeByte_2 rfl rfl (J_if_lt (pq := 6) (tgt := 43) dX9_writeByte_3 rfl rfl (fun c => ?_) (fun c => ?_))
        · rw [shr0 hb, hexd_hi (by omega) (by omega)]
          exact J_weak (by simp [lsub]) rfl rfl (k43 () trivial)
        · exact absurd (by decide) c
      · rw [shr0 hb, l10, nI_leI (by omega) (by omega)] at c
        refine J_bipush (pq := 22) dX9_writeByte_20 rfl c_bipush_48 (J_iload_n (pq := 23) dX9_writeByte_22 rfl rfl (J_iadd (pq := 24) dX9_writeByte_23 rfl (J_goto (tgt := 34) dX9_writeByte_24 rfl (J_virtF (pq := 37) dX9_writeByte_34 rfl (j_X9_writeSign hK hR hn1 (by omega)) rfl tg_X9_writeSign l_X9_183 vi_X9_writeSign (hK.at rfl) ⟨by decide, rfl⟩ (Nat.le_of_ble_eq_true rfl) (Nat.zero_le _) (Nat.zero_le _) (Nat.le_of_ble_eq_true rfl) (J_iinc (pq := 40) dX9_writeByte_37 rfl c_iconst_m4 rfl (Nat.le_of_ble_eq_true rfl) rfl (J_goto (tgt := 2) dX9_writeByte_40 rfl (?_)))))))
        refine J_iload_n (pq := 3) dX9_writeByte_2 rfl rfl (J_if_lt (pq := 6) (tgt := 43) dX9_writeByte_3 rfl rfl (fun c => ?_) (fun c => ?_))
        · rw [shr0 hb, hexd_lo (by omega)]
          exact J_weak (by simp [lsub]) rfl rfl (k43 () trivial)
        · exact absurd (by decide) c
  refine J_iconst (pq := 1) dX9_writeByte_0 rfl c_iconst_4 (J_istore_m 2 (pq := 2) dX9_writeByte_1 rfl rfl (Nat.le_of_ble_eq_true rfl) (Nat.le_of_ble_eq_true rfl) rfl (?_))
  refine J_iload_n (pq := 3) dX9_writeByte_2 rfl rfl (J_if_lt (pq := 6) (tgt := 43) dX9_writeByte_3 rfl rfl (fun c => ?_) (fun c => ?_))
  · exact absurd c (by decide)
  · refine J_iload_n (pq := 7) dX9_writeByte_6 rfl rfl (J_iload_n (pq := 8) dX9_writeByte_7 rfl rfl (J_ishr (pq := 9) dX9_writeByte_8 rfl (J_bipush (pq := 11) dX9_writeByte_9 rfl c_bipush_15 (J_iand (pq := 12) dX9_writeByte_11 rfl (J_istore_m 3 (pq := 13) dX9_writeByte_12 rfl rfl (Nat.le_of_ble_eq_true rfl) (Nat.le_of_ble_eq_true rfl) rfl (J_aload_n (pq := 14) dX9_writeByte_13 rfl rfl (J_iload_n (pq := 15) dX9_writeByte_14 rfl rfl (J_bipush (pq := 17) dX9_writeByte_15 rfl c_bipush_10 (J_icmp_ge (pq := 20) (tgt := 27) dX9_writeByte_17 rfl rfl (fun c => ?_) (fun c => ?_))))))))))
    · rw [shr4 hb, l10, nI_leI (by omega) (by omega)] at c
      refine J_bipush (pq := 29) dX9_writeByte_27 rfl c_bipush_65 (J_iload_n (pq := 30) dX9_writeByte_29 rfl rfl (J_iadd (pq := 31) dX9_writeByte_30 rfl (J_bipush (pq := 33) dX9_writeByte_31 rfl c_bipush_10 (J_isub (pq := 34) dX9_writeByte_33 rfl (J_virtF (pq := 37) dX9_writeByte_34 rfl (j_X9_writeSign hK hR hn (by omega)) rfl tg_X9_writeSign l_X9_183 vi_X9_writeSign (hK.at rfl) ⟨by decide, rfl⟩ (Nat.le_of_ble_eq_true rfl) (Nat.zero_le _) (Nat.zero_le _) (Nat.le_of_ble_eq_true rfl) (J_iinc (pq := 40) dX9_writeByte_37 rfl c_iconst_m4 rfl (Nat.le_of_ble_eq_true rfl) rfl (J_goto (tgt := 2) dX9_writeByte_40 rfl (?_))))))))
      rw [shr4 hb, hexd_hi (by omega) (by omega)]
      exact J_weak (by simp [lsub]) rfl rfl (k2 () trivial)
    · rw [shr4 hb, l10, nI_leI (by omega) (by omega)] at c
      refine J_bipush (pq := 22) dX9_writeByte_20 rfl c_bipush_48 (J_iload_n (pq := 23) dX9_writeByte_22 rfl rfl (J_iadd (pq := 24) dX9_writeByte_23 rfl (J_goto (tgt := 34) dX9_writeByte_24 rfl (J_virtF (pq := 37) dX9_writeByte_34 rfl (j_X9_writeSign hK hR hn (by omega)) rfl tg_X9_writeSign l_X9_183 vi_X9_writeSign (hK.at rfl) ⟨by decide, rfl⟩ (Nat.le_of_ble_eq_true rfl) (Nat.zero_le _) (Nat.zero_le _) (Nat.le_of_ble_eq_true rfl) (J_iinc (pq := 40) dX9_writeByte_37 rfl c_iconst_m4 rfl (Nat.le_of_ble_eq_true rfl) rfl (J_goto (tgt := 2) dX9_writeByte_40 rfl (?_)))))))
      rw [shr4 hb, hexd_lo (by omega)]
      exact J_weak (by simp [lsub]) rfl rfl (k2 () trivial)
end M7
