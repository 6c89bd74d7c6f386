-- the class: writing lines
def pus (h : JH) (l : List Int32) : JH := l.foldl xAd h
theorem pus_app (h : JH) (l m : List Int32) : pus h (l ++ m) = pus (pus h l) m := List.foldl_append ..
theorem pus_1 (h : JH) (l : List Int32) (c : Int32) : pus h (l ++ [c]) = xAd (pus h l) c := pus_app h l [c]
theorem xAd_7 (g : JH) (v c : Int32) : xAd (si g 7 1 v) c = si (xAd g c) 7 1 v := by
  unfold xAd
  rw [gi_si, if_neg (by omega), si_comm g v c (by omega), si_comm (si g 2 _ c) v _ (by omega)]
theorem pus_n {h : JH} {n : Nat} (hn : gi h 1 1 = nI n) : ∀ l : List Int32, gi (pus h l) 1 1 = nI (n + l.length) := by
  intro l
  induction l generalizing h n with
  | nil => exact hn
  | cons c l ih =>
    show gi (pus (xAd h c) l) 1 1 = _
    rw [ih (n := n + 1) (by rw [xAd_n, hn, nI_1])]
    congr 1
    simp; omega
theorem pus_2 : ∀ (l : List Int32) (h : JH), (pus h l).2 = h.2
  | [], h => rfl
  | c :: l, h => pus_2 l (xAd h c)
theorem pus_o {a b : Nat} (h1 : a ≠ 2) (h2 : ¬ (a = 1 ∧ b = 1)) : ∀ (l : List Int32) (h : JH), gi (pus h l) a b = gi h a b
  | [], h => rfl
  | c :: l, h => by
    show gi (pus (xAd h c) l) a b = _
    rw [pus_o h1 h2 l, xAd, gi_si, if_neg h2, gi_si, if_neg (fun q => h1 q.1)]
/-- so much is written: the tape, the sum -/
def wT (h : JH) (l : List Int32) (S : Nat) : JH := si (pus h l) 7 1 (nI S)
section E1
variable {x : JX} {h : JH} {n : Nat}
theorem wT_k {l : List Int32} {S : Nat} (hK : Kin h) : Kin (wT h l S) := hK.of2 (pus_2 l h)
theorem wT_x {l : List Int32} {S : Nat} (hX : XR h) : XR (wT h l S) := hX.of3 (by show (pus h l).2.2 = _; rw [pus_2 l h])
theorem wT_n {l : List Int32} {S : Nat} (hn : gi h 1 1 = nI n) : gi (wT h l S) 1 1 = nI (n + l.length) := by
  unfold wT; rw [gi_si, if_neg (by omega), pus_n hn]
theorem j_ch {l : List Int32} {S : Nat} {c : Int32} (hK : Kin h) (hX : XR h) (hn : gi h 1 1 = nI n) (hl : n + l.length < 400) (hc : c &&& 255 = c) : JF x yX6_add cX6_add 2 none 0 0 0 [.ref 1, .int c] (wT h l S) none (wT h (l ++ [c]) S) := by
  have := j_X6_add (x := x) (v := c) (wT_k hK) (wT_x hX) (wT_n (l := l) (S := S) hn) hl
  rw [xAdd_e, hc] at this
  unfold wT at this ⊢
  rw [xAd_7, ← pus_1] at this
  exact this
theorem hexd_255 {k : Nat} (hk : k < 16) : hexd k &&& 255 = hexd k := by
  have : ∀ k : Fin 16, hexd k.val &&& 255 = hexd k.val := by decide
  exact this ⟨k, hk⟩
theorem j_dig {l : List Int32} {S k : Nat} (hK : Kin h) (hX : XR h) (hn : gi h 1 1 = nI n) (hl : n + l.length < 400) (hk : k < 16) : JF x yX6_addDigit cX6_addDigit 2 none 1 0 0 [.ref 1, .int (nI k)] (wT h l S) none (wT h (l ++ [hexd k]) S) := by
  have hK' : Kin (wT h l S) := wT_k hK
  refine JM_of [some (.ref 1), some (.int (nI k))] (by decide) (Nat.le_of_ble_eq_true rfl) rfl ?_
  have hj := j_ch (x := x) (S := S) (c := hexd k) hK hX hn hl (hexd_255 hk)
  refine J_aload_n (pq := 1) dX6_addDigit_0 rfl rfl (J_iload_n (pq := 2) dX6_addDigit_1 rfl rfl (J_bipush (pq := 4) dX6_addDigit_2 rfl c_bipush_10 (J_icmp_ge (pq := 7) (tgt := 14) dX6_addDigit_4 rfl rfl (fun c => ?_) (fun c => ?_))))
  · rw [show (10 : Int32) = nI 10 from rfl, nI_leI (by omega) (by omega)] at c
    refine J_bipush (pq := 16) dX6_addDigit_14 rfl c_bipush_65 (J_iload_n (pq := 17) dX6_addDigit_16 rfl rfl (J_iadd (pq := 18) dX6_addDigit_17 rfl (J_bipush (pq := 20) dX6_addDigit_18 rfl c_bipush_10 (J_isub (pq := 21) dX6_addDigit_20 rfl (?_)))))
    rw [hexd_hi (by omega) (by omega)]
    refine J_virtF (pq := 24) dX6_addDigit_21 rfl (hj) rfl tg_X6_add l_X6_19 vi_X6_add (hK'.at rfl) ⟨by decide, rfl⟩ (Nat.le_of_ble_eq_true rfl) (Nat.zero_le _) (Nat.zero_le _) (Nat.le_of_ble_eq_true rfl) (J_vret dX6_addDigit_24 rfl ?_)
    exact ⟨rfl, rfl⟩
  · rw [show (10 : Int32) = nI 10 from rfl, nI_leI (by omega) (by omega)] at c
    refine J_bipush (pq := 9) dX6_addDigit_7 rfl c_bipush_48 (J_iload_n (pq := 10) dX6_addDigit_9 rfl rfl (J_iadd (pq := 11) dX6_addDigit_10 rfl (J_goto (tgt := 21) dX6_addDigit_11 rfl (?_))))
    rw [hexd_lo (by omega)]
    refine J_virtF (pq := 24) dX6_addDigit_21 rfl (hj) rfl tg_X6_add l_X6_19 vi_X6_add (hK'.at rfl) ⟨by decide, rfl⟩ (Nat.le_of_ble_eq_true rfl) (Nat.zero_le _) (Nat.zero_le _) (Nat.le_of_ble_eq_true rfl) (J_vret dX6_addDigit_24 rfl ?_)
    exact ⟨rfl, rfl⟩
theorem j_byte {l : List Int32} {S b : Nat} (hK : Kin h) (hX : XR h) (hn : gi h 1 1 = nI n) (hl : n + l.length + 2 ≤ 400) (hb : b < 256) : JF x yX3_addByte cX3_addByte 2 none 2 0 0 [.ref 7, .int (nI b)] (wT h l S) none (wT h (l ++ byteL b) (S + b)) := by
  have hK' : Kin (wT h l S) := wT_k hK
  have hX' : XR (wT h l S) := wT_x hX
  refine JM_of [some (.ref 7), some (.int (nI b))] (by decide) (Nat.le_of_ble_eq_true rfl) rfl ?_
  refine J_aload_n (pq := 1) dX3_addByte_0 rfl rfl (J_getA (pq := 4) dX3_addByte_1 rfl f_X3_9 (by decide +kernel) (hK'.at rfl) (hX' _ _ _ rfl) (J_iload_n (pq := 5) dX3_addByte_4 rfl rfl (J_iconst (pq := 6) dX3_addByte_5 rfl c_iconst_4 (J_ishr (pq := 7) dX3_addByte_6 rfl (J_bipush (pq := 9) dX3_addByte_7 rfl c_bipush_15 (J_iand (pq := 10) dX3_addByte_9 rfl (?_)))))))
  rw [shr4 hb]
  have hK2 : Kin (wT h (l ++ [hexd (b / 16)]) S) := wT_k hK
  have hX2 : XR (wT h (l ++ [hexd (b / 16)]) S) := wT_x hX
  refine J_virtF (pq := 13) dX3_addByte_10 rfl (j_dig hK hX hn (by omega) (by omega)) rfl tg_X6_addDigit l_X3_48 vi_X6_addDigit (hK'.at rfl) ⟨by decide, rfl⟩ (Nat.le_of_ble_eq_true rfl) (Nat.zero_le _) (Nat.zero_le _) (Nat.le_of_ble_eq_true rfl) (?_)
  refine J_aload_n (pq := 14) dX3_addByte_13 rfl rfl (J_getA (pq := 17) dX3_addByte_14 rfl f_X3_9 (by decide +kernel) (hK2.at rfl) (hX2 _ _ _ rfl) (J_iload_n (pq := 18) dX3_addByte_17 rfl rfl (J_bipush (pq := 20) dX3_addByte_18 rfl c_bipush_15 (J_iand (pq := 21) dX3_addByte_20 rfl (?_)))))
  rw [pk_andN (by omega) 4 rfl, show b % 2 ^ 4 = b % 16 from rfl]
  refine J_virtF (pq := 24) dX3_addByte_21 rfl (j_dig hK hX hn (by simp; omega) (by omega)) rfl tg_X6_addDigit l_X3_48 vi_X6_addDigit (hK2.at rfl) ⟨by decide, rfl⟩ (Nat.le_of_ble_eq_true rfl) (Nat.zero_le _) (Nat.zero_le _) (Nat.le_of_ble_eq_true rfl) (?_)
  have hK3 : Kin (wT h (l ++ [hexd (b / 16)] ++ [hexd (b % 16)]) S) := wT_k hK
  refine J_aload_n (pq := 25) dX3_addByte_24 rfl rfl (J_dup (pq := 26) dX3_addByte_25 rfl rfl (J_getI (pq := 29) dX3_addByte_26 rfl f_X3_38 jsI (hK3.at rfl) (J_iload_n (pq := 30) dX3_addByte_29 rfl rfl (J_iadd (pq := 31) dX3_addByte_30 rfl (J_putI (pq := 34) dX3_addByte_31 rfl f_X3_38 (Or.inl rfl) (hK3.at rfl) (J_vret dX3_addByte_34 rfl ?_))))))
  refine ⟨rfl, ?_⟩
  unfold wT
  rw [gi_si, if_pos ⟨rfl, rfl⟩, si_si, nI_add, List.append_assoc]
  rfl
theorem j_addr {l : List Int32} {S ad : Nat} (hK : Kin h) (hX : XR h) (hn : gi h 1 1 = nI n) (hl : n + l.length + 4 ≤ 400) (had : ad < 256) : JF x yX3_addAddress cX3_addAddress 2 none 3 0 0 [.ref 7, .int (nI ad)] (wT h l S) none (wT h (l ++ (byteL (ad / 256) ++ byteL (ad % 256))) (S + (ad / 256 + ad % 256))) := by
  have hK' : Kin (wT h l S) := wT_k hK
  have hbl : ∀ b, (byteL b).length = 2 := fun _ => rfl
  refine JM_of [some (.ref 7), some (.int (nI ad))] (by decide) (Nat.le_of_ble_eq_true rfl) rfl ?_
  have e1 : nI ad >>> ((8 : Int32) &&& 31) = nI (ad / 256) := by
    have : ∀ k : Fin 256, nI k.val >>> ((8 : Int32) &&& 31) = nI (k.val / 256) := by decide +kernel
    exact this ⟨ad, had⟩
  have hK2 : Kin (wT h (l ++ byteL (ad / 256)) (S + ad / 256)) := wT_k hK
  refine J_aload_n (pq := 1) dX3_addAddress_0 rfl rfl (J_iload_n (pq := 2) dX3_addAddress_1 rfl rfl (J_bipush (pq := 4) dX3_addAddress_2 rfl c_bipush_8 (J_ishr (pq := 5) dX3_addAddress_4 rfl (?_))))
  rw [e1]
  refine J_virtF (pq := 8) dX3_addAddress_5 rfl (j_byte hK hX hn (by omega) (by omega)) rfl tg_X3_addByte l_X3_31 vi_X3_addByte (hK'.at rfl) ⟨by decide, rfl⟩ (Nat.le_of_ble_eq_true rfl) (Nat.zero_le _) (Nat.zero_le _) (Nat.le_of_ble_eq_true rfl) (J_aload_n (pq := 9) dX3_addAddress_8 rfl rfl (J_iload_n (pq := 10) dX3_addAddress_9 rfl rfl (J_sipush (pq := 13) dX3_addAddress_10 rfl c_sipush_255 (J_iand (pq := 14) dX3_addAddress_13 rfl (?_)))))
  rw [pk_andN (by omega) 8 rfl, show ad % 2 ^ 8 = ad % 256 from rfl]
  refine J_virtF (pq := 17) dX3_addAddress_14 rfl (j_byte hK hX hn (by rw [List.length_append, hbl]; omega) (by omega)) rfl tg_X3_addByte l_X3_31 vi_X3_addByte (hK2.at rfl) ⟨by decide, rfl⟩ (Nat.le_of_ble_eq_true rfl) (Nat.zero_le _) (Nat.zero_le _) (Nat.le_of_ble_eq_true rfl) (J_vret dX3_addAddress_17 rfl ?_)
  refine ⟨rfl, ?_⟩
  rw [List.append_assoc, Nat.add_assoc]
/-- the bytes ahead of the data, and their sum -/
def lnH (fm kn ad m : Nat) : List Nat := if fm = 1 then [m, ad / 256, ad % 256, kn] else [m + 3, ad / 256, ad % 256]
theorem j_start {l : List Int32} {fm kn ad m : Nat} {fI v : Int32} (hfm : (fm = 1 ∧ fI = 1) ∨ (fm = 2 ∧ fI = 2)) (hK : Kin h) (hX : XR h) (hn : gi h 1 1 = nI n) (hl : n + l.length + 9 ≤ 400) (had : ad < 256) (hkn : kn < 10) (hm : m ≤ 16) : JF x yX3_startLine cX3_startLine 5 none 4 0 0 [.ref 7, .int fI, .int (nI kn), .int (nI ad), .int (nI m)] (si (pus h l) 7 1 v) none (wT h (l ++ (lnP fm kn ++ (lnH fm kn ad m).flatMap byteL)) (lnH fm kn ad m).sum) := by
  have hK0 : ∀ l S, Kin (wT h l S) := fun l S => wT_k hK
  have hX0 : ∀ l S, XR (wT h l S) := fun l S => wT_x hX
  have hbl : ∀ b, (byteL b).length = 2 := fun _ => rfl
  refine JM_of [some (.ref 7), some (.int fI), some (.int (nI kn)), some (.int (nI ad)), some (.int (nI m))] (by decide) (Nat.le_of_ble_eq_true rfl) rfl ?_
  have s0 : si (si (pus h l) 7 1 v) 7 1 0 = wT h l 0 := by unfold wT; rw [si_si]; rfl
  have hKv : Kin (si (pus h l) 7 1 v) := hK0 l 0
  rcases hfm with ⟨rfl, rfl⟩ | ⟨rfl, rfl⟩
  · refine J_aload_n (pq := 1) dX3_startLine_0 rfl rfl (J_iconst (pq := 2) dX3_startLine_1 rfl c_iconst_0 (J_putI (pq := 5) dX3_startLine_2 rfl f_X3_38 (Or.inl rfl) (hKv.at rfl) (?_)))
    rw [s0]
    refine J_iload_n (pq := 6) dX3_startLine_5 rfl rfl (J_iconst (pq := 7) dX3_startLine_6 rfl c_iconst_1 (J_icmp_ne (pq := 10) (tgt := 38) dX3_startLine_7 rfl rfl (fun c => ?_) (fun c => ?_)))
    · exact absurd rfl c
    refine J_aload_n (pq := 11) dX3_startLine_10 rfl rfl (J_getA (pq := 14) dX3_startLine_11 rfl f_X3_9 (by decide +kernel) ((hK0 l 0).at rfl) (hX0 l 0 _ _ _ rfl) (J_bipush (pq := 16) dX3_startLine_14 rfl c_bipush_58 (J_virtF (pq := 19) dX3_startLine_16 rfl (j_ch hK hX hn (by omega) (by decide)) rfl tg_X6_add l_X3_42 vi_X6_add ((hK0 l 0).at rfl) ⟨by decide, rfl⟩ (Nat.le_of_ble_eq_true rfl) (Nat.zero_le _) (Nat.zero_le _) (Nat.le_of_ble_eq_true rfl) (?_))))
    refine J_aload_n (pq := 20) dX3_startLine_19 rfl rfl (J_iload (pq := 22) dX3_startLine_20 rfl rfl (J_virtF (pq := 25) dX3_startLine_22 rfl (j_byte hK hX hn (by simp; omega) (by omega)) rfl tg_X3_addByte l_X3_31 vi_X3_addByte ((hK0 _ _).at rfl) ⟨by decide, rfl⟩ (Nat.le_of_ble_eq_true rfl) (Nat.zero_le _) (Nat.zero_le _) (Nat.le_of_ble_eq_true rfl) (?_)))
    refine J_aload_n (pq := 26) dX3_startLine_25 rfl rfl (J_iload_n (pq := 27) dX3_startLine_26 rfl rfl (J_virtF (pq := 30) dX3_startLine_27 rfl (j_addr hK hX hn (by simp [hbl]; omega) had) rfl tg_X3_addAddress l_X3_45 vi_X3_addAddress ((hK0 _ _).at rfl) ⟨by decide, rfl⟩ (Nat.le_of_ble_eq_true rfl) (Nat.zero_le _) (Nat.zero_le _) (Nat.le_of_ble_eq_true rfl) (?_)))
    refine J_aload_n (pq := 31) dX3_startLine_30 rfl rfl (J_iload_n (pq := 32) dX3_startLine_31 rfl rfl (J_virtF (pq := 35) dX3_startLine_32 rfl (j_byte hK hX hn (by simp [hbl]; omega) (by omega)) rfl tg_X3_addByte l_X3_31 vi_X3_addByte ((hK0 _ _).at rfl) ⟨by decide, rfl⟩ (Nat.le_of_ble_eq_true rfl) (Nat.zero_le _) (Nat.zero_le _) (Nat.le_of_ble_eq_true rfl) (J_goto (tgt := 68) dX3_startLine_35 rfl (J_vret dX3_startLine_68 rfl ?_))))
    refine ⟨rfl, ?_⟩
    unfold lnH lnP
    rw [if_pos rfl, if_pos rfl]
    simp [List.flatMap_cons]
    congr 1
    omega
  · refine J_aload_n (pq := 1) dX3_startLine_0 rfl rfl (J_iconst (pq := 2) dX3_startLine_1 rfl c_iconst_0 (J_putI (pq := 5) dX3_startLine_2 rfl f_X3_38 (Or.inl rfl) (hKv.at rfl) (?_)))
    rw [s0]
    refine J_iload_n (pq := 6) dX3_startLine_5 rfl rfl (J_iconst (pq := 7) dX3_startLine_6 rfl c_iconst_1 (J_icmp_ne (pq := 10) (tgt := 38) dX3_startLine_7 rfl rfl (fun c => ?_) (fun c => ?_)))
    rotate_left
    · exact absurd c (by decide)
    refine J_aload_n (pq := 39) dX3_startLine_38 rfl rfl (J_getA (pq := 42) dX3_startLine_39 rfl f_X3_9 (by decide +kernel) ((hK0 l 0).at rfl) (hX0 l 0 _ _ _ rfl) (J_bipush (pq := 44) dX3_startLine_42 rfl c_bipush_83 (J_virtF (pq := 47) dX3_startLine_44 rfl (j_ch hK hX hn (by omega) (by decide)) rfl tg_X6_add l_X3_42 vi_X6_add ((hK0 l 0).at rfl) ⟨by decide, rfl⟩ (Nat.le_of_ble_eq_true rfl) (Nat.zero_le _) (Nat.zero_le _) (Nat.le_of_ble_eq_true rfl) (?_))))
    refine J_aload_n (pq := 48) dX3_startLine_47 rfl rfl (J_getA (pq := 51) dX3_startLine_48 rfl f_X3_9 (by decide +kernel) ((hK0 _ _).at rfl) (hX0 _ _ _ _ _ rfl) (J_iload_n (pq := 52) dX3_startLine_51 rfl rfl (J_virtF (pq := 55) dX3_startLine_52 rfl (j_dig hK hX hn (by simp; omega) (by omega)) rfl tg_X6_addDigit l_X3_48 vi_X6_addDigit ((hK0 _ _).at rfl) ⟨by decide, rfl⟩ (Nat.le_of_ble_eq_true rfl) (Nat.zero_le _) (Nat.zero_le _) (Nat.le_of_ble_eq_true rfl) (?_))))
    refine J_aload_n (pq := 56) dX3_startLine_55 rfl rfl (J_iload (pq := 58) dX3_startLine_56 rfl rfl (J_iconst (pq := 59) dX3_startLine_58 rfl c_iconst_3 (J_iadd (pq := 60) dX3_startLine_59 rfl (?_))))
    rw [show (3 : Int32) = nI 3 from rfl, nI_add]
    refine J_virtF (pq := 63) dX3_startLine_60 rfl (j_byte hK hX hn (by simp; omega) (by omega)) rfl tg_X3_addByte l_X3_31 vi_X3_addByte ((hK0 _ _).at rfl) ⟨by decide, rfl⟩ (Nat.le_of_ble_eq_true rfl) (Nat.zero_le _) (Nat.zero_le _) (Nat.le_of_ble_eq_true rfl) (?_)
    refine J_aload_n (pq := 64) dX3_startLine_63 rfl rfl (J_iload_n (pq := 65) dX3_startLine_64 rfl rfl (J_virtF (pq := 68) dX3_startLine_65 rfl (j_addr hK hX hn (by simp [hbl]; omega) had) rfl tg_X3_addAddress l_X3_45 vi_X3_addAddress ((hK0 _ _).at rfl) ⟨by decide, rfl⟩ (Nat.le_of_ble_eq_true rfl) (Nat.zero_le _) (Nat.zero_le _) (Nat.le_of_ble_eq_true rfl) (J_vret dX3_startLine_68 rfl ?_)))
    refine ⟨rfl, ?_⟩
    unfold lnH lnP
    rw [if_neg (by omega), if_neg (by omega), show hexd kn = nI (48 + kn) from by unfold hexd; rw [if_pos hkn]]
    simp [List.flatMap_cons]
theorem lnC_1 {S : Nat} (hS : S < 1000000) : (0 - nI S) &&& 255 = nI (lnC 1 S) := by
  unfold lnC
  rw [if_pos rfl]
  by_cases h0 : S = 0
  · subst h0; decide
  · rw [show (0 : Int32) = nI 4294967296 from by decide, pk_sub (by omega), pk_andN (by omega) 8 rfl]
    congr 1
    omega
theorem lnC_2 {S : Nat} (hS : S < 1000000) : (255 - nI S) &&& 255 = nI (lnC 2 S) := by
  unfold lnC
  rw [if_neg (by omega)]
  by_cases h0 : S ≤ 255
  · rw [show nI S = nI S from rfl]
    conv => lhs; lhs; rw [show (255 : Int32) = nI 255 from rfl, pk_sub h0]
    rw [pk_andN (by omega) 8 rfl]
    congr 1
    omega
  · conv => lhs; lhs; rw [show (255 : Int32) = nI (4294967296 + 255) from by decide, pk_sub (by omega)]
    rw [pk_andN (by omega) 8 rfl]
    congr 1
    omega
theorem j_stop {l : List Int32} {S fm : Nat} {fI : Int32} (hfm : (fm = 1 ∧ fI = 1) ∨ (fm = 2 ∧ fI = 2)) (hK : Kin h) (hX : XR h) (hn : gi h 1 1 = nI n) (hl : n + l.length + 3 ≤ 400) (hS : S < 1000000) : JF x yX3_stopLine cX3_stopLine 2 none 3 0 0 [.ref 7, .int fI] (wT h l S) none (wT h (l ++ (byteL (lnC fm S) ++ [10])) (S + lnC fm S)) := by
  have hK0 : ∀ l S, Kin (wT h l S) := fun l S => wT_k hK
  have hX0 : ∀ l S, XR (wT h l S) := fun l S => wT_x hX
  have hbl : ∀ b, (byteL b).length = 2 := fun _ => rfl
  have hg : gi (wT h l S) 7 1 = nI S := by unfold wT; rw [gi_si, if_pos ⟨rfl, rfl⟩]
  refine JM_of [some (.ref 7), some (.int fI)] (by decide) (Nat.le_of_ble_eq_true rfl) rfl ?_
  rcases hfm with ⟨rfl, rfl⟩ | ⟨rfl, rfl⟩
  · refine J_aload_n (pq := 1) dX3_stopLine_0 rfl rfl (J_iload_n (pq := 2) dX3_stopLine_1 rfl rfl (J_iconst (pq := 3) dX3_stopLine_2 rfl c_iconst_1 (J_icmp_ne (pq := 6) (tgt := 10) dX3_stopLine_3 rfl rfl (fun c => ?_) (fun c => ?_))))
    · exact absurd rfl c
    refine J_iconst (pq := 7) dX3_stopLine_6 rfl c_iconst_0 (J_goto (tgt := 13) dX3_stopLine_7 rfl (J_aload_n (pq := 14) dX3_stopLine_13 rfl rfl (J_getI (pq := 17) dX3_stopLine_14 rfl f_X3_38 jsI ((hK0 l S).at rfl) (J_isub (pq := 18) dX3_stopLine_17 rfl (J_sipush (pq := 21) dX3_stopLine_18 rfl c_sipush_255 (J_iand (pq := 22) dX3_stopLine_21 rfl (?_)))))))
    rw [hg, lnC_1 hS]
    refine J_virtF (pq := 25) dX3_stopLine_22 rfl (j_byte hK hX hn (by omega) (lnC_lt _ _)) rfl tg_X3_addByte l_X3_31 vi_X3_addByte ((hK0 l S).at rfl) ⟨by decide, rfl⟩ (Nat.le_of_ble_eq_true rfl) (Nat.zero_le _) (Nat.zero_le _) (Nat.le_of_ble_eq_true rfl) (?_)
    refine J_aload_n (pq := 26) dX3_stopLine_25 rfl rfl (J_getA (pq := 29) dX3_stopLine_26 rfl f_X3_9 (by decide +kernel) ((hK0 _ _).at rfl) (hX0 _ _ _ _ _ rfl) (J_bipush (pq := 31) dX3_stopLine_29 rfl c_bipush_10 (J_virtF (pq := 34) dX3_stopLine_31 rfl (j_ch hK hX hn (by rw [List.length_append, hbl]; omega) (by decide)) rfl tg_X6_add l_X3_42 vi_X6_add ((hK0 _ _).at rfl) ⟨by decide, rfl⟩ (Nat.le_of_ble_eq_true rfl) (Nat.zero_le _) (Nat.zero_le _) (Nat.le_of_ble_eq_true rfl) (J_vret dX3_stopLine_34 rfl ?_))))
    exact ⟨rfl, by rw [List.append_assoc]⟩
  · refine J_aload_n (pq := 1) dX3_stopLine_0 rfl rfl (J_iload_n (pq := 2) dX3_stopLine_1 rfl rfl (J_iconst (pq := 3) dX3_stopLine_2 rfl c_iconst_1 (J_icmp_ne (pq := 6) (tgt := 10) dX3_stopLine_3 rfl rfl (fun c => ?_) (fun c => ?_))))
    rotate_left
    · exact absurd c (by decide)
    refine J_sipush (pq := 13) dX3_stopLine_10 rfl c_sipush_255 (J_aload_n (pq := 14) dX3_stopLine_13 rfl rfl (J_getI (pq := 17) dX3_stopLine_14 rfl f_X3_38 jsI ((hK0 l S).at rfl) (J_isub (pq := 18) dX3_stopLine_17 rfl (J_sipush (pq := 21) dX3_stopLine_18 rfl c_sipush_255 (J_iand (pq := 22) dX3_stopLine_21 rfl (?_))))))
    rw [hg, lnC_2 hS]
    refine J_virtF (pq := 25) dX3_stopLine_22 rfl (j_byte hK hX hn (by omega) (lnC_lt _ _)) rfl tg_X3_addByte l_X3_31 vi_X3_addByte ((hK0 l S).at rfl) ⟨by decide, rfl⟩ (Nat.le_of_ble_eq_true rfl) (Nat.zero_le _) (Nat.zero_le _) (Nat.le_of_ble_eq_true rfl) (?_)
    refine J_aload_n (pq := 26) dX3_stopLine_25 rfl rfl (J_getA (pq := 29) dX3_stopLine_26 rfl f_X3_9 (by decide +kernel) ((hK0 _ _).at rfl) (hX0 _ _ _ _ _ rfl) (J_bipush (pq := 31) dX3_stopLine_29 rfl c_bipush_10 (J_virtF (pq := 34) dX3_stopLine_31 rfl (j_ch hK hX hn (by rw [List.length_append, hbl]; omega) (by decide)) rfl tg_X6_add l_X3_42 vi_X6_add ((hK0 _ _).at rfl) ⟨by decide, rfl⟩ (Nat.le_of_ble_eq_true rfl) (Nat.zero_le _) (Nat.zero_le _) (Nat.le_of_ble_eq_true rfl) (J_vret dX3_stopLine_34 rfl ?_))))
    exact ⟨rfl, by rw [List.append_assoc]⟩
end E1
