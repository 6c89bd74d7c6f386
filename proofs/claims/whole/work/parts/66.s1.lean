-- the strings that the class compares with
theorem ls_38 : Cond.fieldLink RJ0 38 "java/lang/String" "COMPACT_STRINGS" "Z" ∈ TBg := tb_mem 663 (by decide +kernel) rfl
theorem ls_1053 : Cond.fieldLink RJ0 1053 "jdk/internal/util/Preconditions" "SIOOBE_FORMATTER" "Ljava/util/function/BiFunction;" ∈ TBg := tb_mem 679 (by decide +kernel) rfl
theorem ls_9 : Cond.fieldLink RJ0 9 "java/lang/String" "value" "[B" ∈ TBg := tb_mem 1338 (by decide +kernel) rfl
theorem ls_15 : Cond.fieldLink RJ0 15 "java/lang/String" "coder" "B" ∈ TBg := tb_mem 1339 (by decide +kernel) rfl
theorem mv_s (x : JX) (k : Nat) : mv x (.ref (1000000000 + k)) = .ref (xE x k) := by
  show Value.ref (mr x (1000000000 + k)) = _
  unfold mr
  rw [if_neg (by omega), Nat.add_sub_cancel_left]
section S1
variable {x : JX} {y : MethodName} {cc : ByteArray} {nL : Nat} {rt : Option FieldType} {d ck cs : Nat} {Q : Option Value → JH → Prop} {pc pq : Nat} {ls : List (Option Value)} {st : List Value} {h : JH}
variable {y2 : MethodName} {cc2 : ByteArray} {nL2 : Nat} {rt2 : Option FieldType} {d2 k2 n2 : Nat} {Q2 : Option Value → JH → Prop}
theorem J_ldcS {idx k : Nat} {tx : String} (hd : decode cc pc = .ok (.ldc idx, 2)) (hp : pc + 2 = pq) (hy : y.cls = RX5) (hq : (idx, tx, k) ∈ strT) (kk : J x y cc nL rt d ck cs Q pq ls (.ref (1000000000 + (k + 1)) :: st) h) : J x y cc nL rt d ck cs Q pc ls st h := by
  subst hp
  intro p l e R s m args below meth c H locs cells slots mc ms lsA E h1 h2 h3 h4 h5
  have hJS : JS x s := E.2.2.2.2.2.2.2.2.2.2.2.2.2.2.2.2.2.2.2
  have hR := hJS.1 _ hq
  have := kk p l e R s m args below meth c H locs cells slots mc ms lsA E h1 h2 h3 h4 h5
  rw [List.map_cons, mv_s] at this
  exact va_ldcS E.1 E.2.1 (by rw [← hy]; exact E.2.2.2.2.2.2.1) hR hd this
theorem J_getV {k : Nat} (hk : k < 6) (hd : decode cc pc = .ok (.getfield 9, 3)) (hp : pc + 3 = pq) (hy : y.cls = RJ0) (kk : J x y cc nL rt d ck cs Q pq ls (.ref (1000000000 + (k + 7)) :: st) h) : J x y cc nL rt d ck cs Q pc ls (.ref (1000000000 + (k + 1)) :: st) h := by
  subst hp
  intro p l e R s m args below meth c H locs cells slots mc ms lsA E h1 h2 h3 h4 h5
  have hts := E.2.2.2.2.2.2.2.1
  have hJS : JS x s := E.2.2.2.2.2.2.2.2.2.2.2.2.2.2.2.2.2.2.2
  have hV := (hJS.2.1.1 k hk).2.2.1
  have hEV := hJS.2.2.2.2 k hk
  have := kk p l e R s m args below meth c H locs cells slots mc ms lsA E h1 h2 h3 h4 h5
  rw [List.map_cons, mv_s, hEV] at this
  rw [List.map_cons, mv_s]
  exact vk_getf E.1 E.2.1 hV h3 (by rw [← hy]; exact E.2.2.2.2.2.2.1) (hts _ ls_9) (fun _ z => z) hd this
theorem J_getC {k : Nat} (hk : k < 6) (hd : decode cc pc = .ok (.getfield 15, 3)) (hp : pc + 3 = pq) (hy : y.cls = RJ0) (kk : J x y cc nL rt d ck cs Q pq ls (.int 0 :: st) h) : J x y cc nL rt d ck cs Q pc ls (.ref (1000000000 + (k + 1)) :: st) h := by
  subst hp
  intro p l e R s m args below meth c H locs cells slots mc ms lsA E h1 h2 h3 h4 h5
  have hts := E.2.2.2.2.2.2.2.1
  have hJS : JS x s := E.2.2.2.2.2.2.2.2.2.2.2.2.2.2.2.2.2.2.2
  have hV := (hJS.2.1.1 k hk).2.1
  have := kk p l e R s m args below meth c H locs cells slots mc ms lsA E h1 h2 h3 h4 h5
  rw [List.map_cons, mv_s]
  exact vk_getf E.1 E.2.1 hV h3 (by rw [← hy]; exact E.2.2.2.2.2.2.1) (hts _ ls_15) (fun _ z => z) hd this
theorem J_getsC (hd : decode cc pc = .ok (.getstatic 38, 3)) (hp : pc + 3 = pq) (hy : y.cls = RJ0) (kk : J x y cc nL rt d ck cs Q pq ls (.int 1 :: st) h) : J x y cc nL rt d ck cs Q pc ls st h := by
  subst hp
  intro p l e R s m args below meth c H locs cells slots mc ms lsA E h1 h2 h3 h4 h5
  have hts := E.2.2.2.2.2.2.2.1
  have hJS : JS x s := E.2.2.2.2.2.2.2.2.2.2.2.2.2.2.2.2.2.2.2
  have := kk p l e R s m args below meth c H locs cells slots mc ms lsA E h1 h2 h3 h4 h5
  exact va_gets E.1 E.2.1 hJS.2.2.1 h3 (by rw [← hy]; exact E.2.2.2.2.2.2.1) (hts _ ls_38) (fun _ z => z) hd this
theorem J_getsF (hd : decode cc pc = .ok (.getstatic 1053, 3)) (hp : pc + 3 = pq) (hy : y.cls = RJ0) (kk : ∀ v : Value, (v = .null ∨ v = .ref (1000000000 + 13)) → J x y cc nL rt d ck cs Q pq ls (v :: st) h) : J x y cc nL rt d ck cs Q pc ls st h := by
  subst hp
  intro p l e R s m args below meth c H locs cells slots mc ms lsA E h1 h2 h3 h4 h5
  have hts := E.2.2.2.2.2.2.2.1
  have hJS : JS x s := E.2.2.2.2.2.2.2.2.2.2.2.2.2.2.2.2.2.2.2
  rcases hJS.2.2.2.1 with hz | hz
  · exact va_gets E.1 E.2.1 hz h3 (by rw [← hy]; exact E.2.2.2.2.2.2.1) (hts _ ls_1053) (fun _ z => z) hd (kk .null (Or.inl rfl) p l e R s m args below meth c H locs cells slots mc ms lsA E h1 h2 h3 h4 h5)
  · have := kk _ (Or.inr rfl) p l e R s m args below meth c H locs cells slots mc ms lsA E h1 h2 h3 h4 h5
    rw [List.map_cons, mv_s] at this
    exact va_gets E.1 E.2.1 hz h3 (by rw [← hy]; exact E.2.2.2.2.2.2.1) (hts _ ls_1053) (fun _ z => z) hd this
theorem J_alenS {k : Nat} (hk : k < 6) (hd : decode cc pc = .ok (.arraylength, 1)) (hp : pc + 1 = pq) (kk : J x y cc nL rt d ck cs Q pq ls (.int (nI (strL.getD k 0)) :: st) h) : J x y cc nL rt d ck cs Q pc ls (.ref (1000000000 + (k + 7)) :: st) h := by
  subst hp
  intro p l e R s m args below meth c H locs cells slots mc ms lsA E h1 h2 h3 h4 h5
  have hJS : JS x s := E.2.2.2.2.2.2.2.2.2.2.2.2.2.2.2.2.2.2.2
  have hV := (hJS.2.1.1 k hk).2.2.2
  rw [List.map_cons, mv_s, hJS.2.2.2.2 k hk]
  exact va_tlen E.1 E.2.1 hV h3 rfl hd (kk p l e R s m args below meth c H locs cells slots mc ms lsA E h1 h2 h3 h4 h5)
theorem J_baldS {k : Nat} {i : Int32} (hk : k < 6) (hd : decode cc pc = .ok (.baload, 1)) (hp : pc + 1 = pq) (hin : vp_in i (strL.getD k 0)) (kk : J x y cc nL rt d ck cs Q pq ls (.int ((strB.getD k []).getD (ix i) 0) :: st) h) : J x y cc nL rt d ck cs Q pc ls (.int i :: .ref (1000000000 + (k + 7)) :: st) h := by
  subst hp
  intro p l e R s m args below meth c H locs cells slots mc ms lsA E h1 h2 h3 h4 h5
  have hJS : JS x s := E.2.2.2.2.2.2.2.2.2.2.2.2.2.2.2.2.2.2.2
  have hV := (hJS.2.1.1 k hk).2.2.2
  rw [List.map_cons, List.map_cons, mv_s, hJS.2.2.2.2 k hk]
  exact va_tb E.1 E.2.1 hV h3 hin rfl hd (kk p l e R s m args below meth c H locs cells slots mc ms lsA E h1 h2 h3 h4 h5)
theorem J_i2c {a : Int32} (hd : decode cc pc = .ok (.i2c, 1)) (hp : pc + 1 = pq) (kk : J x y cc nL rt d ck cs Q pq ls (.int (a.toUInt32 % 65536).toInt32 :: st) h) : J x y cc nL rt d ck cs Q pc ls (.int a :: st) h := by
  subst hp
  intro p l e R s m args below meth c H locs cells slots mc ms lsA E h1 h2 h3 h4 h5
  exact lv_i2c E.1 E.2.1 hd rfl (kk p l e R s m args below meth c H locs cells slots mc ms lsA E h1 h2 h3 h4 h5)
/-- a call of a string's own method -/
theorem J_virtS {idx k : Nat} {as2 : List Value} {stk : List Value} {r : Option Value} (hk6 : k < 6) (hd : decode cc pc = .ok (.invokevirtual idx, 3)) (hp : pc + 3 = pq) (hM : JF x y2 cc2 nL2 rt2 d2 k2 n2 (.ref (1000000000 + (k + 1)) :: as2) h r h) (hs : stk = as2.reverse ++ .ref (1000000000 + (k + 1)) :: st) (hg : JTg y2 cc2 nL2 rt2 as2.length) (hl : JLk y.cls idx y2) (hv : Cond.instanceMethod y2 ∈ TBg ∧ Cond.selects y2.cls y2 y2 ∈ TBg) (hy2 : y2.cls = "java/lang/String") (hdp : d2 + 1 ≤ d) (hk : k2 ≤ ck) (hn : n2 ≤ cs) (hst : (st.map fun v => v.category).sum ≤ 8)
    (kk0 : J x y cc nL rt d (ck - k2) (cs - n2) Q pq ls (r.toList ++ st) h) : J x y cc nL rt d ck cs Q pc ls stk h := by
  have kk : ∀ (v : Option Value) (h' : JH), (v = r ∧ h' = h) → J x y cc nL rt d (ck - k2) (cs - n2) Q pq ls (v.toList ++ st) h' := fun v g q => by obtain ⟨rfl, rfl⟩ := q; exact kk0
  subst hp
  subst hs
  intro p l e R s m args below meth c H locs cells slots mc ms lsA E h1 h2 h3 h4 h5
  have hts := E.2.2.2.2.2.2.2.1
  have hR : d ≤ R.frames ∧ 60 * d ≤ R.locals ∧ mc ≤ R.cells ∧ ms ≤ R.slots := ⟨E.2.2.2.2.2.2.2.2.1, E.2.2.2.2.2.2.2.2.2.1, E.2.2.2.2.2.2.2.2.2.2.1, E.2.2.2.2.2.2.2.2.2.2.2.1⟩
  have hT : JT x s := E.2.2.2.2.2.2.2.2.2.2.2.2
  have hJS : JS x s := E.2.2.2.2.2.2.2.2.2.2.2.2.2.2.2.2.2.2.2
  obtain ⟨cell, q1, q2, q3⟩ := vk_recv hJS.2.1 hk6 h3
  have hPre : PreV s H y2.cls (xE x (k + 1)) (JPc x (.ref (1000000000 + (k + 1)) :: as2) h) (as2.map (mv x)) := by
    refine ⟨JPc.blind, ⟨cell, q1, q2, by rw [hy2]; exact q3⟩, fun U hU hW => ⟨?_, hT.call h3 hU hW, by rw [hU]; exact h4⟩⟩
    rw [List.map_cons, mv_s]
  have hstk : (as2.reverse ++ .ref (1000000000 + (k + 1)) :: st).map (mv x) = (as2.map (mv x)).reverse ++ .ref (xE x (k + 1)) :: st.map (mv x) := by
    rw [List.map_append, List.map_reverse, List.map_cons, mv_s]
  have hcat : 2 * (F0 m pc lsA ((as2.reverse ++ .ref (1000000000 + (k + 1)) :: st).map (mv x))).monitorRoom + ((st.map (mv x)).map fun v => v.category).sum ≤ 8 := lv_room (by rw [mv_cats]; exact hst)
  have hroom : (jroom d2 k2 n2).frames + 1 ≤ R.frames ∧ 8 + (nL2 + 11) + (jroom d2 k2 n2).locals ≤ R.locals := by
    have := hg.2.2.2
    constructor
    · show d2 + 1 ≤ R.frames; omega
    · show 8 + (nL2 + 11) + 60 * d2 ≤ R.locals; omega
  have hin := hts _ hv.1
  have hse := hts _ hv.2
  rcases hl with hl | ⟨host, hl⟩
  · exact J_after (k2 := k2) (n2 := n2) E h1 h2 h3 h5 hk hn (va_runV (As := as2.map (mv x)) (rest := st.map (mv x)) (b := xE x (k + 1)) (n := as2.length) ⟨E.1, E.2.1, E.2.2.1, E.2.2.2.2.2.2.1, hts⟩ (hM l) ⟨callB_of as2.length hts hg.good rfl rfl rfl (hts _ hg.2.1) (hts _ hl) hg.2.2.1 hroom, hin, hse⟩ hPre rfl (by rw [List.length_map]) h5.1 hstk hcat hd (by omega)) kk
  · exact J_after (k2 := k2) (n2 := n2) E h1 h2 h3 h5 hk hn (va_runVN (As := as2.map (mv x)) (rest := st.map (mv x)) (b := xE x (k + 1)) (n := as2.length) ⟨E.1, E.2.1, E.2.2.1, E.2.2.2.2.2.2.1, hts⟩ (hM l) ⟨va_cnB as2.length hts hg.good rfl rfl rfl (hT.2.1 _ hl rfl) (hts _ hg.2.1) hg.2.2.1 hroom, hin, hse⟩ hPre rfl (by rw [List.length_map]) h5.1 hstk hcat hd (by omega)) kk
end S1
section S2
variable {x : JX} {h : JH}
theorem j_coder {k : Nat} (hk : k < 6) : JF x yJ0_coder_7d493 cJ0_coder_7d493 1 (some .byte) 0 0 0 [.ref (1000000000 + (k + 1))] h (some (.int 0)) h := by
  refine JM_ofF [some (.ref (1000000000 + (k + 1)))] (by decide +kernel) (Nat.le_of_ble_eq_true rfl) rfl ?_
  refine J_getsC (pq := 3) dJ0_coder_7d493_0 rfl rfl ?_
  refine J_if_eq (pq := 6) (tgt := 13) dJ0_coder_7d493_3 rfl rfl (fun c => ?_) (fun c => ?_)
  · exact absurd c (by decide)
  · refine J_aload_n (pq := 7) dJ0_coder_7d493_6 rfl rfl (?_)
    refine J_getC hk (pq := 10) dJ0_coder_7d493_7 rfl rfl ?_
    refine J_goto (tgt := 14) dJ0_coder_7d493_10 rfl (J_iret dJ0_coder_7d493_14 rfl rfl ?_)
    exact ⟨rfl, rfl⟩
theorem j_slen {k : Nat} (hk : k < 6) : JF x yJ0_length_8abf5 cJ0_length_8abf5 1 (some .int) 1 0 0 [.ref (1000000000 + (k + 1))] h (some (.int (nI (strL.getD k 0)))) h := by
  refine JM_ofF [some (.ref (1000000000 + (k + 1)))] (by decide +kernel) (Nat.le_of_ble_eq_true rfl) rfl ?_
  refine J_aload_n (pq := 1) dJ0_length_8abf5_0 rfl rfl (?_)
  refine J_getV hk (pq := 4) dJ0_length_8abf5_1 rfl rfl ?_
  refine J_alenS hk (pq := 5) dJ0_length_8abf5_4 rfl ?_
  refine J_aload_n (pq := 6) dJ0_length_8abf5_5 rfl rfl (?_)
  refine J_virtS hk (pq := 9) dJ0_length_8abf5_6 rfl (j_coder hk) rfl tg_J0_coder_7d493 l_J0_335 vi_J0_coder_7d493 rfl (Nat.le_of_ble_eq_true rfl) (Nat.zero_le _) (Nat.zero_le _) (Nat.le_of_ble_eq_true rfl) ?_
  refine J_ishr (pq := 10) dJ0_length_8abf5_9 rfl (J_iret dJ0_length_8abf5_10 rfl rfl ?_)
  exact ⟨by rw [sc_shr0 (by
    have : ∀ k : Fin 6, strL.getD k.val 0 < 100 := by decide
    have := this ⟨k, hk⟩
    simp only at this
    omega)], rfl⟩
theorem j_isLatin {k : Nat} (hk : k < 6) : JF x yJ0_isLatin1_aae02 cJ0_isLatin1_aae02 1 (some .boolean) 0 0 0 [.ref (1000000000 + (k + 1))] h (some (.int 1)) h := by
  refine JM_ofF [some (.ref (1000000000 + (k + 1)))] (by decide +kernel) (Nat.le_of_ble_eq_true rfl) rfl ?_
  refine J_getsC (pq := 3) dJ0_isLatin1_aae02_0 rfl rfl ?_
  refine J_if_eq (pq := 6) (tgt := 17) dJ0_isLatin1_aae02_3 rfl rfl (fun c => ?_) (fun c => ?_)
  · exact absurd c (by decide)
  · refine J_aload_n (pq := 7) dJ0_isLatin1_aae02_6 rfl rfl (?_)
    refine J_getC hk (pq := 10) dJ0_isLatin1_aae02_7 rfl rfl ?_
    refine J_if_ne (pq := 13) (tgt := 17) dJ0_isLatin1_aae02_10 rfl rfl (fun c => ?_) (fun c => ?_)
    · exact absurd rfl c
    · refine J_iconst (pq := 14) dJ0_isLatin1_aae02_13 rfl c_iconst_1 (J_goto (tgt := 18) dJ0_isLatin1_aae02_14 rfl (J_iret dJ0_isLatin1_aae02_18 rfl (by first | rfl | exact bi_nar _) ?_))
      exact ⟨rfl, rfl⟩
theorem j_check3 {i n : Nat} {v : Value} (hv : v = .null ∨ v = .ref (1000000000 + 13)) (hi : i < n) (hn : n < 100000) : JF x yJ3_checkIndex_8e157 cJ3_checkIndex_8e157 3 (some .int) 0 0 0 [.int (nI i), .int (nI n), v] h (some (.int (nI i))) h := by
  refine JM_ofF [some (.int (nI i)), some (.int (nI n)), some v] (by decide +kernel) (by rcases hv with rfl | rfl <;> exact Nat.le_of_ble_eq_true rfl) (by rcases hv with rfl | rfl <;> rfl) ?_
  refine J_iload_n (pq := 1) dJ3_checkIndex_8e157_0 rfl rfl (J_if_lt (pq := 4) (tgt := 9) dJ3_checkIndex_8e157_1 rfl rfl (fun c => ?_) (fun c => ?_))
  · rw [show (0 : Int32) = nI 0 from rfl, nI_ltI (by omega) (by omega)] at c; omega
  · refine J_iload_n (pq := 5) dJ3_checkIndex_8e157_4 rfl rfl (J_iload_n (pq := 6) dJ3_checkIndex_8e157_5 rfl rfl (J_icmp_lt (pq := 9) (tgt := 16) dJ3_checkIndex_8e157_6 rfl rfl (fun c => ?_) (fun c => ?_)))
    · refine J_iload_n (pq := 17) dJ3_checkIndex_8e157_16 rfl rfl (J_iret dJ3_checkIndex_8e157_17 rfl rfl ?_)
      exact ⟨rfl, rfl⟩
    · rw [nI_ltI (by omega) (by omega)] at c; omega
theorem j_check {i n : Nat} (hi : i < n) (hn : n < 100000) : JF x yJ0_checkIndex_df160 cJ0_checkIndex_df160 2 none 1 0 0 [.int (nI i), .int (nI n)] h none h := by
  refine JM_ofF [some (.int (nI i)), some (.int (nI n))] (by decide +kernel) (Nat.le_of_ble_eq_true rfl) rfl ?_
  refine J_iload_n (pq := 1) dJ0_checkIndex_df160_0 rfl rfl (J_iload_n (pq := 2) dJ0_checkIndex_df160_1 rfl rfl (?_))
  refine J_getsF (pq := 5) dJ0_checkIndex_df160_2 rfl rfl (fun v hv => ?_)
  refine J_statF (pq := 8) dJ0_checkIndex_df160_5 rfl (j_check3 hv hi hn) rfl tg_J3_checkIndex_8e157 l_J0_1059 st_J3_checkIndex_8e157 (Nat.le_of_ble_eq_true rfl) (Nat.zero_le _) (Nat.zero_le _) (Nat.le_of_ble_eq_true rfl) (J_pop (pq := 9) dJ0_checkIndex_df160_8 rfl rfl (J_vret dJ0_checkIndex_df160_9 rfl ?_))
  exact ⟨rfl, rfl⟩
theorem j_chAt1 {k i : Nat} (hk : k < 6) (hi : i < strL.getD k 0) : JF x yJ1_charAt_3b067 cJ1_charAt_3b067 2 (some .char) 2 0 0 [.ref (1000000000 + (k + 7)), .int (nI i)] h (some (.int ((strB.getD k []).getD i 0))) h := by
  have hL : strL.getD k 0 < 100 := by
    have : ∀ k : Fin 6, strL.getD k.val 0 < 100 := by decide
    exact this ⟨k, hk⟩
  refine JM_ofF [some (.ref (1000000000 + (k + 7))), some (.int (nI i))] (by decide +kernel) (Nat.le_of_ble_eq_true rfl) rfl ?_
  refine J_iload_n (pq := 1) dJ1_charAt_3b067_0 rfl rfl (J_aload_n (pq := 2) dJ1_charAt_3b067_1 rfl rfl (?_))
  refine J_alenS hk (pq := 3) dJ1_charAt_3b067_2 rfl ?_
  refine J_statF (pq := 6) dJ1_charAt_3b067_3 rfl (j_check hi (by omega)) rfl tg_J0_checkIndex_df160 l_J1_9 st_J0_checkIndex_df160 (Nat.le_of_ble_eq_true rfl) (Nat.zero_le _) (Nat.zero_le _) (Nat.le_of_ble_eq_true rfl) (J_aload_n (pq := 7) dJ1_charAt_3b067_6 rfl rfl (J_iload_n (pq := 8) dJ1_charAt_3b067_7 rfl rfl (?_)))
  refine J_baldS hk (pq := 9) dJ1_charAt_3b067_8 rfl (vp_in_nI hi (by omega)) ?_
  rw [ixn (by omega)]
  refine J_sipush (pq := 12) dJ1_charAt_3b067_9 rfl c_sipush_255 (J_iand (pq := 13) dJ1_charAt_3b067_12 rfl (?_))
  refine J_i2c (pq := 14) dJ1_charAt_3b067_13 rfl ?_
  have e : ((((strB.getD k []).getD i 0) &&& 255).toUInt32 % 65536).toInt32 = (strB.getD k []).getD i 0 ∧ narrow .char (.int ((strB.getD k []).getD i 0)) = .int ((strB.getD k []).getD i 0) := by
    have : ∀ k : Fin 6, ∀ i : Fin 6, ((((strB.getD k.val []).getD i.val 0) &&& 255).toUInt32 % 65536).toInt32 = (strB.getD k.val []).getD i.val 0 ∧ narrow .char (.int ((strB.getD k.val []).getD i.val 0)) = .int ((strB.getD k.val []).getD i.val 0) := by decide
    have hi6 : i < 6 := by
      have : ∀ k : Fin 6, strL.getD k.val 0 ≤ 6 := by decide
      have := this ⟨k, hk⟩
      simp only at this
      omega
    exact this ⟨k, hk⟩ ⟨i, hi6⟩
  rw [e.1]
  refine J_iret dJ1_charAt_3b067_14 rfl e.2 ?_
  exact ⟨rfl, rfl⟩
theorem j_chAt {k i : Nat} (hk : k < 6) (hi : i < strL.getD k 0) : JF x yJ0_charAt_5068e cJ0_charAt_5068e 2 (some .char) 3 0 0 [.ref (1000000000 + (k + 1)), .int (nI i)] h (some (.int ((strB.getD k []).getD i 0))) h := by
  refine JM_ofF [some (.ref (1000000000 + (k + 1))), some (.int (nI i))] (by decide +kernel) (Nat.le_of_ble_eq_true rfl) rfl ?_
  refine J_aload_n (pq := 1) dJ0_charAt_5068e_0 rfl rfl (?_)
  refine J_virtS hk (pq := 4) dJ0_charAt_5068e_1 rfl (j_isLatin hk) rfl tg_J0_isLatin1_aae02 l_J0_492 vi_J0_isLatin1_aae02 rfl (Nat.le_of_ble_eq_true rfl) (Nat.zero_le _) (Nat.zero_le _) (Nat.le_of_ble_eq_true rfl) ?_
  refine J_if_eq (pq := 7) (tgt := 16) dJ0_charAt_5068e_4 rfl rfl (fun c => ?_) (fun c => ?_)
  · exact absurd c (by decide)
  · refine J_aload_n (pq := 8) dJ0_charAt_5068e_7 rfl rfl (?_)
    refine J_getV hk (pq := 11) dJ0_charAt_5068e_8 rfl rfl ?_
    refine J_iload_n (pq := 12) dJ0_charAt_5068e_11 rfl rfl (J_statF (pq := 15) dJ0_charAt_5068e_12 rfl (j_chAt1 hk hi) rfl tg_J1_charAt_3b067 l_J0_495 st_J1_charAt_3b067 (Nat.le_of_ble_eq_true rfl) (Nat.zero_le _) (Nat.zero_le _) (Nat.le_of_ble_eq_true rfl) (?_))
    have e : narrow .char (.int ((strB.getD k []).getD i 0)) = .int ((strB.getD k []).getD i 0) := by
      have : ∀ k : Fin 6, ∀ i : Fin 6, narrow .char (.int ((strB.getD k.val []).getD i.val 0)) = .int ((strB.getD k.val []).getD i.val 0) := by decide
      have hi6 : i < 6 := by
        have : ∀ k : Fin 6, strL.getD k.val 0 ≤ 6 := by decide
        have := this ⟨k, hk⟩
        simp only at this
        omega
      exact this ⟨k, hk⟩ ⟨i, hi6⟩
    refine J_iret dJ0_charAt_5068e_15 rfl e ?_
    exact ⟨rfl, rfl⟩
end S2
