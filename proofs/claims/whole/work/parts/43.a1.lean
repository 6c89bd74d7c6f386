-- the class: its own cells, small methods, the tape
/-- where the class's parts lie: cell and slot -/
def xrt (o k : Nat) : Option Nat := match o, k with
  | 0, 0 => some 1 | 0, 1 => some 3 | 0, 2 => some 4 | 0, 3 => some 5 | 0, 4 => some 7 | 0, 5 => some 8 | 0, 6 => some 11 | 0, 8 => some 12
  | 1, 0 => some 2 | 5, 0 => some 1 | 5, 1 => some 4 | 5, 2 => some 6 | 7, 0 => some 1 | 8, 0 => some 1 | 8, 1 => some 4 | 8, 5 => some 9 | 8, 6 => some 10
  | _, _ => none
def XR (h : JH) : Prop := ∀ o k a, xrt o k = some a → gr h o k = some a
theorem XR.of3 {h g : JH} (hX : XR h) (e : g.2.2 = h.2.2) : XR g := fun o k a hk => by
  show g.2.2.1 o k = some a
  rw [e]; exact hX o k a hk
/-- as JM_of, for a class of the library's names -/
theorem JM_ofF {x : JX} {y : MethodName} {cc : ByteArray} {nL : Nat} {rt : Option FieldType} {d k n : Nat} {as : List Value} {h : JH} {Q : Option Value → JH → Prop} (ls : List (Option Value)) (hy : plainFor y = true) (hl : (jargs as).length ≤ nL) (hls : jargs as ++ List.replicate (nL - (jargs as).length) none = ls) (kk : J x y cc nL rt d k n Q 0 ls [] h) : JM x y cc nL rt d k n as h Q := by
  intro l
  refine va_MetF (cc := cc) (maxL := nL) (ret := rt) hy rfl ?_
  intro p e s m args below meth c s₁ B hml hv
  obtain ⟨rfl, hT, hC⟩ := hv
  have hts := atoms_spec (ws := Cond.code y cc nL rt :: TBg) B.pre
  have hle : (lg_sl (as.map (mv x))).length ≤ nL := by rw [lg_sl_mv]; exact hl
  have hle2 := lv_entry (as.map (mv x)) (n := nL) hle
  rw [lg_entry_eq]
  refine kk p l e (jroom d k n) s m _ below meth c s.heap [] 0 0 k n _ ⟨B.exec, B.bytes, hml, B.returns, B.notSynchronized, (name_of_methodNamed B.named B.method).1, findClass_of_methodNamed B.named, fun w hw => hts w (List.mem_cons_of_mem _ hw), Nat.le_refl _, Nat.le_refl _, Nat.le_refl _, Nat.le_refl _, hT⟩ (by omega) (by omega) va_S.rf hC ⟨hle2.1, hle2.2.1, fun i v hi => ?_⟩
  rw [← hls] at hi
  have := jargs_in x _ as 0 i v hi
  rw [Nat.zero_add] at this
  exact hle2.2.2 _ this
section A1
variable {x : JX} {h : JH}
theorem j_X8_isWithin {v a b : Int32} : JF x yX8_isWithin cX8_isWithin 3 (some .boolean) 0 0 0 [.int v, .int a, .int b] h (some (.int (bi (isin v a b)))) h := by
  refine JM_of [some (.int v), some (.int a), some (.int b)] (by decide) (Nat.le_of_ble_eq_true rfl) rfl ?_
  refine J_iload_n (pq := 1) dX8_isWithin_0 rfl rfl (J_iload_n (pq := 2) dX8_isWithin_1 rfl rfl (J_icmp_lt (pq := 5) (tgt := 14) dX8_isWithin_2 rfl rfl (fun c => ?_) (fun c => ?_)))
  · refine J_iconst (pq := 15) dX8_isWithin_14 rfl c_iconst_0 (J_iret dX8_isWithin_15 rfl (by first | rfl | exact bi_nar _) ?_)
    exact ⟨by simp [isin, i_nle.mpr c, bi], rfl⟩
  · have c1 := i_nlt.mp c
    refine J_iload_n (pq := 6) dX8_isWithin_5 rfl rfl (J_iload_n (pq := 7) dX8_isWithin_6 rfl rfl (J_icmp_gt (pq := 10) (tgt := 14) dX8_isWithin_7 rfl rfl (fun c => ?_) (fun c => ?_)))
    · refine J_iconst (pq := 15) dX8_isWithin_14 rfl c_iconst_0 (J_iret dX8_isWithin_15 rfl (by first | rfl | exact bi_nar _) ?_)
      exact ⟨by simp [isin, i_nle.mpr c, bi], rfl⟩
    · refine J_iconst (pq := 11) dX8_isWithin_10 rfl c_iconst_1 (J_goto (tgt := 15) dX8_isWithin_11 rfl (J_iret dX8_isWithin_15 rfl (by first | rfl | exact bi_nar _) ?_))
      exact ⟨by simp [isin, c1, i_nlt.mp c, bi], rfl⟩
theorem j_X8_isPart {v w : Int32} : JF x yX8_isPart cX8_isPart 2 (some .boolean) 1 0 0 [.int v, .int w] h (some (.int (bi (isin v 0 255 && isin w 1 8)))) h := by
  refine JM_of [some (.int v), some (.int w)] (by decide) (Nat.le_of_ble_eq_true rfl) rfl ?_
  refine J_iload_n (pq := 1) dX8_isPart_0 rfl rfl (J_iconst (pq := 2) dX8_isPart_1 rfl c_iconst_0 (J_sipush (pq := 5) dX8_isPart_2 rfl c_sipush_255 (J_statF (pq := 8) dX8_isPart_5 rfl (j_X8_isWithin) rfl tg_X8_isWithin l_X8_87 st_X8_isWithin (Nat.le_of_ble_eq_true rfl) (Nat.zero_le _) (Nat.zero_le _) (Nat.le_of_ble_eq_true rfl) (J_if_eq (pq := 11) (tgt := 25) dX8_isPart_8 rfl rfl (fun c => ?_) (fun c => ?_)))))
  · rw [bi_0] at c
    refine J_iconst (pq := 26) dX8_isPart_25 rfl c_iconst_0 (J_iret dX8_isPart_26 rfl (by first | rfl | exact bi_nar _) ?_)
    exact ⟨by rw [c]; rfl, rfl⟩
  · rw [bi_0, Bool.not_eq_false] at c
    have c1 := c
    refine J_iload_n (pq := 12) dX8_isPart_11 rfl rfl (J_iconst (pq := 13) dX8_isPart_12 rfl c_iconst_1 (J_bipush (pq := 15) dX8_isPart_13 rfl c_bipush_8 (J_statF (pq := 18) dX8_isPart_15 rfl (j_X8_isWithin) rfl tg_X8_isWithin l_X8_87 st_X8_isWithin (Nat.le_of_ble_eq_true rfl) (Nat.zero_le _) (Nat.zero_le _) (Nat.le_of_ble_eq_true rfl) (J_if_eq (pq := 21) (tgt := 25) dX8_isPart_18 rfl rfl (fun c => ?_) (fun c => ?_)))))
    · rw [bi_0] at c
      refine J_iconst (pq := 26) dX8_isPart_25 rfl c_iconst_0 (J_iret dX8_isPart_26 rfl (by first | rfl | exact bi_nar _) ?_)
      exact ⟨by rw [c, Bool.and_false]; rfl, rfl⟩
    · rw [bi_0, Bool.not_eq_false] at c
      refine J_iconst (pq := 22) dX8_isPart_21 rfl c_iconst_1 (J_goto (tgt := 26) dX8_isPart_22 rfl (J_iret dX8_isPart_26 rfl (by first | rfl | exact bi_nar _) ?_))
      exact ⟨by rw [c, c1]; rfl, rfl⟩
theorem j_J9_max_7cf53 {a b : Int32} : JF x yJ9_max_7cf53 cJ9_max_7cf53 2 (some .int) 0 0 0 [.int a, .int b] h (some (.int (if a < b then b else a))) h := by
  refine JM_ofF [some (.int a), some (.int b)] (by decide +kernel) (Nat.le_of_ble_eq_true rfl) rfl ?_
  refine J_iload_n (pq := 1) dJ9_max_7cf53_0 rfl rfl (J_iload_n (pq := 2) dJ9_max_7cf53_1 rfl rfl (J_icmp_lt (pq := 5) (tgt := 9) dJ9_max_7cf53_2 rfl rfl (fun c => ?_) (fun c => ?_)))
  · refine J_iload_n (pq := 10) dJ9_max_7cf53_9 rfl rfl (J_iret dJ9_max_7cf53_10 rfl rfl ?_)
    exact ⟨by rw [if_pos c], rfl⟩
  · refine J_iload_n (pq := 6) dJ9_max_7cf53_5 rfl rfl (J_goto (tgt := 10) dJ9_max_7cf53_6 rfl (J_iret dJ9_max_7cf53_10 rfl rfl ?_))
    exact ⟨by rw [if_neg c], rfl⟩
theorem j_J9_min_7cf53 {a b : Int32} : JF x yJ9_min_7cf53 cJ9_min_7cf53 2 (some .int) 0 0 0 [.int a, .int b] h (some (.int (if b < a then b else a))) h := by
  refine JM_ofF [some (.int a), some (.int b)] (by decide +kernel) (Nat.le_of_ble_eq_true rfl) rfl ?_
  refine J_iload_n (pq := 1) dJ9_min_7cf53_0 rfl rfl (J_iload_n (pq := 2) dJ9_min_7cf53_1 rfl rfl (J_icmp_gt (pq := 5) (tgt := 9) dJ9_min_7cf53_2 rfl rfl (fun c => ?_) (fun c => ?_)))
  · refine J_iload_n (pq := 10) dJ9_min_7cf53_9 rfl rfl (J_iret dJ9_min_7cf53_10 rfl rfl ?_)
    exact ⟨by rw [if_pos c], rfl⟩
  · refine J_iload_n (pq := 6) dJ9_min_7cf53_5 rfl rfl (J_goto (tgt := 10) dJ9_min_7cf53_6 rfl (J_iret dJ9_min_7cf53_10 rfl rfl ?_))
    exact ⟨by rw [if_neg c], rfl⟩
theorem j_max {m n : Nat} (hm : m < 2147483648) (hn : n < 2147483648) : JF x yJ9_max_7cf53 cJ9_max_7cf53 2 (some .int) 0 0 0 [.int (nI m), .int (nI n)] h (some (.int (nI (max m n)))) h := by
  have e : (if nI m < nI n then nI n else nI m) = nI (max m n) := by
    by_cases q : nI m < nI n
    · rw [if_pos q]; rw [nI_ltI hm hn] at q; rw [show max m n = n by omega]
    · rw [if_neg q]; rw [nI_ltI hm hn] at q; rw [show max m n = m by omega]
  rw [← e]; exact j_J9_max_7cf53
theorem j_min {m n : Nat} (hm : m < 2147483648) (hn : n < 2147483648) : JF x yJ9_min_7cf53 cJ9_min_7cf53 2 (some .int) 0 0 0 [.int (nI m), .int (nI n)] h (some (.int (nI (min m n)))) h := by
  have e : (if nI n < nI m then nI n else nI m) = nI (min m n) := by
    by_cases q : nI n < nI m
    · rw [if_pos q]; rw [nI_ltI hn hm] at q; rw [show min m n = n by omega]
    · rw [if_neg q]; rw [nI_ltI hn hm] at q; rw [show min m n = m by omega]
  rw [← e]; exact j_J9_min_7cf53
theorem j_J9_max_f86c9 {a b : Int64} : JF x yJ9_max_f86c9 cJ9_max_f86c9 4 (some .long) 0 0 0 [.long a, .long b] h (some (.long (if lg_cmp a b < 0 then b else a))) h := by
  refine JM_ofF [some (.long a), none, some (.long b), none] (by decide +kernel) (Nat.le_of_ble_eq_true rfl) rfl ?_
  refine J_lload_n (pq := 1) dJ9_max_f86c9_0 rfl rfl (J_lload_n (pq := 2) dJ9_max_f86c9_1 rfl rfl (J_lcmp (pq := 3) dJ9_max_f86c9_2 rfl (J_if_lt (pq := 6) (tgt := 10) dJ9_max_f86c9_3 rfl rfl (fun c => ?_) (fun c => ?_))))
  · refine J_lload_n (pq := 11) dJ9_max_f86c9_10 rfl rfl (J_lret dJ9_max_f86c9_11 rfl ?_)
    exact ⟨by rw [if_pos c], rfl⟩
  · refine J_lload_n (pq := 7) dJ9_max_f86c9_6 rfl rfl (J_goto (tgt := 11) dJ9_max_f86c9_7 rfl (J_lret dJ9_max_f86c9_11 rfl ?_))
    exact ⟨by rw [if_neg c], rfl⟩
theorem j_J9_min_f86c9 {a b : Int64} : JF x yJ9_min_f86c9 cJ9_min_f86c9 4 (some .long) 0 0 0 [.long a, .long b] h (some (.long (if 0 < lg_cmp a b then b else a))) h := by
  refine JM_ofF [some (.long a), none, some (.long b), none] (by decide +kernel) (Nat.le_of_ble_eq_true rfl) rfl ?_
  refine J_lload_n (pq := 1) dJ9_min_f86c9_0 rfl rfl (J_lload_n (pq := 2) dJ9_min_f86c9_1 rfl rfl (J_lcmp (pq := 3) dJ9_min_f86c9_2 rfl (J_if_gt (pq := 6) (tgt := 10) dJ9_min_f86c9_3 rfl rfl (fun c => ?_) (fun c => ?_))))
  · refine J_lload_n (pq := 11) dJ9_min_f86c9_10 rfl rfl (J_lret dJ9_min_f86c9_11 rfl ?_)
    exact ⟨by rw [if_pos c], rfl⟩
  · refine J_lload_n (pq := 7) dJ9_min_f86c9_6 rfl rfl (J_goto (tgt := 11) dJ9_min_f86c9_7 rfl (J_lret dJ9_min_f86c9_11 rfl ?_))
    exact ⟨by rw [if_neg c], rfl⟩
theorem j_fill {a n : Nat} {v : Int32} (hA : (kd h)[a]? = some (50, n)) (hn : n ≤ 1000) : JF x yJ7_fill_53178 cJ7_fill_53178 4 none 0 0 0 [.ref a, .int v] h none (fillN h a n v) := by
  refine JM_ofF [some (.ref a), some (.int v), none, none] (by decide +kernel) (Nat.le_of_ble_eq_true rfl) rfl ?_
  refine J_iconst (pq := 1) dJ7_fill_53178_0 rfl c_iconst_0 (J_istore_m 2 (pq := 2) dJ7_fill_53178_1 rfl rfl (Nat.le_of_ble_eq_true rfl) (Nat.le_of_ble_eq_true rfl) rfl (J_aload_n (pq := 3) dJ7_fill_53178_2 rfl rfl (J_alen (pq := 4) dJ7_fill_53178_3 rfl hA (Or.inl rfl) rfl (J_istore_m 3 (pq := 5) dJ7_fill_53178_4 rfl rfl (Nat.le_of_ble_eq_true rfl) (Nat.le_of_ble_eq_true rfl) rfl (?_)))))
  refine J_loop (σ := Nat) (fun k => [some (.ref a), some (.int v), some (.int (nI k)), some (.int (nI n))]) (fun _ => []) (fun k => fillN h a k v) (fun k => k ≤ n) (fun k => n - k) 0 rfl rfl (fillN_0 h a v).symm (Nat.zero_le _) (fun k hk ih => ?_)
  have hA' : (kd (fillN h a k v))[a]? = some (50, n) := hA
  refine J_iload_n (pq := 6) dJ7_fill_53178_5 rfl rfl (J_iload_n (pq := 7) dJ7_fill_53178_6 rfl rfl (J_icmp_ge (pq := 10) (tgt := 20) dJ7_fill_53178_7 rfl rfl (fun c => ?_) (fun c => ?_)))
  · rw [nI_leI (by omega) (by omega)] at c
    refine J_vret dJ7_fill_53178_20 rfl ?_
    rw [show k = n by omega]
    exact ⟨rfl, rfl⟩
  · rw [nI_leI (by omega) (by omega)] at c
    have hb : vp_in (nI k) n := vp_in_nI (by omega) (by omega)
    refine J_aload_n (pq := 11) dJ7_fill_53178_10 rfl rfl (J_iload_n (pq := 12) dJ7_fill_53178_11 rfl rfl (J_iload_n (pq := 13) dJ7_fill_53178_12 rfl rfl (J_iast (pq := 14) dJ7_fill_53178_13 rfl hA' (by assumption) (J_iinc (pq := 17) dJ7_fill_53178_14 rfl c_iconst_1 rfl (Nat.le_of_ble_eq_true rfl) rfl (J_goto (tgt := 5) dJ7_fill_53178_17 rfl (?_))))))
    rw [nI_1, ixn (by omega), fillN_s]
    exact ih (k + 1) (by omega) (by omega)
-- the tape
theorem j_X6_size (hK : Kin h) : JF x yX6_size cX6_size 1 (some .int) 0 0 0 [.ref 1] h (some (.int (gi h 1 1))) h := by
  refine JM_of [some (.ref 1)] (by decide) (Nat.le_of_ble_eq_true rfl) rfl ?_
  refine J_aload_n (pq := 1) dX6_size_0 rfl rfl (J_getI (pq := 4) dX6_size_1 rfl f_X6_15 jsI (hK.at rfl) (J_iret dX6_size_4 rfl rfl ?_))
  exact ⟨rfl, rfl⟩
theorem j_X6_at {i : Int32} {n : Nat} (hK : Kin h) (hX : XR h) (hn : gi h 1 1 = nI n) (hn4 : n ≤ 400) : JF x yX6_at cX6_at 2 (some .int) 0 0 0 [.ref 1, .int i] h (some (.int (if isin i 0 (nI n - 1) then gi h 2 (ix i) else -1))) h := by
  refine JM_of [some (.ref 1), some (.int i)] (by decide) (Nat.le_of_ble_eq_true rfl) rfl ?_
  have hin : isin i 0 (nI n - 1) = true ↔ ∃ k, k < n ∧ i = nI k := isinN (by omega)
  refine J_iload_n (pq := 1) dX6_at_0 rfl rfl (J_if_lt (pq := 4) (tgt := 28) dX6_at_1 rfl rfl (fun c => ?_) (fun c => ?_))
  · refine J_iconst (pq := 29) dX6_at_28 rfl c_iconst_m1 (J_iret dX6_at_29 rfl rfl ?_)
    refine ⟨?_, rfl⟩
    rw [if_neg (fun q => by rw [isin_t] at q; have := q.1; rw [ti_lt] at c; simp at c this; omega)]
  · refine J_iload_n (pq := 5) dX6_at_4 rfl rfl (J_aload_n (pq := 6) dX6_at_5 rfl rfl (J_getI (pq := 9) dX6_at_6 rfl f_X6_15 jsI (hK.at rfl) (J_icmp_ge (pq := 12) (tgt := 28) dX6_at_9 rfl rfl (fun c => ?_) (fun c => ?_))))
    · rw [hn] at c
      refine J_iconst (pq := 29) dX6_at_28 rfl c_iconst_m1 (J_iret dX6_at_29 rfl rfl ?_)
      refine ⟨?_, rfl⟩
      rw [if_neg (fun q => by obtain ⟨k, hk, rfl⟩ := hin.mp q; rw [nI_leI (by omega) (by omega)] at c; omega)]
    · rw [hn] at c
      obtain ⟨k, hk31, rfl⟩ := nI_of (by assumption)
      rw [nI_leI (by omega) (by omega)] at c
      have c1 := c
      refine J_iload_n (pq := 13) dX6_at_12 rfl rfl (J_sipush (pq := 16) dX6_at_13 rfl c_sipush_400 (J_icmp_ge (pq := 19) (tgt := 28) dX6_at_16 rfl rfl (fun c => ?_) (fun c => ?_)))
      · rw [show (400 : Int32) = nI 400 from rfl, nI_leI (by omega) (by omega)] at c; omega
      · have hb : vp_in (nI k) 400 := vp_in_nI (by omega) (by omega)
        refine J_aload_n (pq := 20) dX6_at_19 rfl rfl (J_getA (pq := 23) dX6_at_20 rfl f_X6_9 (by decide +kernel) (hK.at rfl) (hX _ _ _ rfl) (J_iload_n (pq := 24) dX6_at_23 rfl rfl (J_iald (pq := 25) dX6_at_24 rfl (hK.at rfl) (by assumption) (J_goto (tgt := 29) dX6_at_25 rfl (J_iret dX6_at_29 rfl rfl ?_)))))
        refine ⟨?_, rfl⟩
        rw [if_pos (hin.mpr ⟨k, by omega, rfl⟩)]
/-- the byte at k of a text of n, or -1 -/
def tat (t : Nat → Int32) (n k : Nat) : Int32 := if k < n then t k else -1
theorem j_at {k n : Nat} (hK : Kin h) (hX : XR h) (hn : gi h 1 1 = nI n) (hn4 : n ≤ 400) (hk : k < 2147483648) : JF x yX6_at cX6_at 2 (some .int) 0 0 0 [.ref 1, .int (nI k)] h (some (.int (tat (gi h 2) n k))) h := by
  have := j_X6_at (x := x) (i := nI k) hK hX hn hn4
  have e : (if isin (nI k) 0 (nI n - 1) then gi h 2 (ix (nI k)) else -1) = tat (gi h 2) n k := by
    unfold tat
    by_cases q : k < n
    · rw [if_pos q, if_pos ((isinN (by omega)).mpr ⟨k, q, rfl⟩), ixn hk]
    · rw [if_neg q, if_neg (fun z => by obtain ⟨j, hj, e⟩ := (isinN (by omega)).mp z; rw [nI_eq hk (by omega)] at e; omega)]
  rw [e] at this
  exact this
theorem j_X6_cutTo {v : Int32} (hK : Kin h) : JF x yX6_cutTo cX6_cutTo 2 (some .boolean) 0 0 0 [.ref 1, .int v] h (some (.int (bi (isin v 0 (gi h 1 1))))) (if isin v 0 (gi h 1 1) then si h 1 1 v else h) := by
  refine JM_of [some (.ref 1), some (.int v)] (by decide) (Nat.le_of_ble_eq_true rfl) rfl ?_
  refine J_iload_n (pq := 1) dX6_cutTo_0 rfl rfl (J_if_lt (pq := 4) (tgt := 12) dX6_cutTo_1 rfl rfl (fun c => ?_) (fun c => ?_))
  · have q : isin v 0 (gi h 1 1) = false := by simp [isin, i_nle.mpr c]
    refine J_iconst (pq := 13) dX6_cutTo_12 rfl c_iconst_0 (J_iret dX6_cutTo_13 rfl (by first | rfl | exact bi_nar _) ?_)
    rw [q]; exact ⟨rfl, rfl⟩
  · have c1 := i_nlt.mp c
    refine J_iload_n (pq := 5) dX6_cutTo_4 rfl rfl (J_aload_n (pq := 6) dX6_cutTo_5 rfl rfl (J_getI (pq := 9) dX6_cutTo_6 rfl f_X6_15 jsI (hK.at rfl) (J_icmp_le (pq := 12) (tgt := 14) dX6_cutTo_9 rfl rfl (fun c => ?_) (fun c => ?_))))
    · have q : isin v 0 (gi h 1 1) = true := by simp [isin, c1, c]
      refine J_aload_n (pq := 15) dX6_cutTo_14 rfl rfl (J_iload_n (pq := 16) dX6_cutTo_15 rfl rfl (J_putI (pq := 19) dX6_cutTo_16 rfl f_X6_15 (Or.inl rfl) (hK.at rfl) (J_iconst (pq := 20) dX6_cutTo_19 rfl c_iconst_1 (J_iret dX6_cutTo_20 rfl (by first | rfl | exact bi_nar _) ?_))))
      rw [q]; exact ⟨rfl, rfl⟩
    · have q : isin v 0 (gi h 1 1) = false := by simp [isin, c]
      refine J_iconst (pq := 13) dX6_cutTo_12 rfl c_iconst_0 (J_iret dX6_cutTo_13 rfl (by first | rfl | exact bi_nar _) ?_)
      rw [q]; exact ⟨rfl, rfl⟩
def xAdd (h : JH) (b : Int32) : JH := si (si h 2 (ix (gi h 1 1)) (b &&& 255)) 1 1 (gi h 1 1 + 1)
theorem j_X6_add {v : Int32} {n : Nat} (hK : Kin h) (hX : XR h) (hn : gi h 1 1 = nI n) (hn4 : n < 400) : JF x yX6_add cX6_add 2 none 0 0 0 [.ref 1, .int v] h none (xAdd h v) := by
  refine JM_of [some (.ref 1), some (.int v)] (by decide) (Nat.le_of_ble_eq_true rfl) rfl ?_
  have hb : vp_in (gi h 1 1) 400 := by rw [hn]; exact vp_in_nI (by omega) (by omega)
  refine J_aload_n (pq := 1) dX6_add_0 rfl rfl (J_getI (pq := 4) dX6_add_1 rfl f_X6_15 jsI (hK.at rfl) (J_if_lt (pq := 7) (tgt := 41) dX6_add_4 rfl rfl (fun c => ?_) (fun c => ?_)))
  · rw [hn, show (0 : Int32) = nI 0 from rfl, nI_ltI (by omega) (by omega)] at c; omega
  · refine J_aload_n (pq := 8) dX6_add_7 rfl rfl (J_getI (pq := 11) dX6_add_8 rfl f_X6_15 jsI (hK.at rfl) (J_sipush (pq := 14) dX6_add_11 rfl c_sipush_400 (J_icmp_ge (pq := 17) (tgt := 41) dX6_add_14 rfl rfl (fun c => ?_) (fun c => ?_))))
    · rw [hn, show (400 : Int32) = nI 400 from rfl, nI_leI (by omega) (by omega)] at c; omega
    · refine J_aload_n (pq := 18) dX6_add_17 rfl rfl (J_getA (pq := 21) dX6_add_18 rfl f_X6_9 (by decide +kernel) (hK.at rfl) (hX _ _ _ rfl) (J_aload_n (pq := 22) dX6_add_21 rfl rfl (J_getI (pq := 25) dX6_add_22 rfl f_X6_15 jsI (hK.at rfl) (J_iload_n (pq := 26) dX6_add_25 rfl rfl (J_sipush (pq := 29) dX6_add_26 rfl c_sipush_255 (J_iand (pq := 30) dX6_add_29 rfl (J_iast (pq := 31) dX6_add_30 rfl (hK.at rfl) (by assumption) (J_aload_n (pq := 32) dX6_add_31 rfl rfl (J_dup (pq := 33) dX6_add_32 rfl rfl (J_getI (pq := 36) dX6_add_33 rfl f_X6_15 jsI (hK.at rfl) (J_iconst (pq := 37) dX6_add_36 rfl c_iconst_1 (J_iadd (pq := 38) dX6_add_37 rfl (J_putI (pq := 41) dX6_add_38 rfl f_X6_15 (Or.inl rfl) (hK.at rfl) (J_vret dX6_add_41 rfl ?_))))))))))))))
      exact ⟨rfl, rfl⟩
end A1
