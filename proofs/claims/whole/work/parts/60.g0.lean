-- System.arraycopy between two rows of ints, from 0 on
def cpyN (h : JH) (a0 a N : Nat) : JH := (fun o b => if o = a ∧ b < N then h.1 a0 b else h.1 o b, h.2)
theorem gi_cpyN (h : JH) (a0 a N o b : Nat) : gi (cpyN h a0 a N) o b = if o = a ∧ b < N then gi h a0 b else gi h o b := rfl
theorem lc_X2_29 : Cond.methodLink RX2 29 arraycopyName ∈ TBg := tb_mem 323 (by decide +kernel) rfl
theorem lc_st : Cond.static arraycopyName ∈ TBg := tb_mem 324 (by decide +kernel) rfl
theorem lc_nt : Cond.native arraycopyName ∈ TBg := tb_mem 325 (by decide +kernel) rfl
theorem lc_in : Cond.initialized "java/lang/System" ∈ TBg := tb_mem 86 (by decide +kernel) rfl
section G0
variable {x : JX} {y : MethodName} {cc : ByteArray} {nL : Nat} {rt : Option FieldType} {d ck cs : Nat} {Q : Option Value → JH → Prop} {pc pq : Nat} {ls : List (Option Value)} {st : List Value} {h : JH}
theorem J_copy {idx a0 a n0 n1 N : Nat} (hd : decode cc pc = .ok (.invokestatic idx, 3)) (hp : pc + 3 = pq) (hl : Cond.methodLink y.cls idx arraycopyName ∈ TBg) (ha0 : (kd h)[a0]? = some (50, n0)) (ha : (kd h)[a]? = some (50, n1)) (hN0 : N ≤ n0) (hN1 : N ≤ n1) (hN : N < 2147483648) (hdp : 1 ≤ d) (hst : (st.map fun v => v.category).sum ≤ 8) (kk : J x y cc nL rt d ck cs Q pq ls st (cpyN h a0 a N)) : J x y cc nL rt d ck cs Q pc ls (.int (nI N) :: .int 0 :: .ref a :: .int 0 :: .ref a0 :: st) h := by
  subst hp
  intro p l e R s m args below meth c H locs cells slots mc ms lsA E h1 h2 h3 h4 h5
  show W p l e R s m args below meth c H locs cells slots _ (F0 m pc lsA (.int (nI N) :: .int 0 :: mv x (.ref a) :: .int 0 :: mv x (.ref a0) :: st.map (mv x)))
  rw [mv_ref h4 ha, mv_ref h4 ha0]
  have hts := E.2.2.2.2.2.2.2.1
  have hR : d ≤ R.frames ∧ 60 * d ≤ R.locals := ⟨E.2.2.2.2.2.2.2.2.1, E.2.2.2.2.2.2.2.2.2.1⟩
  have c0 : H[xB x + a0]? = some (arrV (xA x 50) n0 (fun j => .int (gi h a0 j))) := jat_arr (by decide) (h4.2.2 a0 _ ha0)
  have c1 : H[xB x + a]? = some (arrV (xA x 50) n1 (fun j => .int (gi h a j))) := jat_arr (by decide) (h4.2.2 a _ ha)
  obtain ⟨-, k0, hk0, cm0, hkk0⟩ := (E.2.2.2.2.2.2.2.2.2.2.2.2.1.2 0 _ rfl).1 n0 (fun j => .int (gi h a0 j))
  obtain ⟨-, k1, hk1, cm1, hkk1⟩ := (E.2.2.2.2.2.2.2.2.2.2.2.2.1.2 0 _ rfl).1 n1 (fun j => .int (gi h a j))
  have tN : (nI N).toInt = N := nI_toInt hN
  have cN : (nI N).toNatClampNeg = N := nI_clamp hN
  intro T hT X
  obtain ⟨vm', X', step⟩ := X.arraycopy E.1 E.2.2.2.2.2.2.1 (hts _ hl) (hts _ lc_nt) (hts _ lc_st) (hts _ lc_in) (src := xB x + a0) (dst := xB x + a) (srcPos := 0) (destPos := 0) (n := nI N) (by rw [hT]; exact c0) (by rw [hT]; exact c1)
    (fun _ h => by cases h) (fun _ h => by cases h) (fun h => by cases h) (fun h => by cases h) hk0 hk1 hkk0 hkk1 (by simp [refKind]) (by decide) (by decide) (by rw [show (0 : Int32) = nI 0 from rfl, nI_ltI hN (by omega)]; omega)
    (by rw [tN, arrV_size]; simp; omega) (by rw [tN, arrV_size]; simp; omega)
    (fun vm₁ _ i hi => by
      rw [cN] at hi
      have e : (arrV (xA x 50) n0 (fun j => Value.int (gi h a0 j))).slots.getD ((0 : Int32).toNatClampNeg + i) .null = .int (gi h a0 i) := by
        rw [show (0 : Int32).toNatClampNeg + i = i from Nat.zero_add i, Array.getD_eq_getD_getElem?, arrV_read _ _ (by omega)]
        rfl
      rw [e]
      exact ⟨rfl, trivial⟩)
    (g := F0 m pc lsA (.int (nI N) :: .int 0 :: .ref (xB x + a) :: .int 0 :: .ref (xB x + a0) :: st.map (mv x))) rfl (by rw [E.2.2.1]; exact h5.1) (rest := st.map (mv x)) rfl (by rw [E.2.1]; exact hd) (by omega)
    (by
      rw [mv_cats]
      have e0 : (F0 m pc lsA (.int (nI N) :: .int 0 :: .ref (xB x + a) :: .int 0 :: .ref (xB x + a0) :: st.map (mv x))).monitorRoom = 0 := rfl
      have e1 : nativeFrameWords "java/lang/System" "arraycopy" 5 ≤ 40 := by decide
      rw [e0]; omega)
  have hcp : copied (arrV (xA x 50) n0 (fun j => Value.int (gi h a0 j))) (arrV (xA x 50) n1 (fun j => Value.int (gi h a j))) 0 0 (nI N) = arrV (xA x 50) n1 (fun j => .int (gi (cpyN h a0 a N) a j)) := by
    have := va_copied (fun z => Value.int z) (xA x 50) (xA x 50) (n0 := n0) (n1 := n1) (sp := (0 : Int32).toNatClampNeg) (dp := (0 : Int32).toNatClampNeg) (n := (nI N).toNatClampNeg) (gi h a0) (gi h a) (by rw [cN, show (0 : Int32).toNatClampNeg = 0 from rfl]; omega)
    refine Eq.trans this ?_
    congr 1
    funext j
    rw [cN, gi_cpyN]
    unfold va_cpy
    rw [show (0 : Int32).toNatClampNeg = 0 from rfl, Nat.zero_add, Nat.zero_add, Nat.sub_zero]
    by_cases hj : j < N
    · rw [if_pos ⟨Nat.zero_le _, hj⟩, if_pos ⟨rfl, hj⟩]
    · rw [if_neg (fun q => hj q.2), if_neg (fun q => hj q.2)]
  rw [hcp] at X' step
  have hlt : xB x + a < H.size := (Array.getElem?_eq_some_iff.mp c1).1
  have oq : ∀ q : Nat, q ≠ xB x + a → (H.setIfInBounds (xB x + a) (arrV (xA x 50) n1 (fun j => .int (gi (cpyN h a0 a N) a j))))[q]? = H[q]? := fun q hq => by simp [Array.getElem?_setIfInBounds, Ne.symm hq]
  have hh : ((T.setVm vm').setCell (xB x + a) (arrV (xA x 50) n1 (fun j => .int (gi (cpyN h a0 a N) a j)))).heap = H.setIfInBounds (xB x + a) (arrV (xA x 50) n1 (fun j => .int (gi (cpyN h a0 a N) a j))) := by rw [← hT]; rfl
  obtain ⟨t, a1, b1⟩ := kk p l e R s m args below meth c (H.setIfInBounds (xB x + a) (arrV (xA x 50) n1 (fun j => .int (gi (cpyN h a0 a N) a j)))) _ cells slots mc ms lsA E h1 h2 ⟨by simp; exact h3.1, fun q g1 g2 => by
      rw [oq q (fun e => g2 (by rw [e]; exact Nat.le_add_right _ _))]
      exact h3.2.1 q g1 g2, fun q hq => by
      rcases List.mem_append.mp hq with hz | hz
      · exact h3.2.2 q hz
      · obtain ⟨z, -, hz⟩ := List.mem_map.mp hz
        rw [← hz]
        exact Nat.le_add_right _ _⟩ (h4.set ha rfl (by simp) (jat_arr' (by decide) (by simp [Array.getElem?_setIfInBounds, hlt]; rfl)) oq (fun b hb s j => by
      have e1 : gi (cpyN h a0 a N) b j = gi h b j := by rw [gi_cpyN, if_neg (fun q => hb q.1)]
      match s with
      | 0 => show Value.int _ = Value.int _; rw [e1]
      | 1 => rfl
      | n + 2 => rfl)) h5 _ hh X'
  exact ⟨t, step t a1, b1⟩
end G0
