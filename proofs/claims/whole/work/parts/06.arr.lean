section JAR
variable {x : JX} {y : MethodName} {cc : ByteArray} {nL : Nat} {rt : Option FieldType} {d ck cs : Nat} {Q : Option Value → JH → Prop} {pc pq : Nat} {ls : List (Option Value)} {st : List Value} {h : JH}
abbrev ix (i : Int32) : Nat := i.toNatClampNeg
theorem ss50 : ssort 50 0 = 0 := rfl
theorem ss51 : ssort 51 0 = 1 := rfl
theorem ss52 : ssort 52 0 = 0 := rfl
theorem ss53 : ssort 53 0 = 2 := rfl
theorem ss54 : ssort 54 0 = 2 := rfl
theorem arrV_in {cI : ClassId} {n : Nat} {f : Nat → Value} {i : Int32} (hin : vp_in i n) : ¬ (i < 0 ∨ (arrV cI n f).slots.size ≤ i.toNatClampNeg) := by rw [arrV_size]; exact hin
theorem arrV_at {cI : ClassId} {n : Nat} {f : Nat → Value} {i : Int32} (hin : vp_in i n) : (arrV cI n f).slots[i.toNatClampNeg]? = some (f i.toNatClampNeg) := arrV_read _ _ (Nat.not_le.mp fun q => hin (Or.inr q))
theorem J_iald {a n : Nat} {i : Int32} (hd : decode cc pc = .ok (.iaload, 1)) (hp : pc + 1 = pq) (ha : (kd h)[a]? = some (50, n)) (hin : vp_in i n) (kk : J x y cc nL rt d ck cs Q pq ls (.int (gi h a (ix i)) :: st) h) : J x y cc nL rt d ck cs Q pc ls (.int i :: .ref a :: st) h := by
  subst hp
  intro p l e R s m args below meth c H locs cells slots mc ms lsA E h1 h2 h3 h4 h5
  show W p l e R s m args below meth c H locs cells slots _ (F0 m pc lsA (.int i :: mv x (.ref a) :: st.map (mv x)))
  rw [mv_ref h4 ha]
  exact W.iald E.1 E.2.1 (jat_arr (by decide) (h4.2.2 a _ ha)) ((E.2.2.2.2.2.2.2.2.2.2.2.2.1.2 0 _ rfl).1 n _) (fun q => by cases q) (arrV_in hin) (arrV_at hin) rfl rfl hd (kk p l e R s m args below meth c H locs cells slots mc ms lsA E h1 h2 h3 h4 h5)
theorem J_lald {a n : Nat} {i : Int32} (hd : decode cc pc = .ok (.laload, 1)) (hp : pc + 1 = pq) (ha : (kd h)[a]? = some (51, n)) (hin : vp_in i n) (kk : J x y cc nL rt d ck cs Q pq ls (.long (gl h a (ix i)) :: st) h) : J x y cc nL rt d ck cs Q pc ls (.int i :: .ref a :: st) h := by
  subst hp
  intro p l e R s m args below meth c H locs cells slots mc ms lsA E h1 h2 h3 h4 h5
  show W p l e R s m args below meth c H locs cells slots _ (F0 m pc lsA (.int i :: mv x (.ref a) :: st.map (mv x)))
  rw [mv_ref h4 ha]
  exact W.lald E.1 E.2.1 (jat_arr (by decide) (h4.2.2 a _ ha)) ((E.2.2.2.2.2.2.2.2.2.2.2.2.1.2 1 _ rfl).1 n _) (fun q => by cases q) (arrV_in hin) (arrV_at hin) rfl rfl hd (kk p l e R s m args below meth c H locs cells slots mc ms lsA E h1 h2 h3 h4 h5)
theorem J_zald {a n : Nat} {i : Int32} (hd : decode cc pc = .ok (.baload, 1)) (hp : pc + 1 = pq) (ha : (kd h)[a]? = some (52, n)) (hin : vp_in i n) (kk : J x y cc nL rt d ck cs Q pq ls (.int (gi h a (ix i)) :: st) h) : J x y cc nL rt d ck cs Q pc ls (.int i :: .ref a :: st) h := by
  subst hp
  intro p l e R s m args below meth c H locs cells slots mc ms lsA E h1 h2 h3 h4 h5
  show W p l e R s m args below meth c H locs cells slots _ (F0 m pc lsA (.int i :: mv x (.ref a) :: st.map (mv x)))
  rw [mv_ref h4 ha]
  exact W.zald E.1 E.2.1 (jat_arr (by decide) (h4.2.2 a _ ha)) ((E.2.2.2.2.2.2.2.2.2.2.2.2.1.2 2 _ rfl).1 n _) (fun q => by cases q) (arrV_in hin) (arrV_at hin) rfl rfl hd (kk p l e R s m args below meth c H locs cells slots mc ms lsA E h1 h2 h3 h4 h5)
/-- rows of references: kind 53 or 54 -/
theorem J_aald {a n q : Nat} {i : Int32} {r : Option Nat} (hq : q = 53 ∨ q = 54) (hd : decode cc pc = .ok (.aaload, 1)) (hp : pc + 1 = pq) (ha : (kd h)[a]? = some (q, n)) (hin : vp_in i n) (hr : gr h a (ix i) = r) (kk : J x y cc nL rt d ck cs Q pq ls (va_rf r :: st) h) : J x y cc nL rt d ck cs Q pc ls (.int i :: .ref a :: st) h := by
  subst hp
  subst hr
  intro p l e R s m args below meth c H locs cells slots mc ms lsA E h1 h2 h3 h4 h5
  show W p l e R s m args below meth c H locs cells slots _ (F0 m pc lsA (.int i :: mv x (.ref a) :: st.map (mv x)))
  rw [mv_ref h4 ha]
  rcases hq with rfl | rfl
  · exact W.aald (ty := .object RX0) E.1 E.2.1 (jat_arr (by decide) (h4.2.2 a _ ha)) ((E.2.2.2.2.2.2.2.2.2.2.2.2.1.2 3 _ rfl).1 n _) rfl (fun q => by cases q) (arrV_in hin) (arrV_at hin) rfl rfl hd (kk p l e R s m args below meth c H locs cells slots mc ms lsA E h1 h2 h3 h4 h5)
  · exact W.aald (ty := .object RX4) E.1 E.2.1 (jat_arr (by decide) (h4.2.2 a _ ha)) ((E.2.2.2.2.2.2.2.2.2.2.2.2.1.2 4 _ rfl).1 n _) rfl (fun q => by cases q) (arrV_in hin) (arrV_at hin) rfl rfl hd (kk p l e R s m args below meth c H locs cells slots mc ms lsA E h1 h2 h3 h4 h5)
theorem J_iast {a n : Nat} {i v : Int32} (hd : decode cc pc = .ok (.iastore, 1)) (hp : pc + 1 = pq) (ha : (kd h)[a]? = some (50, n)) (hin : vp_in i n) (kk : J x y cc nL rt d ck cs Q pq ls st (si h a (ix i) v)) : J x y cc nL rt d ck cs Q pc ls (.int v :: .int i :: .ref a :: st) h := by
  subst hp
  intro p l e R s m args below meth c H locs cells slots mc ms lsA E h1 h2 h3 h4 h5
  show W p l e R s m args below meth c H locs cells slots _ (F0 m pc lsA (.int v :: .int i :: mv x (.ref a) :: st.map (mv x)))
  rw [mv_ref h4 ha]
  refine W.iast E.1 E.2.1 (jat_arr (by decide) (h4.2.2 a _ ha)) ((E.2.2.2.2.2.2.2.2.2.2.2.2.1.2 0 _ rfl).1 n _) (fun q => by cases q) (arrV_in hin) rfl rfl hd fun H' e1 e2 e3 => ?_
  refine kk p l e R s m args below meth c H' _ cells slots mc ms lsA E h1 h2 (h3.put e2 e3 (Nat.le_add_right _ _)) ?_ h5
  refine h4.set ha rfl e2 (jat_arr' (by decide) ?_) e3 (fun b hb s j => by rw [jval_si, if_neg (fun a => hb a.2.1)])
  rw [e1, arrV_store]
  congr 2
  funext j
  rw [ss50, jval_si]
  unfold updV
  by_cases hj : j = i.toNatClampNeg
  · rw [if_pos hj, if_pos ⟨rfl, rfl, hj⟩]
  · rw [if_neg hj, if_neg (fun a => hj a.2.2)]
theorem J_last {a n : Nat} {i : Int32} {v : Int64} (hd : decode cc pc = .ok (.lastore, 1)) (hp : pc + 1 = pq) (ha : (kd h)[a]? = some (51, n)) (hin : vp_in i n) (kk : J x y cc nL rt d ck cs Q pq ls st (sl h a (ix i) v)) : J x y cc nL rt d ck cs Q pc ls (.long v :: .int i :: .ref a :: st) h := by
  subst hp
  intro p l e R s m args below meth c H locs cells slots mc ms lsA E h1 h2 h3 h4 h5
  show W p l e R s m args below meth c H locs cells slots _ (F0 m pc lsA (.long v :: .int i :: mv x (.ref a) :: st.map (mv x)))
  rw [mv_ref h4 ha]
  refine W.last E.1 E.2.1 (jat_arr (by decide) (h4.2.2 a _ ha)) ((E.2.2.2.2.2.2.2.2.2.2.2.2.1.2 1 _ rfl).1 n _) (fun q => by cases q) (arrV_in hin) rfl rfl hd fun H' e1 e2 e3 => ?_
  refine kk p l e R s m args below meth c H' _ cells slots mc ms lsA E h1 h2 (h3.put e2 e3 (Nat.le_add_right _ _)) ?_ h5
  refine h4.set ha rfl e2 (jat_arr' (by decide) ?_) e3 (fun b hb s j => by rw [jval_sl, if_neg (fun a => hb a.2.1)])
  rw [e1, arrV_store]
  congr 2
  funext j
  rw [ss51, jval_sl]
  unfold updV
  by_cases hj : j = i.toNatClampNeg
  · rw [if_pos hj, if_pos ⟨rfl, rfl, hj⟩]
  · rw [if_neg hj, if_neg (fun a => hj a.2.2)]
theorem J_zast {a n : Nat} {i v : Int32} (hd : decode cc pc = .ok (.bastore, 1)) (hp : pc + 1 = pq) (ha : (kd h)[a]? = some (52, n)) (hin : vp_in i n) (kk : J x y cc nL rt d ck cs Q pq ls st (si h a (ix i) (v &&& 1))) : J x y cc nL rt d ck cs Q pc ls (.int v :: .int i :: .ref a :: st) h := by
  subst hp
  intro p l e R s m args below meth c H locs cells slots mc ms lsA E h1 h2 h3 h4 h5
  show W p l e R s m args below meth c H locs cells slots _ (F0 m pc lsA (.int v :: .int i :: mv x (.ref a) :: st.map (mv x)))
  rw [mv_ref h4 ha]
  refine W.zast E.1 E.2.1 (jat_arr (by decide) (h4.2.2 a _ ha)) ((E.2.2.2.2.2.2.2.2.2.2.2.2.1.2 2 _ rfl).1 n _) (fun q => by cases q) (arrV_in hin) rfl rfl hd fun H' e1 e2 e3 => ?_
  refine kk p l e R s m args below meth c H' _ cells slots mc ms lsA E h1 h2 (h3.put e2 e3 (Nat.le_add_right _ _)) ?_ h5
  refine h4.set ha rfl e2 (jat_arr' (by decide) ?_) e3 (fun b hb s j => by rw [jval_si, if_neg (fun a => hb a.2.1)])
  rw [e1, arrV_store]
  congr 2
  funext j
  rw [ss52, jval_si]
  unfold updV
  by_cases hj : j = i.toNatClampNeg
  · rw [if_pos hj, if_pos ⟨rfl, rfl, hj⟩]; rfl
  · rw [if_neg hj, if_neg (fun a => hj a.2.2)]
theorem J_aast {a n q ci r N : Nat} {i : Int32} (hq : (q = 53 ∧ ci = 0) ∨ (q = 54 ∧ ci = 4)) (hd : decode cc pc = .ok (.aastore, 1)) (hp : pc + 1 = pq) (ha : (kd h)[a]? = some (q, n)) (hr : (kd h)[r]? = some (ci, N)) (hin : vp_in i n) (kk : J x y cc nL rt d ck cs Q pq ls st (sr h a (ix i) (some r))) : J x y cc nL rt d ck cs Q pc ls (.ref r :: .int i :: .ref a :: st) h := by
  subst hp
  intro p l e R s m args below meth c H locs cells slots mc ms lsA E h1 h2 h3 h4 h5
  show W p l e R s m args below meth c H locs cells slots _ (F0 m pc lsA (mv x (.ref r) :: .int i :: mv x (.ref a) :: st.map (mv x)))
  have hmr : mv x (.ref r) = .ref (xB x + r) := mv_ref h4 hr
  rw [mv_ref h4 ha, hmr]
  have hq50 : 50 ≤ q ∧ ci < 50 ∧ ssort q 0 = 2 := by rcases hq with ⟨rfl, rfl⟩ | ⟨rfl, rfl⟩ <;> decide
  obtain ⟨⟨rr, hrr, hN⟩, cellV, g1, g2, g3, -⟩ := jat_obj hq50.2.1 (h4.2.2 r _ hr)
  have hcls := (E.2.2.2.2.2.2.2.2.2.2.2.2.1.1 ci rr hrr).2
  obtain ⟨t0, ht0⟩ : ∃ t0 : Nat, (jtys x)[t0]? = some (xA x q, .object rr.1) := by
    rcases hq with ⟨rfl, rfl⟩ | ⟨rfl, rfl⟩ <;> cases hrr
    · exact ⟨3, rfl⟩
    · exact ⟨4, rfl⟩
  obtain ⟨kA, comp, k1, k2, k3, -⟩ := (E.2.2.2.2.2.2.2.2.2.2.2.2.1.2 t0 _ ht0).2
  have hcomp : comp = xC x ci := Option.some.inj (k3.symm.trans hcls.1)
  subst hcomp
  obtain ⟨kC, hkC, -⟩ := hcls.2
  have hlt : i.toNatClampNeg < n := Nat.not_le.mp fun q => hin (Or.inr q)
  have h0 : ¬ i < 0 := fun q => hin (Or.inl q)
  refine W.aast E.1 E.2.1 (jat_arr hq50.1 (h4.2.2 a _ ha)) (fun q h => by cases h) (fun h => by cases h) k1 k2 rfl hkC ⟨h0, by rw [arrV_size]; exact hlt⟩ g1 (fun q h => by rw [g3] at h; cases h) (by rw [g2]; exact hkC) (by rw [g2]; exact va_assign hcls) rfl rfl hd fun H' e1 e2 e3 => ?_
  refine kk p l e R s m args below meth c H' _ cells slots mc ms lsA E h1 h2 (h3.put e2 e3 (Nat.le_add_right _ _)) ?_ h5
  refine h4.set ha rfl e2 (jat_arr' hq50.1 ?_) e3 (fun b hb s j => by rw [jval_sr, if_neg (fun a => hb a.2.1)])
  rw [e1, arrV_store]
  congr 2
  funext j
  rw [hq50.2.2, jval_sr]
  unfold updV
  by_cases hj : j = i.toNatClampNeg
  · rw [if_pos hj, if_pos ⟨by omega, rfl, hj⟩]
    exact hmr.symm
  · rw [if_neg hj, if_neg (fun a => hj a.2.2)]
theorem J_alen {a n q : Nat} {v : Int32} (hd : decode cc pc = .ok (.arraylength, 1)) (hp : pc + 1 = pq) (ha : (kd h)[a]? = some (q, n)) (hq : q = 50 ∨ q = 51 ∨ q = 52) (hv : Int32.ofNat n = v) (kk : J x y cc nL rt d ck cs Q pq ls (.int v :: st) h) : J x y cc nL rt d ck cs Q pc ls (.ref a :: st) h := by
  subst hp
  intro p l e R s m args below meth c H locs cells slots mc ms lsA E h1 h2 h3 h4 h5
  show W p l e R s m args below meth c H locs cells slots _ (F0 m pc lsA (mv x (.ref a) :: st.map (mv x)))
  rw [mv_ref h4 ha]
  have hq50 : 50 ≤ q := by rcases hq with rfl | rfl | rfl <;> decide
  have hgo := kk p l e R s m args below meth c H locs cells slots mc ms lsA E h1 h2 h3 h4 h5
  have hT := E.2.2.2.2.2.2.2.2.2.2.2.2.1.2
  rcases hq with rfl | rfl | rfl
  · exact W.alen (n := v) E.1 E.2.1 (jat_arr hq50 (h4.2.2 a _ ha)) ((hT 0 _ rfl).1 n _) (by rw [arrV_size]; exact hv) rfl rfl hd hgo
  · exact W.alen (n := v) E.1 E.2.1 (jat_arr hq50 (h4.2.2 a _ ha)) ((hT 1 _ rfl).1 n _) (by rw [arrV_size]; exact hv) rfl rfl hd hgo
  · exact W.alen (n := v) E.1 E.2.1 (jat_arr hq50 (h4.2.2 a _ ha)) ((hT 2 _ rfl).1 n _) (by rw [arrV_size]; exact hv) rfl rfl hd hgo
-- the script
theorem J_sld {i : Int32} (hd : decode cc pc = .ok (.iaload, 1)) (hp : pc + 1 = pq) (hin : vp_in i (xL x)) (kk : J x y cc nL rt d ck cs Q pq ls (.int (xS x (ix i)) :: st) h) : J x y cc nL rt d ck cs Q pc ls (.int i :: .ref 1000000000 :: st) h := by
  subst hp
  intro p l e R s m args below meth c H locs cells slots mc ms lsA E h1 h2 h3 h4 h5
  obtain ⟨-, -, -, -, hb0, hX, hx0, -⟩ := E.2.2.2.2.2.2.2.2.2.2.2.2
  exact va_sld E.1 E.2.1 hX (Nat.lt_of_lt_of_le hx0 hb0) (Nat.not_le.mpr hx0) h3 hin hd (kk p l e R s m args below meth c H locs cells slots mc ms lsA E h1 h2 h3 h4 h5)
theorem J_slen {v : Int32} (hd : decode cc pc = .ok (.arraylength, 1)) (hp : pc + 1 = pq) (hv : Int32.ofNat (xL x) = v) (kk : J x y cc nL rt d ck cs Q pq ls (.int v :: st) h) : J x y cc nL rt d ck cs Q pc ls (.ref 1000000000 :: st) h := by
  subst hp
  subst hv
  intro p l e R s m args below meth c H locs cells slots mc ms lsA E h1 h2 h3 h4 h5
  obtain ⟨-, -, -, -, hb0, hX, hx0, -⟩ := E.2.2.2.2.2.2.2.2.2.2.2.2
  exact va_slen E.1 E.2.1 hX (Nat.lt_of_lt_of_le hx0 hb0) (Nat.not_le.mpr hx0) h3 hd (kk p l e R s m args below meth c H locs cells slots mc ms lsA E h1 h2 h3 h4 h5)
-- ends
theorem J_iret {v : Int32} {ty : FieldType} (hd : decode cc pc = .ok (.ireturn, 1)) (hr : rt = some ty) (hn : narrow ty (.int v) = .int v) (hq : Q (some (.int v)) h) : J x y cc nL rt d ck cs Q pc ls [.int v] h := by
  intro p l e R s m args below meth c H locs cells slots mc ms lsA E h1 h2 h3 h4 h5
  refine W.widen (k := mc) (n := ms) (by omega) (by omega) ?_
  exact W.zret E.1 E.2.1 (E.2.2.2.1.trans hr) hn (fun t ht _ => ⟨some (.int v), h, rfl, hq, by rw [ht]; exact h4, h3.F ht⟩) h3.2.2 hd E.2.2.2.2.1
theorem J_lret {v : Int64} (hd : decode cc pc = .ok (.lreturn, 1)) (hr : rt = some .long) (hq : Q (some (.long v)) h) : J x y cc nL rt d ck cs Q pc ls [.long v] h := by
  intro p l e R s m args below meth c H locs cells slots mc ms lsA E h1 h2 h3 h4 h5
  refine W.widen (k := mc) (n := ms) (by omega) (by omega) ?_
  exact W.lret E.1 E.2.1 (E.2.2.2.1.trans hr) (fun t ht _ => ⟨some (.long v), h, rfl, hq, by rw [ht]; exact h4, h3.F ht⟩) h3.2.2 hd E.2.2.2.2.1
theorem J_vret (hd : decode cc pc = .ok (.return_, 1)) (hr : rt = none) (hq : Q none h) : J x y cc nL rt d ck cs Q pc ls [] h := by
  intro p l e R s m args below meth c H locs cells slots mc ms lsA E h1 h2 h3 h4 h5
  refine W.widen (k := mc) (n := ms) (by omega) (by omega) ?_
  exact W.vret E.1 E.2.1 (E.2.2.2.1.trans hr) (fun t ht _ => ⟨none, h, rfl, hq, by rw [ht]; exact h4, h3.F ht⟩) h3.2.2 hd E.2.2.2.2.1
theorem J_aret {v : Value} {ty : FieldType} (hd : decode cc pc = .ok (.areturn, 1)) (hr : rt = some ty) (hty : (∃ n, ty = .object n) ∨ ∃ t, ty = .array t) (hv : v = .null ∨ ∃ a, v = .ref a) (hq : Q (some v) h) : J x y cc nL rt d ck cs Q pc ls [v] h := by
  intro p l e R s m args below meth c H locs cells slots mc ms lsA E h1 h2 h3 h4 h5
  refine W.widen (k := mc) (n := ms) (by omega) (by omega) ?_
  refine W.aret (v := mv x v) E.1 E.2.1 (E.2.2.2.1.trans hr) hty ?_ (fun t ht _ => ⟨some v, h, rfl, hq, by rw [ht]; exact h4, h3.F ht⟩) h3.2.2 hd E.2.2.2.2.1
  rcases hv with rfl | ⟨a, rfl⟩
  · exact Or.inl rfl
  · exact Or.inr ⟨_, rfl⟩
end JAR
