theorem al_kd (h : JH) (q : Nat × Nat) : kd (al h q) = kd h ++ [q] := rfl
theorem jval_al {x : JX} {h : JH} {q : Nat × Nat} {s k j : Nat} (hk : k ≠ (kd h).length) : jval x (al h q) s k j = jval x h s k j := by
  have hk' : ¬ k = h.2.2.2.length := hk
  match s with
  | 0 => show Value.int (if k = h.2.2.2.length then 0 else h.1 k j) = _; rw [if_neg hk']; rfl
  | 1 => show Value.long (if k = h.2.2.2.length then 0 else h.2.1 k j) = _; rw [if_neg hk']; rfl
  | n + 2 => show mv x (va_rf (if k = h.2.2.2.length then none else h.2.2.1 k j)) = _; rw [if_neg hk']; rfl
def jdef (s : Nat) : Value := match s with
  | 0 => .int 0
  | 1 => .long 0
  | _ => .null
theorem jval_new {x : JX} {h : JH} {q : Nat × Nat} {s j : Nat} : jval x (al h q) s (kd h).length j = jdef s := by
  match s with
  | 0 => show Value.int (if h.2.2.2.length = h.2.2.2.length then 0 else _) = _; rw [if_pos rfl]; rfl
  | 1 => show Value.long (if h.2.2.2.length = h.2.2.2.length then 0 else _) = _; rw [if_pos rfl]; rfl
  | n + 2 => show mv x (va_rf (if h.2.2.2.length = h.2.2.2.length then none else _)) = _; rw [if_pos rfl]; rfl
/-- one cell is made -/
theorem JC.push {x : JX} {h : JH} {q : Nat × Nat} {H H' : Heap} (hC : JC x h H) (hl : (kd h).length + 1 < 1000000000) (hz : H'.size = H.size + 1) (hn : jat x (al h q) (kd h).length q H') (oq : ∀ a : Nat, a < H.size → H'[a]? = H[a]?) : JC x (al h q) H' := by
  refine ⟨?_, ?_, fun k q' hq' => ?_⟩
  · rw [hz, hC.1, al_kd, List.length_append]; simp only [List.length_cons, List.length_nil]; omega
  · rw [al_kd, List.length_append]; simpa using hl
  · rw [al_kd] at hq'
    by_cases hk : k < (kd h).length
    · rw [List.getElem?_append_left hk] at hq'
      exact (hC.2.2 k q' hq').kept (oq _ (by rw [hC.1]; omega)) (fun s j => jval_al (by omega))
    · rw [List.getElem?_append_right (by omega)] at hq'
      have hz0 : k - (kd h).length < 1 := (List.getElem?_eq_some_iff.mp hq').1
      have hk0 : k = (kd h).length := by omega
      subst hk0
      rw [Nat.sub_self] at hq'
      cases hq'
      exact hn
theorem jdefault {D : String} {ty : FieldType} (h : parseFieldDescriptor D = some ty) (hc : (D = "I" ∨ D = "Z" ∨ D = "J") ∨ ((∃ n, ty = .object n) ∨ ∃ t, ty = .array t) ∧ jsort D = 2) : defaultValue ty = jdef (jsort D) := by
  rcases hc with (rfl | rfl | rfl) | ⟨⟨n, rfl⟩ | ⟨t, rfl⟩, hs⟩
  · cases pfI.symm.trans h; rw [jsI]; rfl
  · cases pfZ.symm.trans h; rw [jsZ]; rfl
  · cases pfJ.symm.trans h; rw [jsJ]; rfl
  · rw [hs]; rfl
  · rw [hs]; rfl
/-- what each field holds at first -/
def jdefs (r : vw_C) : Bool := (List.range r.2.2).all fun k => match parseFieldDescriptor (r.2.1 k).2.2.1 with
  | some ty => decide (defaultValue ty = jdef (jsort (r.2.1 k).2.2.1))
  | none => false
theorem jdefs_all : vwCl.all jdefs = true := by decide +kernel
theorem jdefs_at {ci : Nat} {r : vw_C} (hr : vwCl[ci]? = some r) {k : Nat} (hk : k < r.2.2) {ty : FieldType} (hty : parseFieldDescriptor (r.2.1 k).2.2.1 = some ty) : defaultValue ty = jdef (jsort (r.2.1 k).2.2.1) := by
  have h1 := List.all_eq_true.mp jdefs_all r (List.mem_of_getElem? hr)
  have h2 := List.all_eq_true.mp h1 k (List.mem_range.mpr hk)
  rw [hty] at h2
  exact of_decide_eq_true h2
section JCA
variable {x : JX} {y : MethodName} {cc : ByteArray} {nL : Nat} {rt : Option FieldType} {d ck cs : Nat} {Q : Option Value → JH → Prop} {pc pq : Nat} {ls : List (Option Value)} {st : List Value} {h : JH}
theorem J_new {idx ci : Nat} {r : vw_C} (hd : decode cc pc = .ok (.new idx, 3)) (hp : pc + 3 = pq) (hr : vwCl[ci]? = some r) (h50 : ci < 50) (hcl : Cond.classLink y.cls idx r.1 ∈ TBg) (hins : Cond.instantiable r.1 r.2.2 ∈ TBg) (hini : Cond.initialized r.1 ∈ TBg) (hl : (kd h).length + 1 < 1000000000) (hck : 1 ≤ ck) (hcs : r.2.2 ≤ cs)
    (kk : J x y cc nL rt d (ck - 1) (cs - r.2.2) Q pq ls (.ref (kd h).length :: st) (al h (ci, r.2.2))) : J x y cc nL rt d ck cs Q pc ls st h := by
  subst hp
  intro p l e R s m args below meth c H locs cells slots mc ms lsA E h1 h2 h3 h4 h5
  have hts := E.2.2.2.2.2.2.2.1
  have hKn := E.2.2.2.2.2.2.2.2.2.2.2.2.1.1 ci r hr
  obtain ⟨hin, ⟨ty0, hty0⟩, hnm⟩ := jcls ci r hr
  have hR1 : mc ≤ R.cells := E.2.2.2.2.2.2.2.2.2.2.1
  have hR2 : ms ≤ R.slots := E.2.2.2.2.2.2.2.2.2.2.2.1
  refine W.newcK E.1 E.2.1 E.2.2.2.2.2.2.1 (hts _ hcl) (hts _ hins) (hts _ hini) rfl hd (by omega) (by omega) hKn.2.1 rfl fun H1 kC hkC e1 z1 o1 => ?_
  have hz : H.size = xB x + (kd h).length := h4.1
  have hgo := kk p l e R s m args below meth c H1 locs (cells + 1) (slots + r.2.2) mc ms lsA E (by omega) (by omega) ⟨Nat.le_trans h3.1 (by omega), fun q g1 g2 => (o1 q (Nat.lt_of_lt_of_le g1 h3.1)).trans (h3.2.1 q g1 g2), h3.2.2⟩ (h4.push hl z1 ?_ o1) h5
  · have hm : mv x (.ref (kd h).length) = .ref H.size := by
      show Value.ref (mr x _) = _
      rw [mr_lt (by omega), hz]
    show W p l e R s m args below meth c H1 locs _ _ _ (F0 m (pc + 3) lsA (.ref H.size :: st.map (mv x)))
    rw [← hm]
    exact hgo
  · unfold jat
    rw [if_pos h50]
    refine ⟨⟨r, hr, rfl⟩, ?_⟩
    rw [hz] at e1
    refine (u_born ty0 hts hin hKn hkC e1 hty0).to (fun k hk => ?_)
    rw [jval_new]
    show _ = jdef (ssort ci k)
    unfold ssort
    rw [if_pos h50, hr]
    exact jdefs_at hr hk (hty0 k hk)
theorem J_newa {q n : Nat} {at0 : ArrayType} {v : Int32} {ty : FieldType} (hd : decode cc pc = .ok (.newarray at0, 2)) (hp : pc + 2 = pq) (hq : (q = 50 ∧ ty = .int) ∨ (q = 51 ∧ ty = .long) ∨ (q = 52 ∧ ty = .boolean)) (hty : newarray.typeOf at0 = ty) (hw : Cond.arrayClass ty ∈ TBg) (hn : ¬ v < 0) (hN : ix v = n) (hb : n ≤ 1000) (hl : (kd h).length + 1 < 1000000000) (hck : 1 ≤ ck) (hcs : n ≤ cs)
    (kk : J x y cc nL rt d (ck - 1) (cs - n) Q pq ls (.ref (kd h).length :: st) (al h (q, n))) : J x y cc nL rt d ck cs Q pc ls (.int v :: st) h := by
  subst hp
  subst hty
  intro p l e R s m args below meth c H locs cells slots mc ms lsA E h1 h2 h3 h4 h5
  have hts := E.2.2.2.2.2.2.2.1
  have hR1 : mc ≤ R.cells := E.2.2.2.2.2.2.2.2.2.2.1
  have hR2 : ms ≤ R.slots := E.2.2.2.2.2.2.2.2.2.2.2.1
  have hbytes : n * componentBytes (newarray.typeOf at0) ≤ 536870912 := by
    rcases hq with ⟨-, h⟩ | ⟨-, h⟩ | ⟨-, h⟩ <;> (rw [h]; simp [componentBytes]; omega)
  refine va_newaK E.1 E.2.1 (hts _ hw) rfl hd rfl hn hN hbytes (by omega) (by omega) rfl fun H1 cA e1 z1 o1 hAr hNm => ?_
  have hz : H.size = xB x + (kd h).length := h4.1
  have hT := E.2.2.2.2.2.2.2.2.2.2.2.2.1.2
  have hcA : cA = xA x q := by
    rcases hq with ⟨rfl, h⟩ | ⟨rfl, h⟩ | ⟨rfl, h⟩ <;> rw [h] at hNm
    · exact Option.some.inj (hNm.symm.trans (hT 0 _ rfl).2)
    · exact Option.some.inj (hNm.symm.trans (hT 1 _ rfl).2)
    · exact Option.some.inj (hNm.symm.trans (hT 2 _ rfl).2)
  subst hcA
  have hq50 : 50 ≤ q := by rcases hq with ⟨rfl, -⟩ | ⟨rfl, -⟩ | ⟨rfl, -⟩ <;> decide
  have hgo := kk p l e R s m args below meth c H1 locs (cells + 1) (slots + n) mc ms lsA E (by omega) (by omega) ⟨Nat.le_trans h3.1 (by omega), fun q g1 g2 => (o1 q (Nat.lt_of_lt_of_le g1 h3.1)).trans (h3.2.1 q g1 g2), h3.2.2⟩ (h4.push hl z1 (jat_arr' hq50 ?_) o1) h5
  · have hm : mv x (.ref (kd h).length) = .ref H.size := by
      show Value.ref (mr x _) = _
      rw [mr_lt (by omega), hz]
    show W p l e R s m args below meth c H1 locs _ _ _ (F0 m (pc + 2) lsA (.ref H.size :: st.map (mv x)))
    rw [← hm]
    exact hgo
  · rw [← hz, e1]
    congr 2
    funext j
    rw [jval_new]
    rcases hq with ⟨rfl, h⟩ | ⟨rfl, h⟩ | ⟨rfl, h⟩ <;> rw [h] <;> rfl
theorem J_anewa {q n idx : Nat} {C : String} {v : Int32} (hd : decode cc pc = .ok (.anewarray idx, 3)) (hp : pc + 3 = pq) (hq : (q = 53 ∧ C = RX0) ∨ (q = 54 ∧ C = RX4)) (hcl : Cond.classLink y.cls idx C ∈ TBg) (hn : ¬ v < 0) (hN : ix v = n) (hb : n ≤ 1000) (hl : (kd h).length + 1 < 1000000000) (hck : 1 ≤ ck) (hcs : n ≤ cs)
    (kk : J x y cc nL rt d (ck - 1) (cs - n) Q pq ls (.ref (kd h).length :: st) (al h (q, n))) : J x y cc nL rt d ck cs Q pc ls (.int v :: st) h := by
  subst hp
  subst hN
  intro p l e R s m args below meth c H locs cells slots mc ms lsA E h1 h2 h3 h4 h5
  have hts := E.2.2.2.2.2.2.2.1
  have hR1 : mc ≤ R.cells := E.2.2.2.2.2.2.2.2.2.2.1
  have hR2 : ms ≤ R.slots := E.2.2.2.2.2.2.2.2.2.2.2.1
  have hover : va_AO C s := by
    rcases hq with ⟨-, rfl⟩ | ⟨-, rfl⟩
    · exact E.2.2.2.2.2.2.2.2.2.2.2.2.2.2.1
    · exact E.2.2.2.2.2.2.2.2.2.2.2.2.2.2.2.1
  refine W.anew E.1 E.2.1 E.2.2.2.2.2.2.1 (hts _ hcl) (va_AO.use hover) rfl hd rfl hn (by show ix v * 4 ≤ _; omega) (by omega) (by show slots + ix v ≤ _; omega) fun cA kA comp f1 f2 f3 f4 => ?_
  generalize hH1 : H.push ({ cls := cA, slots := Array.replicate v.toNatClampNeg .null, vm := .none } : Cell) = H1
  have z1 : H1.size = H.size + 1 := by rw [← hH1, Array.size_push]
  have e1 : H1[H.size]? = some (arrV cA v.toNatClampNeg (fun _ => .null)) := by rw [← hH1, Array.getElem?_push_size, ← arrV_new]
  have o1 : ∀ q : Nat, q < H.size → H1[q]? = H[q]? := fun q hq => by rw [← hH1, Array.getElem?_push, if_neg (Nat.ne_of_lt hq)]
  have hz : H.size = xB x + (kd h).length := h4.1
  have hT := E.2.2.2.2.2.2.2.2.2.2.2.2.1.2
  have hcA : cA = xA x q := by
    rcases hq with ⟨rfl, rfl⟩ | ⟨rfl, rfl⟩
    · obtain ⟨_, _, -, -, -, k4⟩ := (hT 3 _ rfl).2
      exact Option.some.inj (f1.symm.trans k4)
    · obtain ⟨_, _, -, -, -, k4⟩ := (hT 4 _ rfl).2
      exact Option.some.inj (f1.symm.trans k4)
  subst hcA
  have hq50 : 50 ≤ q := by rcases hq with ⟨rfl, -⟩ | ⟨rfl, -⟩ <;> decide
  have hgo := kk p l e R s m args below meth c H1 locs (cells + 1) (slots + ix v) mc ms lsA E (by omega) (by omega) ⟨Nat.le_trans h3.1 (by omega), fun q g1 g2 => (o1 q (Nat.lt_of_lt_of_le g1 h3.1)).trans (h3.2.1 q g1 g2), h3.2.2⟩ (h4.push hl z1 (jat_arr' hq50 ?_) o1) h5
  · have hm : mv x (.ref (kd h).length) = .ref H.size := by
      show Value.ref (mr x _) = _
      rw [mr_lt (by omega), hz]
    show W p l e R s m args below meth c H1 locs _ _ _ (F0 m (pc + 3) lsA (.ref H.size :: st.map (mv x)))
    rw [← hm]
    exact hgo
  · rw [← hz, e1]
    congr 2
    funext j
    rw [jval_new]
    rcases hq with ⟨rfl, -⟩ | ⟨rfl, -⟩ <;> rfl
end JCA
-- the entry of a method
def jargs : List Value → List (Option Value)
  | [] => []
  | v :: vs => if v.category = 2 then some v :: none :: jargs vs else some v :: jargs vs
theorem jargs_in (x : JX) (m : Nat) : ∀ (as : List Value) (i0 i : Nat) (v : Value), (jargs as ++ List.replicate m none)[i]? = some (some v) → (i0 + i, mv x v) ∈ lv_args i0 (as.map (mv x))
  | [], i0, i, v, h => by
    simp only [jargs, List.nil_append] at h
    have := List.mem_of_getElem? h
    rw [List.mem_replicate] at this
    cases this.2
  | a :: as, i0, i, v, h => by
    simp only [List.map_cons, lv_args, mv_cat]
    unfold jargs at h
    by_cases hc : a.category = 2
    · rw [if_pos hc] at h ⊢
      match i, h with
      | 0, h => cases h; exact List.mem_cons_self
      | 1, h => simp at h
      | i + 2, h =>
        have := jargs_in x m as (i0 + 2) i v (by simpa using h)
        rw [show i0 + (i + 2) = i0 + 2 + i by omega]
        exact List.mem_cons_of_mem _ this
    · rw [if_neg hc] at h ⊢
      match i, h with
      | 0, h => cases h; exact List.mem_cons_self
      | i + 1, h =>
        have := jargs_in x m as (i0 + 1) i v (by simpa using h)
        rw [show i0 + (i + 1) = i0 + 1 + i by omega]
        exact List.mem_cons_of_mem _ this
theorem lg_sl_mv (x : JX) : ∀ as : List Value, (lg_sl (as.map (mv x))).length = (jargs as).length
  | [] => rfl
  | a :: as => by
    have := lg_sl_mv x as
    simp only [lg_sl, List.map_cons, List.flatMap_cons, List.length_append, mv_cat] at this ⊢
    unfold jargs
    split <;> simp [this] <;> omega
theorem JM_of {x : JX} {y : MethodName} {cc : ByteArray} {nL : Nat} {rt : Option FieldType} {d k n : Nat} {as : List Value} {h : JH} {Q : Option Value → JH → Prop} (ls : List (Option Value)) (hy : plainName y.cls = true) (hl : (jargs as).length ≤ nL) (hls : jargs as ++ List.replicate (nL - (jargs as).length) none = ls) (kk : J x y cc nL rt d k n Q 0 ls [] h) : JM x y cc nL rt d k n as h Q := by
  intro l
  refine Met.ofW (cc := cc) (maxL := nL) (ret := rt) hy rfl ?_
  intro p e s m args below meth c s₁ B hml hv
  obtain ⟨rfl, hT, hC⟩ := hv
  have hts := atoms_spec (ws := Cond.code y cc nL rt :: TBg) B.pre
  have hle : (lg_sl (as.map (mv x))).length ≤ nL := by rw [lg_sl_mv]; exact hl
  have hle2 := lv_entry (as.map (mv x)) (n := nL) hle
  rw [lg_entry_eq]
  refine kk p l e (jroom d k n) s m _ below meth c s.heap [] 0 0 k n _ ⟨B.exec, B.bytes, hml, B.returns, B.notSynchronized, (name_of_methodNamed B.named B.method).1, findClass_of_methodNamed B.named, fun w hw => hts w (List.mem_cons_of_mem _ hw), Nat.le_refl _, Nat.le_refl _, Nat.le_refl _, Nat.le_refl _, hT⟩ (by omega) (by omega) va_S.rf hC ⟨hle2.1, hle2.2.1, fun i v hi => ?_⟩
  rw [← hls] at hi
  have := jargs_in x _ as 0 i v hi
  rw [Nat.zero_add] at this
  exact hle2.2.2 _ this
