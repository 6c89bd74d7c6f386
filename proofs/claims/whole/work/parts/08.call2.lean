/-- a method that may be called: its words -/
def JTg (y2 : MethodName) (cc2 : ByteArray) (nL2 : Nat) (rt2 : Option FieldType) (n : Nat) : Prop := Cond.code y2 cc2 nL2 rt2 ∈ TBg ∧ Cond.initialized y2.cls ∈ TBg ∧ (y2.cls ≠ "java/lang/invoke/MethodHandle" ∧ y2.cls ≠ "java/lang/invoke/VarHandle" ∧ (parseMethodDescriptor y2.desc).map (fun d => d.parameters.length) = some n) ∧ nL2 ≤ 40
/-- its link in a pool -/
def JLk (own : String) (idx : Nat) (y2 : MethodName) : Prop := Cond.methodLink own idx y2 ∈ TBg ∨ ∃ host : String, Cond.methodLinkNest own idx y2 host ∈ lw_tbl
theorem JTg.good {y2 : MethodName} {cc2 : ByteArray} {nL2 : Nat} {rt2 : Option FieldType} {n : Nat} (h : JTg y2 cc2 nL2 rt2 n) : GoodIn TBg (Cond.code y2 cc2 nL2 rt2 :: TBg) := tb_good (fun w hw => (List.mem_cons.mp hw).elim (fun e => e ▸ h.1) id)
theorem JT.call {x : JX} {s : State} {H : Heap} {locs : List Loc} (hT : JT x s) (h3 : va_S (xF x) s.heap H locs) {U : State} (hU : U.heap = H) (hW : s.WarmedH U.vm) : JT x U := hT.next hW (by rw [hU]; exact Nat.le_trans hT.2.2.2.2.1 h3.1) (fun q h1 h2 => by rw [hU]; exact h3.2.1 q h1 h2)
theorem JPc.blind {x : JX} {as : List Value} {h : JH} : FrameBlind (JPc x as h) := fun a U g mk q => ⟨q.1, q.2.1.next (U := U.calling g mk a) (State.WarmedH.refl U) q.2.1.2.2.2.2.1 (fun _ _ _ => rfl), q.2.2⟩
section JCB
variable {x : JX} {y : MethodName} {cc : ByteArray} {nL : Nat} {rt : Option FieldType} {d ck cs : Nat} {Q : Option Value → JH → Prop} {pc pq : Nat} {ls : List (Option Value)} {st : List Value} {h : JH}
variable {y2 : MethodName} {cc2 : ByteArray} {nL2 : Nat} {rt2 : Option FieldType} {d2 k2 n2 : Nat} {Q2 : Option Value → JH → Prop}
theorem J_after {p : Program} {l : Launch} {e : Env} {R : Room} {s : State} {m : MethodId} {args : Array Value} {below : List Frame} {meth : Method} {c : Code} {H : Heap} {locs : List Loc} {cells slots mc ms : Nat} {lsA : Array Slot} {a : Array Value} {st0 : List Value}
    (E : JE x y cc nL rt d p R s m args meth c mc ms) (h1 : cells + ck ≤ mc) (h2 : slots + cs ≤ ms) (h3 : va_S (xF x) s.heap H locs) (h5 : JL x lsA nL ls) (hk : k2 ≤ ck) (hn : n2 ≤ cs)
    (hr : va_Run p l e R s m args below meth c H locs cells slots k2 n2 (F0 m pc lsA st0) (st.map (mv x)) (JQc x Q2 a) (xF x))
    (kk : ∀ (v : Option Value) (h' : JH), Q2 v h' → J x y cc nL rt d (ck - k2) (cs - n2) Q (pc + 3) ls (v.toList ++ st) h') : W p l e R s m args below meth c H locs cells slots (MQ below (JQc x Q) args s mc ms (xF x)) (F0 m pc lsA st0) := by
  intro T hT X
  obtain ⟨v, st₀, t, T', L, h0, X', hL, e1, e2, ⟨v', h', hv, hQ, hC, hF⟩, hst⟩ := hr T hT X
  cases hv
  have hz : H.size ≤ T'.heap.size := by rw [e1, ← h0]; exact hF.1
  have hgo := kk v' h' hQ p l e R s m args below meth c T'.heap (locs ++ L) (cells + k2) (slots + n2) mc ms lsA E (by omega) (by omega)
    ⟨Nat.le_trans h3.1 hz, fun q g1 g2 => by rw [e1, hF.2 q (by rw [h0]; exact Nat.lt_of_lt_of_le g1 h3.1) g2, h0]; exact h3.2.1 q g1 g2, fun q hq => (List.mem_append.mp hq).elim (h3.2.2 q) (hL q)⟩ (by rw [e1]; exact hC) h5
  obtain ⟨t2, a1, b1⟩ := hgo T' rfl X'
  refine ⟨t2, hst t2 ?_, b1⟩
  cases v' <;> exact a1
/-- a call by the object's own method -/
theorem J_virt {idx ci o N : Nat} {as2 : List Value} {stk : List Value} (hd : decode cc pc = .ok (.invokevirtual idx, 3)) (hp : pc + 3 = pq) (hM : JM x y2 cc2 nL2 rt2 d2 k2 n2 (.ref o :: as2) h Q2) (hs : stk = as2.reverse ++ .ref o :: st) (hg : JTg y2 cc2 nL2 rt2 as2.length) (hl : JLk y.cls idx y2) (hv : Cond.instanceMethod y2 ∈ TBg ∧ Cond.selects y2.cls y2 y2 ∈ TBg) (ho : (kd h)[o]? = some (ci, N)) (hci : ci < 50 ∧ (vwCl[ci]?).map (fun r => r.1) = some y2.cls) (hdp : d2 + 1 ≤ d) (hk : k2 ≤ ck) (hn : n2 ≤ cs) (hst : (st.map fun v => v.category).sum ≤ 8)
    (kk : ∀ (v : Option Value) (h' : JH), Q2 v h' → J x y cc nL rt d (ck - k2) (cs - n2) Q pq ls (v.toList ++ st) h') : J x y cc nL rt d ck cs Q pc ls stk h := by
  subst hp
  subst hs
  intro p l e R s m args below meth c H locs cells slots mc ms lsA E h1 h2 h3 h4 h5
  have hts := E.2.2.2.2.2.2.2.1
  have hR : d ≤ R.frames ∧ 60 * d ≤ R.locals ∧ mc ≤ R.cells ∧ ms ≤ R.slots := ⟨E.2.2.2.2.2.2.2.2.1, E.2.2.2.2.2.2.2.2.2.1, E.2.2.2.2.2.2.2.2.2.2.1, E.2.2.2.2.2.2.2.2.2.2.2.1⟩
  have hT : JT x s := E.2.2.2.2.2.2.2.2.2.2.2.2
  obtain ⟨⟨r, hr, hN⟩, cell, q1, q2, q3, -⟩ := jat_obj hci.1 (h4.2.2 o _ ho)
  have hrn : r.1 = y2.cls := by
    have := hci.2
    rw [show vwCl[ci]? = some r from hr] at this
    exact Option.some.inj this
  have hmo := mv_ref h4 ho
  have hPre : PreV s H y2.cls (xB x + o) (JPc x (.ref o :: as2) h) (as2.map (mv x)) := by
    refine ⟨JPc.blind, ⟨cell, q1, by rw [q3]; rfl, by rw [q2, ← hrn]; exact (hT.1.1 ci r hr).2.1⟩, fun U hU hW => ⟨?_, hT.call h3 hU hW, by rw [hU]; exact h4⟩⟩
    rw [List.map_cons, hmo]
  have hstk : (as2.reverse ++ .ref o :: st).map (mv x) = (as2.map (mv x)).reverse ++ .ref (xB x + o) :: st.map (mv x) := by
    rw [List.map_append, List.map_reverse, List.map_cons, hmo]
  have hcat : 2 * (F0 m pc lsA ((as2.reverse ++ .ref o :: st).map (mv x))).monitorRoom + ((st.map (mv x)).map fun v => v.category).sum ≤ 8 := lv_room (by rw [mv_cats]; exact hst)
  have hroom : (jroom d2 k2 n2).frames + 1 ≤ R.frames ∧ 8 + (nL2 + 11) + (jroom d2 k2 n2).locals ≤ R.locals := by
    have := hg.2.2.2
    constructor
    · show d2 + 1 ≤ R.frames; omega
    · show 8 + (nL2 + 11) + 60 * d2 ≤ R.locals; omega
  have hin := hts _ hv.1
  have hse := hts _ hv.2
  rcases hl with hl | ⟨host, hl⟩
  · exact J_after (k2 := k2) (n2 := n2) E h1 h2 h3 h5 hk hn (va_runV (As := as2.map (mv x)) (rest := st.map (mv x)) (b := xB x + o) (n := as2.length) ⟨E.1, E.2.1, E.2.2.1, E.2.2.2.2.2.2.1, hts⟩ (hM l) ⟨callB_of as2.length hts hg.good rfl rfl rfl (hts _ hg.2.1) (hts _ hl) hg.2.2.1 hroom, hin, hse⟩ hPre rfl (by rw [List.length_map]) h5.1 hstk hcat hd (by omega)) kk
  · exact J_after (k2 := k2) (n2 := n2) E h1 h2 h3 h5 hk hn (va_runVN (As := as2.map (mv x)) (rest := st.map (mv x)) (b := xB x + o) (n := as2.length) ⟨E.1, E.2.1, E.2.2.1, E.2.2.2.2.2.2.1, hts⟩ (hM l) ⟨va_cnB as2.length hts hg.good rfl rfl rfl (hT.2.1 _ hl rfl) (hts _ hg.2.1) hg.2.2.1 hroom, hin, hse⟩ hPre rfl (by rw [List.length_map]) h5.1 hstk hcat hd (by omega)) kk
theorem J_stat {idx : Nat} {as2 : List Value} {stk : List Value} (hd : decode cc pc = .ok (.invokestatic idx, 3)) (hp : pc + 3 = pq) (hM : JM x y2 cc2 nL2 rt2 d2 k2 n2 as2 h Q2) (hs : stk = as2.reverse ++ st) (hg : JTg y2 cc2 nL2 rt2 as2.length) (hl : JLk y.cls idx y2) (hv : Cond.static y2 ∈ TBg) (hdp : d2 + 1 ≤ d) (hk : k2 ≤ ck) (hn : n2 ≤ cs) (hst : (st.map fun v => v.category).sum ≤ 8)
    (kk : ∀ (v : Option Value) (h' : JH), Q2 v h' → J x y cc nL rt d (ck - k2) (cs - n2) Q pq ls (v.toList ++ st) h') : J x y cc nL rt d ck cs Q pc ls stk h := by
  subst hp
  subst hs
  intro p l e R s m args below meth c H locs cells slots mc ms lsA E h1 h2 h3 h4 h5
  have hts := E.2.2.2.2.2.2.2.1
  have hR : d ≤ R.frames ∧ 60 * d ≤ R.locals ∧ mc ≤ R.cells ∧ ms ≤ R.slots := ⟨E.2.2.2.2.2.2.2.2.1, E.2.2.2.2.2.2.2.2.2.1, E.2.2.2.2.2.2.2.2.2.2.1, E.2.2.2.2.2.2.2.2.2.2.2.1⟩
  have hT : JT x s := E.2.2.2.2.2.2.2.2.2.2.2.2
  have hPre : PreS s H (JPc x as2 h) (as2.map (mv x)) := ⟨JPc.blind, fun U hU hW => ⟨rfl, hT.call h3 hU hW, by rw [hU]; exact h4⟩⟩
  have hstk : (as2.reverse ++ st).map (mv x) = (as2.map (mv x)).reverse ++ st.map (mv x) := by
    rw [List.map_append, List.map_reverse]
  have hcat : 2 * (F0 m pc lsA ((as2.reverse ++ st).map (mv x))).monitorRoom + ((st.map (mv x)).map fun v => v.category).sum ≤ 8 := lv_room (by rw [mv_cats]; exact hst)
  have hroom : (jroom d2 k2 n2).frames + 1 ≤ R.frames ∧ 8 + (nL2 + 11) + (jroom d2 k2 n2).locals ≤ R.locals := by
    have := hg.2.2.2
    constructor
    · show d2 + 1 ≤ R.frames; omega
    · show 8 + (nL2 + 11) + 60 * d2 ≤ R.locals; omega
  have hse := hts _ hv
  rcases hl with hl | ⟨host, hl⟩
  · exact J_after (k2 := k2) (n2 := n2) E h1 h2 h3 h5 hk hn (va_runS (As := as2.map (mv x)) (rest := st.map (mv x)) (n := as2.length) ⟨E.1, E.2.1, E.2.2.1, E.2.2.2.2.2.2.1, hts⟩ (hM l) ⟨callB_of as2.length hts hg.good rfl rfl rfl (hts _ hg.2.1) (hts _ hl) hg.2.2.1 hroom, hse⟩ hPre rfl (by rw [List.length_map]) h5.1 hstk hcat hd (by omega)) kk
  · exact J_after (k2 := k2) (n2 := n2) E h1 h2 h3 h5 hk hn (va_runSN (As := as2.map (mv x)) (rest := st.map (mv x)) (n := as2.length) ⟨E.1, E.2.1, E.2.2.1, E.2.2.2.2.2.2.1, hts⟩ (hM l) ⟨va_cnB as2.length hts hg.good rfl rfl rfl (hT.2.1 _ hl rfl) (hts _ hg.2.1) hg.2.2.1 hroom, hse, trivial⟩ hPre rfl (by rw [List.length_map]) h5.1 hstk hcat hd (by omega)) kk
theorem J_init {idx ci o N : Nat} {as2 : List Value} {stk : List Value} (hd : decode cc pc = .ok (.invokespecial idx, 3)) (hp : pc + 3 = pq) (hM : JM x y2 cc2 nL2 none d2 k2 n2 (.ref o :: as2) h Q2) (hs : stk = as2.reverse ++ .ref o :: st) (hg : JTg y2 cc2 nL2 none as2.length) (hl : JLk y.cls idx y2) (hv : Cond.instanceMethod y2 ∈ TBg ∧ y2.name = "<init>") (ho : (kd h)[o]? = some (ci, N)) (hdp : d2 + 1 ≤ d) (hk : k2 ≤ ck) (hn : n2 ≤ cs) (hst : (st.map fun v => v.category).sum ≤ 8)
    (kk : ∀ (v : Option Value) (h' : JH), Q2 v h' → J x y cc nL rt d (ck - k2) (cs - n2) Q pq ls (v.toList ++ st) h') : J x y cc nL rt d ck cs Q pc ls stk h := by
  subst hp
  subst hs
  intro p l e R s m args below meth c H locs cells slots mc ms lsA E h1 h2 h3 h4 h5
  have hts := E.2.2.2.2.2.2.2.1
  have hR : d ≤ R.frames ∧ 60 * d ≤ R.locals ∧ mc ≤ R.cells ∧ ms ≤ R.slots := ⟨E.2.2.2.2.2.2.2.2.1, E.2.2.2.2.2.2.2.2.2.1, E.2.2.2.2.2.2.2.2.2.2.1, E.2.2.2.2.2.2.2.2.2.2.2.1⟩
  have hT : JT x s := E.2.2.2.2.2.2.2.2.2.2.2.2
  have hmo := mv_ref h4 ho
  have hPre : PreS s H (JPc x (.ref o :: as2) h) (.ref (xB x + o) :: as2.map (mv x)) := by
    refine ⟨JPc.blind, fun U hU hW => ⟨?_, hT.call h3 hU hW, by rw [hU]; exact h4⟩⟩
    rw [List.map_cons, hmo]
  have hstk : (as2.reverse ++ .ref o :: st).map (mv x) = (as2.map (mv x)).reverse ++ .ref (xB x + o) :: st.map (mv x) := by
    rw [List.map_append, List.map_reverse, List.map_cons, hmo]
  have hcat : 2 * (F0 m pc lsA ((as2.reverse ++ .ref o :: st).map (mv x))).monitorRoom + ((st.map (mv x)).map fun v => v.category).sum ≤ 8 := lv_room (by rw [mv_cats]; exact hst)
  have hroom : (jroom d2 k2 n2).frames + 1 ≤ R.frames ∧ 8 + (nL2 + 11) + (jroom d2 k2 n2).locals ≤ R.locals := by
    have := hg.2.2.2
    constructor
    · show d2 + 1 ≤ R.frames; omega
    · show 8 + (nL2 + 11) + 60 * d2 ≤ R.locals; omega
  have hin := hts _ hv.1
  rcases hl with hl | ⟨host, hl⟩
  · exact J_after (k2 := k2) (n2 := n2) E h1 h2 h3 h5 hk hn (va_runI (As := as2.map (mv x)) (rest := st.map (mv x)) (b := xB x + o) (n := as2.length) ⟨E.1, E.2.1, E.2.2.1, E.2.2.2.2.2.2.1, hts⟩ (hM l) ⟨callB_of as2.length hts hg.good rfl rfl rfl (hts _ hg.2.1) (hts _ hl) hg.2.2.1 hroom, hv.2, hin⟩ hPre rfl (by rw [List.length_map]) h5.1 hstk hcat hd (by omega)) kk
  · exact J_after (k2 := k2) (n2 := n2) E h1 h2 h3 h5 hk hn (va_runIN (As := as2.map (mv x)) (rest := st.map (mv x)) (b := xB x + o) (n := as2.length) ⟨E.1, E.2.1, E.2.2.1, E.2.2.2.2.2.2.1, hts⟩ (hM l) ⟨va_cnB as2.length hts hg.good rfl rfl rfl (hT.2.1 _ hl rfl) (hts _ hg.2.1) hg.2.2.1 hroom, hv.2, hin⟩ hPre rfl (by rw [List.length_map]) h5.1 hstk hcat hd (by omega)) kk
/-- Object's own constructor -/
theorem J_obj {idx o ci N : Nat} (hd : decode cc pc = .ok (.invokespecial idx, 3)) (hp : pc + 3 = pq) (hl : Cond.methodLink y.cls idx Lib.objectInit ∈ TBg) (hi : Cond.instanceMethod Lib.objectInit ∈ TBg) (hc : Cond.code Lib.objectInit ⟨#[0xb1]⟩ 1 none ∈ TBg) (ho : (kd h)[o]? = some (ci, N)) (hdp : 1 ≤ d) (hst : (st.map fun v => v.category).sum ≤ 8) (kk : J x y cc nL rt d ck cs Q pq ls st h) : J x y cc nL rt d ck cs Q pc ls (.ref o :: st) h := by
  subst hp
  intro p l e R s m args below meth c H locs cells slots mc ms lsA E h1 h2 h3 h4 h5
  have hts := E.2.2.2.2.2.2.2.1
  have hR : d ≤ R.frames ∧ 60 * d ≤ R.locals := ⟨E.2.2.2.2.2.2.2.2.1, E.2.2.2.2.2.2.2.2.2.1⟩
  show W p l e R s m args below meth c H locs cells slots _ (F0 m pc lsA (mv x (.ref o) :: st.map (mv x)))
  rw [mv_ref h4 ho]
  refine W.objInit E.1 E.2.1 E.2.2.2.2.2.2.1 (hts _ hl) (hts _ hi) (hts _ hc) rfl (h5.1.trans E.2.2.1.symm) rfl hd (by omega) ?_ (kk p l e R s m args below meth c H locs cells slots mc ms lsA E h1 h2 h3 h4 h5)
  have := lv_room (m := m) (pc := pc) (ls := lsA) (rest := mv x (.ref o) :: st.map (mv x)) (st := st.map (mv x)) (by rw [mv_cats]; exact hst)
  have e0 : (F0 m pc lsA (.ref (xB x + o) :: st.map (mv x))).monitorRoom = 0 := rfl
  rw [e0, mv_cats]
  omega
theorem J_mmax {idx : Nat} {a b : Int32} (hd : decode cc pc = .ok (.invokestatic idx, 3)) (hp : pc + 3 = pq) (hl : Cond.methodLink y.cls idx Lib.Math.max.name ∈ TBg) (hs : Cond.static Lib.Math.max.name ∈ TBg) (hi : Cond.initialized "java/lang/Math" ∈ TBg) (hc : Cond.code Lib.Math.max.name Lib.Math.max.code 2 (some .int) ∈ TBg) (hdp : 1 ≤ d) (hst : (st.map fun v => v.category).sum ≤ 8) (kk : J x y cc nL rt d ck cs Q pq ls (.int (if a < b then b else a) :: st) h) : J x y cc nL rt d ck cs Q pc ls (.int b :: .int a :: st) h := by
  subst hp
  intro p l e R s m args below meth c H locs cells slots mc ms lsA E h1 h2 h3 h4 h5
  have hts := E.2.2.2.2.2.2.2.1
  have hR : d ≤ R.frames ∧ 60 * d ≤ R.locals ∧ mc ≤ R.cells ∧ ms ≤ R.slots := ⟨E.2.2.2.2.2.2.2.2.1, E.2.2.2.2.2.2.2.2.2.1, E.2.2.2.2.2.2.2.2.2.2.1, E.2.2.2.2.2.2.2.2.2.2.2.1⟩
  exact va_mmax E.1 E.2.1 (E.2.2.1.trans h5.1.symm) E.2.2.2.2.2.2.1 (hts _ hl) (hts _ hs) (hts _ hi) (hts _ hc) (by omega) (by rw [mv_cats]; omega) (by omega) (by omega) hd (kk p l e R s m args below meth c H locs cells slots mc ms lsA E h1 h2 h3 h4 h5)
theorem J_mmin {idx : Nat} {a b : Int32} (hd : decode cc pc = .ok (.invokestatic idx, 3)) (hp : pc + 3 = pq) (hl : Cond.methodLink y.cls idx Lib.Math.min.name ∈ TBg) (hs : Cond.static Lib.Math.min.name ∈ TBg) (hi : Cond.initialized "java/lang/Math" ∈ TBg) (hc : Cond.code Lib.Math.min.name Lib.Math.min.code 2 (some .int) ∈ TBg) (hdp : 1 ≤ d) (hst : (st.map fun v => v.category).sum ≤ 8) (kk : J x y cc nL rt d ck cs Q pq ls (.int (if b < a then b else a) :: st) h) : J x y cc nL rt d ck cs Q pc ls (.int b :: .int a :: st) h := by
  subst hp
  intro p l e R s m args below meth c H locs cells slots mc ms lsA E h1 h2 h3 h4 h5
  have hts := E.2.2.2.2.2.2.2.1
  have hR : d ≤ R.frames ∧ 60 * d ≤ R.locals ∧ mc ≤ R.cells ∧ ms ≤ R.slots := ⟨E.2.2.2.2.2.2.2.2.1, E.2.2.2.2.2.2.2.2.2.1, E.2.2.2.2.2.2.2.2.2.2.1, E.2.2.2.2.2.2.2.2.2.2.2.1⟩
  exact va_mmin E.1 E.2.1 (E.2.2.1.trans h5.1.symm) E.2.2.2.2.2.2.1 (hts _ hl) (hts _ hs) (hts _ hi) (hts _ hc) (by omega) (by rw [mv_cats]; omega) (by omega) (by omega) hd (kk p l e R s m args below meth c H locs cells slots mc ms lsA E h1 h2 h3 h4 h5)
end JCB
