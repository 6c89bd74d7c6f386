-- THE LIGHT JUDGEMENT: a pure heap of numbered cells, and J, the machine's walk over it
abbrev JH : Type := (Nat → Nat → Int32) × (Nat → Nat → Int64) × (Nat → Nat → Option Nat) × List (Nat × Nat)
def gi (h : JH) (o k : Nat) : Int32 := h.1 o k
def gl (h : JH) (o k : Nat) : Int64 := h.2.1 o k
def gr (h : JH) (o k : Nat) : Option Nat := h.2.2.1 o k
def kd (h : JH) : List (Nat × Nat) := h.2.2.2
def si (h : JH) (o k : Nat) (v : Int32) : JH := (fun a b => if a = o ∧ b = k then v else h.1 a b, h.2)
def sl (h : JH) (o k : Nat) (v : Int64) : JH := (h.1, fun a b => if a = o ∧ b = k then v else h.2.1 a b, h.2.2)
def sr (h : JH) (o k : Nat) (v : Option Nat) : JH := (h.1, h.2.1, fun a b => if a = o ∧ b = k then v else h.2.2.1 a b, h.2.2.2)
/-- a new cell of zeros at the end -/
def al (h : JH) (q : Nat × Nat) : JH := (fun a b => if a = h.2.2.2.length then 0 else h.1 a b, fun a b => if a = h.2.2.2.length then 0 else h.2.1 a b, fun a b => if a = h.2.2.2.length then none else h.2.2.1 a b, h.2.2.2 ++ [q])
/-- what is fixed in a run: where the cells begin, the tables' numbers, the addresses that lie before, the script -/
abbrev JX : Type := Nat × (Nat → ClassId) × (Nat → Nat → Nat) × (Nat → ClassId) × (Nat → Nat) × (Nat → Nat) × Nat × (Nat → Int32)
abbrev xB (x : JX) : Nat := x.1
abbrev xC (x : JX) : Nat → ClassId := x.2.1
abbrev xI (x : JX) : Nat → Nat → Nat := x.2.2.1
abbrev xA (x : JX) : Nat → ClassId := x.2.2.2.1
abbrev xE (x : JX) : Nat → Nat := x.2.2.2.2.1
abbrev xV (x : JX) : Nat → Nat := x.2.2.2.2.2.1
abbrev xL (x : JX) : Nat := x.2.2.2.2.2.2.1
abbrev xS (x : JX) : Nat → Int32 := x.2.2.2.2.2.2.2
def mr (x : JX) (r : Nat) : Nat := if r < 1000000000 then xB x + r else xE x (r - 1000000000)
def mv (x : JX) (v : Value) : Value := match v with
  | .ref r => .ref (mr x r)
  | w => w
theorem mv_cat (x : JX) (v : Value) : (mv x v).category = v.category := by cases v <;> rfl
theorem mv_cats (x : JX) (st : List Value) : ((st.map (mv x)).map fun v => v.category).sum = (st.map fun v => v.category).sum := by
  induction st with
  | nil => rfl
  | cons a t ih => simp only [List.map_cons, List.sum_cons, mv_cat, ih]
def jsort (d : String) : Nat := if d = "I" then 0 else if d = "Z" then 0 else if d = "J" then 1 else 2
/-- of which sort the slot j of a cell of kind q is: 0 int, 1 long, 2 reference -/
def ssort (q j : Nat) : Nat := if q < 50 then (match vwCl[q]? with | some r => jsort (r.2.1 j).2.2.1 | none => 0) else if q = 51 then 1 else if q < 53 then 0 else 2
def jval (x : JX) (h : JH) (s k j : Nat) : Value := match s with
  | 0 => .int (gi h k j)
  | 1 => .long (gl h k j)
  | _ => mv x (va_rf (gr h k j))
def jat (x : JX) (h : JH) (k : Nat) (q : Nat × Nat) (H : Heap) : Prop :=
  if q.1 < 50 then (∃ r : vw_C, vwCl[q.1]? = some r ∧ r.2.2 = q.2) ∧ t_OB (xB x + k) (xC x q.1) q.2 (xI x q.1) H (fun j => jval x h (ssort q.1 j) k j)
  else H[xB x + k]? = some (arrV (xA x q.1) q.2 (fun j => jval x h (ssort q.1 0) k j))
/-- the heap H holds the cells of h, and ends with them -/
def JC (x : JX) (h : JH) (H : Heap) : Prop := H.size = xB x + (kd h).length ∧ (kd h).length < 1000000000 ∧ ∀ (k : Nat) (q : Nat × Nat), (kd h)[k]? = some q → jat x h k q H
def jtys (x : JX) : List (ClassId × FieldType) := [(xA x 50, .int), (xA x 51, .long), (xA x 52, .boolean), (xA x 53, .object RX0), (xA x 54, .object RX4)]
def jnest : Cond → Bool
  | .fieldLinkNest _ _ _ _ _ _ => true
  | .methodLinkNest _ _ _ _ => true
  | _ => false
def TBg : List Cond := lw_tbl.filter goodWord
abbrev xF (x : JX) : Nat → Prop := fun q => xB x ≤ q
/-- the strings of the reader of recipes: number in the pool, text, which one; their lengths and bytes -/
def strT : List (Nat × String × Nat) := [(107, "else", 0), (125, "volt", 1), (127, "pulse", 2), (129, "verify", 3), (131, "try", 4), (133, "ok", 5)]
def strL : List Nat := [4, 4, 5, 6, 3, 2]
def strB : List (List Int32) := [[101, 108, 115, 101], [118, 111, 108, 116], [112, 117, 108, 115, 101], [118, 101, 114, 105, 102, 121], [116, 114, 121], [111, 107]]
def JS (x : JX) (s : State) : Prop := (∀ q ∈ strT, vk_R RX5 q.1 q.2.1 (xE x (q.2.2 + 1)) s) ∧ vk_S 6 strL strB (fun i => xE x (i + 1)) (xV x) (xF x) s s.heap ∧ va_Z "java/lang/String" "COMPACT_STRINGS" "Z" (.int 1) (xF x) s s.heap ∧ (va_Z "jdk/internal/util/Preconditions" "SIOOBE_FORMATTER" "Ljava/util/function/BiFunction;" .null (xF x) s s.heap ∨ va_Z "jdk/internal/util/Preconditions" "SIOOBE_FORMATTER" "Ljava/util/function/BiFunction;" (.ref (xE x 13)) (xF x) s s.heap) ∧ ∀ k : Nat, k < 6 → xE x (k + 7) = xV x k
/-- what the tables say, and what lies before the cells -/
def JT (x : JX) (s : State) : Prop := va_K (xC x, xI x) vwCl (jtys x) s ∧ (∀ w ∈ lw_tbl, jnest w = true → va_Nw w s) ∧ va_AO RX0 s ∧ va_AO RX4 s ∧ xB x ≤ s.heap.size ∧ va_X (xE x 0) (xL x) (xS x) s s.heap ∧ xE x 0 < xB x ∧ JS x s
def JQc (x : JX) (Q : Option Value → JH → Prop) : Array Value → State → Outcome → State → Prop := fun _ st o t => ∃ (v : Option Value) (h : JH), o = .returned (v.map (mv x)) ∧ Q v h ∧ JC x h t.heap ∧ va_F (xF x) st t
def JPc (x : JX) (as : List Value) (h : JH) : Array Value → State → Prop := fun a U => a = (as.map (mv x)).toArray ∧ JT x U ∧ JC x h U.heap
def JL (x : JX) (lsA : Array Slot) (nL : Nat) (ls : List (Option Value)) : Prop := lsA.size = nL ∧ lv_wf lsA ∧ ∀ (i : Nat) (v : Value), ls[i]? = some (some v) → lsA[i]? = some (.val (mv x v))
abbrev jroom (d k n : Nat) : Room := { frames := d, cells := k, slots := n, locals := 60 * d }
/-- a contract: from the heap h, with these arguments -/
def JM (x : JX) (y : MethodName) (cc : ByteArray) (nL : Nat) (rt : Option FieldType) (d k n : Nat) (as : List Value) (h : JH) (Q : Option Value → JH → Prop) : Prop :=
  ∀ l : Launch, Met l y (Cond.code y cc nL rt :: TBg) (jroom d k n) (JPc x as h) (JQc x Q) k n (xF x)
def JE (x : JX) (y : MethodName) (cc : ByteArray) (nL : Nat) (rt : Option FieldType) (d : Nat) (p : Program) (R : Room) (s : State) (m : MethodId) (args : Array Value) (meth : Method) (c : Code) (mc ms : Nat) : Prop :=
  p.tables.exec = Jvm.exec ∧ c.code = cc ∧ c.maxLocals = nL ∧ meth.sig.returnType = rt ∧ meth.locks = false ∧ meth.name = y.name ∧ s.vm.findClass y.cls = some m.cls ∧ (∀ w ∈ TBg, w.before args s = true) ∧ d ≤ R.frames ∧ 60 * d ≤ R.locals ∧ mc ≤ R.cells ∧ ms ≤ R.slots ∧ JT x s
def J (x : JX) (y : MethodName) (cc : ByteArray) (nL : Nat) (rt : Option FieldType) (d ck cs : Nat) (Q : Option Value → JH → Prop) (pc : Nat) (ls : List (Option Value)) (st : List Value) (h : JH) : Prop :=
  ∀ (p : Program) (l : Launch) (e : Env) (R : Room) (s : State) (m : MethodId) (args : Array Value) (below : List Frame) (meth : Method) (c : Code) (H : Heap) (locs : List Loc) (cells slots mc ms : Nat) (lsA : Array Slot),
    JE x y cc nL rt d p R s m args meth c mc ms → cells + ck ≤ mc → slots + cs ≤ ms → va_S (xF x) s.heap H locs → JC x h H → JL x lsA nL ls →
    W p l e R s m args below meth c H locs cells slots (MQ below (JQc x Q) args s mc ms (xF x)) (F0 m pc lsA (st.map (mv x)))
theorem tb_mem {w : Cond} (i : Nat) (h : lw_tbl[i]? = some w) (hg : goodWord w = true) : w ∈ TBg := List.mem_filter.mpr ⟨List.mem_of_getElem? h, hg⟩
theorem tb_good {ws : List Cond} (h : ∀ w ∈ ws, w ∈ TBg) : GoodIn TBg ws := fun w hw => ⟨h w hw, good_of_word (List.mem_filter.mp (h w hw)).2⟩
-- the static part moves on with the tables
theorem JT.next {x : JX} {s U : State} (h : JT x s) (hW : s.WarmedH U.vm) (hz : xB x ≤ U.heap.size) (hq : ∀ q : Nat, q < s.heap.size → ¬ xF x q → U.heap[q]? = s.heap[q]?) : JT x U := by
  obtain ⟨hK, hN, hA0, hA4, hb, hX, hx0, hs1, hs2, hs3, hs4, hs5⟩ := h
  refine ⟨va_K.moved hW.alike hK, fun w hw hn => ?_, va_AO.moved hW.alike hA0, va_AO.moved hW.alike hA4, hz, ?_, hx0, fun q h => (hs1 q h).warm hW, vk_S.moved hW.alike (hs2.kept hq), va_Z.moved hW.alike (hs3.kept hq), hs4.elim (fun z => Or.inl (va_Z.moved hW.alike (z.kept hq))) (fun z => Or.inr (va_Z.moved hW.alike (z.kept hq))), hs5⟩
  · have h0 := hN w hw hn
    cases w <;> first | exact va_Nw.warmF hW h0 | exact va_Nw.warmM hW h0 | (exact absurd hn (by simp [jnest]))
  · exact va_X.moved hW.alike (hX.kept (hq _ (Nat.lt_of_lt_of_le hx0 hb) (Nat.not_le.mpr hx0)))
theorem JL.at {x : JX} {lsA : Array Slot} {nL : Nat} {ls : List (Option Value)} (h : JL x lsA nL ls) {i : Nat} {v : Value} (hi : ls[i]? = some (some v)) : lsA[i]? = some (.val (mv x v)) := h.2.2 i v hi
/-- no long lies just below i -/
def nolong (ls : List (Option Value)) (i : Nat) : Bool := match i with
  | 0 => true
  | j + 1 => match ls[j]? with
    | some (some (.long _)) => false
    | some (some (.double _)) => false
    | _ => true
theorem nolong_of {ls : List (Option Value)} {j : Nat} {v : Value} (h : nolong ls (j + 1) = true) (hv : ls[j]? = some (some v)) : ¬ v.category = 2 := by
  simp only [nolong] at h
  rw [hv] at h
  cases v <;> first | (simp [Value.category]; done) | (simp at h; done)
theorem JL.pairs {x : JX} {lsA : Array Slot} {nL : Nat} {ls : List (Option Value)} (h : JL x lsA nL ls) : ∃ l : List (Nat × Value), lv_has lsA nL l ∧ ∀ (j : Nat) (w : Value), ls[j]? = some (some w) → (j, mv x w) ∈ l := by
  refine ⟨(List.range ls.length).filterMap (fun j => (ls.getD j none).map (fun w => (j, mv x w))), ⟨h.1, h.2.1, fun q hq => ?_⟩, fun j w hj => ?_⟩
  · obtain ⟨j, hj, hj2⟩ := List.mem_filterMap.mp hq
    have hjl : j < ls.length := List.mem_range.mp hj
    cases hv : ls.getD j none with
    | none => rw [hv] at hj2; cases hj2
    | some w =>
      rw [hv] at hj2
      cases hj2
      refine h.2.2 j w ?_
      rw [List.getD_eq_getElem?_getD] at hv
      cases h2 : ls[j]? with
      | none => rw [h2] at hv; cases hv
      | some o => rw [h2] at hv; simp at hv; rw [hv]
  · refine List.mem_filterMap.mpr ⟨j, List.mem_range.mpr (List.getElem?_eq_some_iff.mp hj).1, ?_⟩
    rw [List.getD_eq_getElem?_getD, hj]
    rfl
theorem JL.of1 {x : JX} {ls' : Array Slot} {nL i : Nat} {ls : List (Option Value)} {v : Value} {l : List (Nat × Value)} (e2 : lv_has ls' nL ((i, mv x v) :: l.filter (fun q => !(q.1 == i) && !(q.1 + 1 == i && q.2.category == 2)))) (hm : ∀ (j : Nat) (w : Value), ls[j]? = some (some w) → (j, mv x w) ∈ l) (hn : nolong ls i = true) (hll : i < ls.length) : JL x ls' nL (ls.set i (some v)) := by
  refine ⟨e2.1, e2.2.1, fun j w hj => ?_⟩
  by_cases hji : j = i
  · subst hji
    rw [List.getElem?_set_self hll] at hj
    cases hj
    exact e2.2.2 (j, mv x v) List.mem_cons_self
  · rw [List.getElem?_set_ne (Ne.symm hji)] at hj
    refine e2.2.2 (j, mv x w) (List.mem_cons_of_mem _ (List.mem_filter.mpr ⟨hm j w hj, ?_⟩))
    have h2 : ¬ (j + 1 = i ∧ (mv x w).category = 2) := by
      rintro ⟨a, b⟩
      subst a
      rw [mv_cat] at b
      exact nolong_of hn hj b
    simp [hji]
    by_cases a : j + 1 = i
    · exact Or.inr (fun b => h2 ⟨a, b⟩)
    · exact Or.inl a
theorem JL.of2 {x : JX} {ls' : Array Slot} {nL i : Nat} {ls : List (Option Value)} {v : Value} {l : List (Nat × Value)} (e2 : lv_has ls' nL ((i, mv x v) :: l.filter (fun q => !(q.1 == i) && (!(q.1 == i + 1) && !(q.1 + 1 == i && q.2.category == 2))))) (hm : ∀ (j : Nat) (w : Value), ls[j]? = some (some w) → (j, mv x w) ∈ l) (hn : nolong ls i = true) (hll : i + 1 < ls.length) : JL x ls' nL ((ls.set i (some v)).set (i + 1) none) := by
  refine ⟨e2.1, e2.2.1, fun j w hj => ?_⟩
  have hji1 : ¬ j = i + 1 := by
    intro a
    subst a
    rw [List.getElem?_set_self (by rw [List.length_set]; exact hll)] at hj
    cases hj
  rw [List.getElem?_set_ne (Ne.symm hji1)] at hj
  by_cases hji : j = i
  · subst hji
    rw [List.getElem?_set_self (by omega)] at hj
    cases hj
    exact e2.2.2 (j, mv x v) List.mem_cons_self
  · rw [List.getElem?_set_ne (Ne.symm hji)] at hj
    refine e2.2.2 (j, mv x w) (List.mem_cons_of_mem _ (List.mem_filter.mpr ⟨hm j w hj, ?_⟩))
    have h2 : ¬ (j + 1 = i ∧ (mv x w).category = 2) := by
      rintro ⟨a, b⟩
      subst a
      rw [mv_cat] at b
      exact nolong_of hn hj b
    simp [hji, hji1]
    by_cases a : j + 1 = i
    · exact Or.inr (fun b => h2 ⟨a, b⟩)
    · exact Or.inl a
-- the heap's rows
theorem kd_si (h : JH) (o k : Nat) (v : Int32) : kd (si h o k v) = kd h := rfl
theorem kd_sl (h : JH) (o k : Nat) (v : Int64) : kd (sl h o k v) = kd h := rfl
theorem kd_sr (h : JH) (o k : Nat) (v : Option Nat) : kd (sr h o k v) = kd h := rfl
theorem gi_si (h : JH) (o k : Nat) (v : Int32) (a b : Nat) : gi (si h o k v) a b = if a = o ∧ b = k then v else gi h a b := rfl
theorem gi_sl (h : JH) (o k : Nat) (v : Int64) (a b : Nat) : gi (sl h o k v) a b = gi h a b := rfl
theorem gi_sr (h : JH) (o k : Nat) (v : Option Nat) (a b : Nat) : gi (sr h o k v) a b = gi h a b := rfl
theorem gl_si (h : JH) (o k : Nat) (v : Int32) (a b : Nat) : gl (si h o k v) a b = gl h a b := rfl
theorem gl_sl (h : JH) (o k : Nat) (v : Int64) (a b : Nat) : gl (sl h o k v) a b = if a = o ∧ b = k then v else gl h a b := rfl
theorem gl_sr (h : JH) (o k : Nat) (v : Option Nat) (a b : Nat) : gl (sr h o k v) a b = gl h a b := rfl
theorem gr_si (h : JH) (o k : Nat) (v : Int32) (a b : Nat) : gr (si h o k v) a b = gr h a b := rfl
theorem gr_sl (h : JH) (o k : Nat) (v : Int64) (a b : Nat) : gr (sl h o k v) a b = gr h a b := rfl
theorem gr_sr (h : JH) (o k : Nat) (v : Option Nat) (a b : Nat) : gr (sr h o k v) a b = if a = o ∧ b = k then v else gr h a b := rfl
theorem jat.kept {x : JX} {h h' : JH} {k : Nat} {q : Nat × Nat} {H H' : Heap} (hj : jat x h k q H) (hq : H'[xB x + k]? = H[xB x + k]?) (hv : ∀ s j, jval x h' s k j = jval x h s k j) : jat x h' k q H' := by
  unfold jat at hj ⊢
  split
  · rename_i h50
    rw [if_pos h50] at hj
    exact ⟨hj.1, (hj.2.kept hq).to (fun j _ => (hv _ j).symm)⟩
  · rename_i h50
    rw [if_neg h50] at hj
    rw [hq, hj]
    congr 2
    funext j
    exact (hv _ j).symm
/-- one cell is written -/
theorem JC.set {x : JX} {h h' : JH} {H H' : Heap} (hC : JC x h H) {o : Nat} {q : Nat × Nat} (ho : (kd h)[o]? = some q) (hk : kd h' = kd h) (hz : H'.size = H.size) (hn : jat x h' o q H') (oq : ∀ a : Nat, a ≠ xB x + o → H'[a]? = H[a]?) (hv : ∀ k, k ≠ o → ∀ s j, jval x h' s k j = jval x h s k j) : JC x h' H' := by
  refine ⟨by rw [hz, hk]; exact hC.1, by rw [hk]; exact hC.2.1, fun k q' hq' => ?_⟩
  rw [hk] at hq'
  by_cases hko : k = o
  · subst hko
    cases ho.symm.trans hq'
    exact hn
  · exact (hC.2.2 k q' hq').kept (oq _ (by omega)) (hv k hko)
theorem jval_si {x : JX} {h : JH} {o j : Nat} {v : Int32} {s k i : Nat} : jval x (si h o j v) s k i = if s = 0 ∧ k = o ∧ i = j then .int v else jval x h s k i := by
  match s with
  | 0 =>
    show Value.int (if k = o ∧ i = j then v else gi h k i) = _
    by_cases c : k = o ∧ i = j
    · rw [if_pos c, if_pos ⟨rfl, c⟩]
    · rw [if_neg c, if_neg (fun a => c a.2)]; rfl
  | 1 => rw [if_neg (fun a => by cases a.1)]; rfl
  | n + 2 => rw [if_neg (fun a => by cases a.1)]; rfl
theorem jval_sl {x : JX} {h : JH} {o j : Nat} {v : Int64} {s k i : Nat} : jval x (sl h o j v) s k i = if s = 1 ∧ k = o ∧ i = j then .long v else jval x h s k i := by
  match s with
  | 1 =>
    show Value.long (if k = o ∧ i = j then v else gl h k i) = _
    by_cases c : k = o ∧ i = j
    · rw [if_pos c, if_pos ⟨rfl, c⟩]
    · rw [if_neg c, if_neg (fun a => c a.2)]; rfl
  | 0 => rw [if_neg (fun a => by cases a.1)]; rfl
  | n + 2 => rw [if_neg (fun a => by cases a.1)]; rfl
theorem jval_sr {x : JX} {h : JH} {o j : Nat} {v : Option Nat} {s k i : Nat} : jval x (sr h o j v) s k i = if 2 ≤ s ∧ k = o ∧ i = j then mv x (va_rf v) else jval x h s k i := by
  match s with
  | 0 => rw [if_neg (fun a => by omega)]; rfl
  | 1 => rw [if_neg (fun a => by omega)]; rfl
  | n + 2 =>
    show mv x (va_rf (if k = o ∧ i = j then v else gr h k i)) = _
    by_cases c : k = o ∧ i = j
    · rw [if_pos c, if_pos ⟨by omega, c⟩]
    · rw [if_neg c, if_neg (fun a => c a.2)]; rfl
/-- an array's cell -/
theorem jat_arr {x : JX} {h : JH} {k : Nat} {a n : Nat} {H : Heap} (ha : 50 ≤ a) (hj : jat x h k (a, n) H) : H[xB x + k]? = some (arrV (xA x a) n (fun j => jval x h (ssort a 0) k j)) := by
  unfold jat at hj
  rw [if_neg (Nat.not_lt.mpr ha)] at hj
  exact hj
theorem jat_arr' {x : JX} {h : JH} {k : Nat} {a n : Nat} {H : Heap} (ha : 50 ≤ a) (hj : H[xB x + k]? = some (arrV (xA x a) n (fun j => jval x h (ssort a 0) k j))) : jat x h k (a, n) H := by
  unfold jat
  rw [if_neg (Nat.not_lt.mpr ha)]
  exact hj
theorem mr_lt {x : JX} {r : Nat} (h : r < 1000000000) : mr x r = xB x + r := by unfold mr; rw [if_pos h]
theorem JC.lt {x : JX} {h : JH} {H : Heap} (hC : JC x h H) {o : Nat} {q : Nat × Nat} (ho : (kd h)[o]? = some q) : o < 1000000000 := Nat.lt_trans (List.getElem?_eq_some_iff.mp ho).1 hC.2.1
theorem JC.mrE {x : JX} {h : JH} {H : Heap} (hC : JC x h H) {o : Nat} {q : Nat × Nat} (ho : (kd h)[o]? = some q) : mr x o = xB x + o := mr_lt (hC.lt ho)
theorem mv_ref {x : JX} {h : JH} {H : Heap} (hC : JC x h H) {o : Nat} {q : Nat × Nat} (ho : (kd h)[o]? = some q) : mv x (.ref o) = .ref (xB x + o) := by
  show Value.ref (mr x o) = _
  rw [hC.mrE ho]
