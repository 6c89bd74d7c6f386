section JBS
variable {x : JX} {y : MethodName} {cc : ByteArray} {nL : Nat} {rt : Option FieldType} {d ck cs : Nat} {Q : Option Value → JH → Prop} {pc pq : Nat} {ls : List (Option Value)} {st : List Value} {h : JH}
variable {y2 : MethodName} {cc2 : ByteArray} {nL2 : Nat} {rt2 : Option FieldType} {d2 k2 n2 : Nat} {Q2 : Option Value → JH → Prop}
/-- a contract that says all: the answer and the heap behind it -/
def JF (x : JX) (y : MethodName) (cc : ByteArray) (nL : Nat) (rt : Option FieldType) (d k n : Nat) (as : List Value) (h : JH) (r : Option Value) (h' : JH) : Prop := JM x y cc nL rt d k n as h (fun v g => v = r ∧ g = h')
theorem J_getA {idx ci k o N a : Nat} {D : String} {fin : Bool} (hd : decode cc pc = .ok (.getfield idx, 3)) (hp : pc + 3 = pq) (hF : JFld y.cls idx ci k D fin) (hD : jsort D = 2) (ho : (kd h)[o]? = some (ci, N)) (hr : gr h o k = some a) (kk : J x y cc nL rt d ck cs Q pq ls (.ref a :: st) h) : J x y cc nL rt d ck cs Q pc ls (.ref o :: st) h := J_getR hd hp hF hD ho hr kk
theorem J_virtF {idx ci o N : Nat} {as2 : List Value} {stk : List Value} {r : Option Value} {h' : JH} (hd : decode cc pc = .ok (.invokevirtual idx, 3)) (hp : pc + 3 = pq) (hM : JF x y2 cc2 nL2 rt2 d2 k2 n2 (.ref o :: as2) h r h') (hs : stk = as2.reverse ++ .ref o :: st) (hg : JTg y2 cc2 nL2 rt2 as2.length) (hl : JLk y.cls idx y2) (hv : Cond.instanceMethod y2 ∈ TBg ∧ Cond.selects y2.cls y2 y2 ∈ TBg) (ho : (kd h)[o]? = some (ci, N)) (hci : ci < 50 ∧ (vwCl[ci]?).map (fun r => r.1) = some y2.cls) (hdp : d2 + 1 ≤ d) (hk : k2 ≤ ck) (hn : n2 ≤ cs) (hst : (st.map fun v => v.category).sum ≤ 8)
    (kk : J x y cc nL rt d (ck - k2) (cs - n2) Q pq ls (r.toList ++ st) h') : J x y cc nL rt d ck cs Q pc ls stk h := J_virt hd hp hM hs hg hl hv ho hci hdp hk hn hst (fun v g q => by obtain ⟨rfl, rfl⟩ := q; exact kk)
theorem J_statF {idx : Nat} {as2 : List Value} {stk : List Value} {r : Option Value} {h' : JH} (hd : decode cc pc = .ok (.invokestatic idx, 3)) (hp : pc + 3 = pq) (hM : JF x y2 cc2 nL2 rt2 d2 k2 n2 as2 h r h') (hs : stk = as2.reverse ++ st) (hg : JTg y2 cc2 nL2 rt2 as2.length) (hl : JLk y.cls idx y2) (hv : Cond.static y2 ∈ TBg) (hdp : d2 + 1 ≤ d) (hk : k2 ≤ ck) (hn : n2 ≤ cs) (hst : (st.map fun v => v.category).sum ≤ 8)
    (kk : J x y cc nL rt d (ck - k2) (cs - n2) Q pq ls (r.toList ++ st) h') : J x y cc nL rt d ck cs Q pc ls stk h := J_stat hd hp hM hs hg hl hv hdp hk hn hst (fun v g q => by obtain ⟨rfl, rfl⟩ := q; exact kk)
theorem J_initF {idx ci o N : Nat} {as2 : List Value} {stk : List Value} {r : Option Value} {h' : JH} (hd : decode cc pc = .ok (.invokespecial idx, 3)) (hp : pc + 3 = pq) (hM : JF x y2 cc2 nL2 none d2 k2 n2 (.ref o :: as2) h r h') (hs : stk = as2.reverse ++ .ref o :: st) (hg : JTg y2 cc2 nL2 none as2.length) (hl : JLk y.cls idx y2) (hv : Cond.instanceMethod y2 ∈ TBg ∧ y2.name = "<init>") (ho : (kd h)[o]? = some (ci, N)) (hdp : d2 + 1 ≤ d) (hk : k2 ≤ ck) (hn : n2 ≤ cs) (hst : (st.map fun v => v.category).sum ≤ 8)
    (kk : J x y cc nL rt d (ck - k2) (cs - n2) Q pq ls (r.toList ++ st) h') : J x y cc nL rt d ck cs Q pc ls stk h := J_init hd hp hM hs hg hl hv ho hdp hk hn hst (fun v g q => by obtain ⟨rfl, rfl⟩ := q; exact kk)
end JBS
/-- a truth as the machine's int -/
def bi (b : Bool) : Int32 := if b then 1 else 0
theorem bi_0 (b : Bool) : bi b = 0 ↔ b = false := by cases b <;> decide
theorem bi_1 (b : Bool) : bi b = 1 ↔ b = true := by cases b <;> decide
theorem bi_or (b : Bool) : bi b = 0 ∨ bi b = 1 := by cases b <;> decide
theorem bi_and (b : Bool) : bi b &&& 1 = bi b := by cases b <;> decide
theorem bi_nar (b : Bool) : narrow .boolean (.int (bi b)) = .int (bi b) := by cases b <;> rfl
/-- the fixed cells: the class's own, then the reference's -/
abbrev KT : List (Nat × Nat) := [(8, 11), (6, 2), (50, 400), (50, 256), (1, 2), (2, 9), (50, 256), (3, 2), (5, 8), (50, 5), (52, 5), (53, 4), (54, 4), (4, 8), (50, 40), (50, 40), (50, 40), (50, 40), (4, 8), (50, 40), (50, 40), (50, 40), (50, 40), (4, 8), (50, 40), (50, 40), (50, 40), (50, 40), (4, 8), (50, 40), (50, 40), (50, 40), (50, 40), (4, 8), (50, 40), (50, 40), (50, 40), (50, 40), (9, 56), (50, 256), (50, 400), (50, 256), (52, 256), (50, 200), (50, 4), (50, 4), (52, 4), (50, 4), (50, 4), (50, 4), (50, 4), (50, 4), (50, 4), (51, 4), (50, 256), (50, 256), (50, 256), (50, 256), (50, 256), (52, 32), (52, 112), (50, 5), (50, 5), (50, 500), (50, 500), (50, 500), (50, 5), (50, 5), (50, 6), (50, 6), (50, 6), (50, 6), (50, 6), (50, 6), (50, 101), (50, 100)]
def Kin (h : JH) : Prop := ∃ r, kd h = KT ++ r
theorem Kin.at {h : JH} (hK : Kin h) {o : Nat} {q : Nat × Nat} (ho : KT[o]? = some q) : (kd h)[o]? = some q := by
  obtain ⟨r, hr⟩ := hK
  rw [hr, List.getElem?_append_left (List.getElem?_eq_some_iff.mp ho).1]
  exact ho
/-- where the reference's rows lie: by the slot -/
def mrt (k : Nat) : Option Nat := match k with
  | 0 => some 39 | 1 => some 40 | 6 => some 41 | 7 => some 42 | 9 => some 43
  | 13 => some 44 | 14 => some 45 | 15 => some 46 | 16 => some 47 | 17 => some 48 | 18 => some 49 | 19 => some 50 | 20 => some 51 | 21 => some 52 | 22 => some 53
  | 23 => some 54 | 24 => some 55 | 25 => some 56 | 26 => some 57 | 27 => some 58 | 28 => some 59 | 29 => some 60
  | 30 => some 61 | 31 => some 62 | 32 => some 63 | 33 => some 64 | 34 => some 65 | 35 => some 66 | 36 => some 67
  | 41 => some 68 | 42 => some 69 | 43 => some 70 | 44 => some 71 | 45 => some 72 | 46 => some 73 | 52 => some 74 | 54 => some 75
  | _ => none
/-- the reference's object holds its rows -/
def MR (h : JH) : Prop := ∀ k a, mrt k = some a → gr h 38 k = some a
/-- Lean's own order of int32, as the machine tests it -/
abbrev isin (v a b : Int32) : Bool := decide (a ≤ v) && decide (v ≤ b)
theorem i_nlt {a b : Int32} : ¬ a < b ↔ b ≤ a := Int32.not_lt
theorem i_nle {a b : Int32} : ¬ a ≤ b ↔ b < a := Int32.not_le
section JLP
variable {x : JX} {y : MethodName} {cc : ByteArray} {nL : Nat} {rt : Option FieldType} {d ck cs : Nat} {Q : Option Value → JH → Prop} {pc : Nat} {ls ls' : List (Option Value)} {st st' : List Value} {h h' : JH}
theorem J_eq (h1 : ls = ls') (h2 : st = st') (h3 : h = h') (k : J x y cc nL rt d ck cs Q pc ls' st' h') : J x y cc nL rt d ck cs Q pc ls st h := by subst h1; subst h2; subst h3; exact k
/-- a loop: a state of it, what holds, a measure that falls -/
theorem J_loop {σ : Type} (L : σ → List (Option Value)) (S : σ → List Value) (Hh : σ → JH) (I : σ → Prop) (m : σ → Nat) (s0 : σ) (h1 : ls = L s0) (h2 : st = S s0) (h3 : h = Hh s0) (h0 : I s0)
    (step : ∀ s, I s → (∀ s', I s' → m s' < m s → J x y cc nL rt d ck cs Q pc (L s') (S s') (Hh s')) → J x y cc nL rt d ck cs Q pc (L s) (S s) (Hh s)) : J x y cc nL rt d ck cs Q pc ls st h := by
  subst h1; subst h2; subst h3
  have key : ∀ n s, m s < n → I s → J x y cc nL rt d ck cs Q pc (L s) (S s) (Hh s) := by
    intro n
    induction n with
    | zero => intro s h; omega
    | succ n ih => intro s hs hI; exact step s hI (fun s' hI' hlt => ih s' (by omega) hI')
  exact key (m s0 + 1) s0 (by omega) h0
end JLP
-- rows of a cell filled up to n
def fillN (h : JH) (o n : Nat) (v : Int32) : JH := (fun a b => if a = o ∧ b < n then v else h.1 a b, h.2)
theorem fillN_0 (h : JH) (o : Nat) (v : Int32) : fillN h o 0 v = h := by
  unfold fillN
  simp
theorem fillN_s (h : JH) (o n : Nat) (v : Int32) : si (fillN h o n v) o n v = fillN h o (n + 1) v := by
  unfold fillN si
  congr 1
  funext a b
  by_cases ha : a = o
  · by_cases hb : b = n
    · simp [ha, hb]
    · have : (b < n + 1) = (b < n) := by simp; omega
      simp [ha, hb, this]
  · simp [ha]
theorem gi_fillN (h : JH) (o n : Nat) (v : Int32) (a b : Nat) : gi (fillN h o n v) a b = if a = o ∧ b < n then v else gi h a b := rfl
-- numbers
theorem ti_add {a b : Int32} (h1 : -2147483648 ≤ a.toInt + b.toInt) (h2 : a.toInt + b.toInt < 2147483648) : (a + b).toInt = a.toInt + b.toInt := by
  rw [Int32.toInt_add, Int.bmod_eq_of_le (by omega) (by omega)]
theorem ti_sub {a b : Int32} (h1 : -2147483648 ≤ a.toInt - b.toInt) (h2 : a.toInt - b.toInt < 2147483648) : (a - b).toInt = a.toInt - b.toInt := by
  rw [Int32.toInt_sub, Int.bmod_eq_of_le (by omega) (by omega)]
theorem ti_rng (a : Int32) : -2147483648 ≤ a.toInt ∧ a.toInt < 2147483648 := ⟨Int32.le_toInt a, Int32.toInt_lt a⟩
theorem ti_lt {a b : Int32} : a < b ↔ a.toInt < b.toInt := Int32.lt_iff_toInt_lt
theorem ti_le {a b : Int32} : a ≤ b ↔ a.toInt ≤ b.toInt := Int32.le_iff_toInt_le
theorem ti_eq {a b : Int32} : a = b ↔ a.toInt = b.toInt := Int32.toInt_inj.symm
theorem ix_eq {a : Int32} : ix a = a.toInt.toNat := rfl
theorem vin {i : Int32} {n : Nat} (h1 : 0 ≤ i.toInt) (h2 : i.toInt < n) : vp_in i n := vp_in_iff.mpr ⟨h1, h2⟩
theorem isin_t {v a b : Int32} : isin v a b = true ↔ a.toInt ≤ v.toInt ∧ v.toInt ≤ b.toInt := by simp [isin, ti_le]
theorem isin_f {v a b : Int32} : isin v a b = false ↔ ¬ (a.toInt ≤ v.toInt ∧ v.toInt ≤ b.toInt) := by rw [← isin_t]; cases isin v a b <;> simp
theorem bif_t {α : Type} {b : Bool} {u v : α} (h : b = true) : (if b then u else v) = u := by rw [h]; rfl
theorem bif_f {α : Type} {b : Bool} {u v : α} (h : b = false) : (if b then u else v) = v := by rw [h]; rfl
/-- a byte is put behind the reference's tape -/
def mAdd (h : JH) (b : Int32) : JH := si (si h 40 (ix (gi h 38 2)) b) 38 2 (gi h 38 2 + 1)
section JCT
variable {x : JX} {y : MethodName} {cc : ByteArray} {nL : Nat} {rt : Option FieldType} {d ck cs : Nat} {Q : Option Value → JH → Prop} {pc : Nat} {ls : List (Option Value)} {st : List Value} {h : JH}
/-- a place where ways meet -/
theorem J_cut {σ : Type} (pc1 : Nat) (L : σ → List (Option Value)) (S : σ → List Value) (Hh : σ → JH) (I : σ → Prop) (k1 : ∀ s, I s → J x y cc nL rt d ck cs Q pc1 (L s) (S s) (Hh s)) (k2 : (∀ s, I s → J x y cc nL rt d ck cs Q pc1 (L s) (S s) (Hh s)) → J x y cc nL rt d ck cs Q pc ls st h) : J x y cc nL rt d ck cs Q pc ls st h := k2 k1
theorem JF_of {as : List Value} {r : Option Value} {h' : JH} (ls : List (Option Value)) (hy : plainName y.cls = true) (hl : (jargs as).length ≤ nL) (hls : jargs as ++ List.replicate (nL - (jargs as).length) none = ls) (kk : J x y cc nL rt d ck cs (fun v g => v = r ∧ g = h') 0 ls [] h) : JF x y cc nL rt d ck cs as h r h' := JM_of ls hy hl hls kk
end JCT
/-- the list knows no more than the other -/
def lsub : List (Option Value) → List (Option Value) → Prop
  | [], _ => True
  | none :: l, _ :: m => lsub l m
  | some v :: l, w :: m => w = some v ∧ lsub l m
  | _ :: _, [] => False
theorem lsub_at : ∀ {l m : List (Option Value)}, lsub l m → ∀ (i : Nat) (v : Value), l[i]? = some (some v) → m[i]? = some (some v)
  | [], _, _, i, v, h => by simp at h
  | none :: l, w :: m, hs, i, v, h => by
    cases i with
    | zero => simp at h
    | succ i => simp only [List.getElem?_cons_succ] at h ⊢; exact lsub_at (l := l) hs i v h
  | some u :: l, w :: m, hs, i, v, h => by
    cases i with
    | zero => simp only [List.getElem?_cons_zero, Option.some.injEq] at h ⊢; rw [hs.1]; exact congrArg some h
    | succ i => simp only [List.getElem?_cons_succ] at h ⊢; exact lsub_at (l := l) hs.2 i v h
  | none :: l, [], hs, _, _, _ => hs.elim
  | some _ :: l, [], hs, _, _, _ => hs.elim
theorem J_weak {x : JX} {y : MethodName} {cc : ByteArray} {nL : Nat} {rt : Option FieldType} {d ck cs : Nat} {Q : Option Value → JH → Prop} {pc : Nat} {ls ls' : List (Option Value)} {st st' : List Value} {h h' : JH} (h1 : lsub ls' ls) (h2 : st = st') (h3 : h = h') (k : J x y cc nL rt d ck cs Q pc ls' st' h') : J x y cc nL rt d ck cs Q pc ls st h := by
  subst h2; subst h3
  intro p l e R s m args below meth c H locs cells slots mc ms lsA E g1 g2 g3 g4 g5
  exact k p l e R s m args below meth c H locs cells slots mc ms lsA E g1 g2 g3 g4 ⟨g5.1, g5.2.1, fun i v hi => g5.2.2 i v (lsub_at h1 i v hi)⟩
section JSN
variable {x : JX} {y : MethodName} {cc : ByteArray} {nL : Nat} {rt : Option FieldType} {d ck cs : Nat} {Q : Option Value → JH → Prop} {pc pq : Nat} {ls : List (Option Value)} {st : List Value} {h : JH}
theorem J_istore_m {k0 : Fin 4} (i : Nat) {v : Int32} (hd : decode cc pc = .ok (.istore_n k0, 1)) (hp : pc + 1 = pq) (hi : (k0 : Nat) = i) (hn : i < nL) (hll : i < ls.length) (hno : nolong ls i = true) (k : J x y cc nL rt d ck cs Q pq (ls.set i (some (.int v))) st h) : J x y cc nL rt d ck cs Q pc ls (.int v :: st) h := by subst hi; exact J_istore_n hd hp hn hll hno k
theorem J_lstore_m {k0 : Fin 4} (i : Nat) {v : Int64} (hd : decode cc pc = .ok (.lstore_n k0, 1)) (hp : pc + 1 = pq) (hi : (k0 : Nat) = i) (hn : i + 1 < nL) (hll : i + 1 < ls.length) (hno : nolong ls i = true) (k : J x y cc nL rt d ck cs Q pq ((ls.set i (some (.long v))).set (i + 1) none) st h) : J x y cc nL rt d ck cs Q pc ls (.long v :: st) h := by subst hi; exact J_lstore_n hd hp hn hll hno k
theorem J_astore_m {k0 : Fin 4} (i : Nat) {r : Nat} (hd : decode cc pc = .ok (.astore_n k0, 1)) (hp : pc + 1 = pq) (hi : (k0 : Nat) = i) (hn : i < nL) (hll : i < ls.length) (hno : nolong ls i = true) (k : J x y cc nL rt d ck cs Q pq (ls.set i (some (.ref r))) st h) : J x y cc nL rt d ck cs Q pc ls (.ref r :: st) h := by subst hi; exact J_astore_n hd hp hn hll hno k
theorem J_astore_mN {k0 : Fin 4} (i : Nat) (hd : decode cc pc = .ok (.astore_n k0, 1)) (hp : pc + 1 = pq) (hi : (k0 : Nat) = i) (hn : i < nL) (hll : i < ls.length) (hno : nolong ls i = true) (k : J x y cc nL rt d ck cs Q pq (ls.set i (some .null)) st h) : J x y cc nL rt d ck cs Q pc ls (.null :: st) h := by subst hi; exact J_astore_nN hd hp hn hll hno k
end JSN
