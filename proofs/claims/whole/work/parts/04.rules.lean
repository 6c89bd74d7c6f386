section JR
variable {x : JX} {y : MethodName} {cc : ByteArray} {nL : Nat} {rt : Option FieldType} {d ck cs : Nat} {Q : Option Value → JH → Prop} {pc pq : Nat} {ls : List (Option Value)} {st : List Value} {h : JH}
theorem J_iconst {n : Int} {v : Int32} (hd : decode cc pc = .ok (.iconst n, 1)) (hp : pc + 1 = pq) (hv : Int32.ofInt n = v) (k : J x y cc nL rt d ck cs Q pq ls (.int v :: st) h) : J x y cc nL rt d ck cs Q pc ls st h := by
  subst hp
  intro p l e R s m args below meth c H locs cells slots mc ms lsA E h1 h2 h3 h4 h5
  exact lv_iconst E.1 E.2.1 hd hv (k p l e R s m args below meth c H locs cells slots mc ms lsA E h1 h2 h3 h4 h5)
theorem J_bipush {n : Int} {v : Int32} (hd : decode cc pc = .ok (.bipush n, 2)) (hp : pc + 2 = pq) (hv : (Int8.ofInt n).toInt32 = v) (k : J x y cc nL rt d ck cs Q pq ls (.int v :: st) h) : J x y cc nL rt d ck cs Q pc ls st h := by
  subst hp
  intro p l e R s m args below meth c H locs cells slots mc ms lsA E h1 h2 h3 h4 h5
  exact lv_bipush E.1 E.2.1 hd hv (k p l e R s m args below meth c H locs cells slots mc ms lsA E h1 h2 h3 h4 h5)
theorem J_sipush {n : Int} {v : Int32} (hd : decode cc pc = .ok (.sipush n, 3)) (hp : pc + 3 = pq) (hv : (Int16.ofInt n).toInt32 = v) (k : J x y cc nL rt d ck cs Q pq ls (.int v :: st) h) : J x y cc nL rt d ck cs Q pc ls st h := by
  subst hp
  intro p l e R s m args below meth c H locs cells slots mc ms lsA E h1 h2 h3 h4 h5
  exact lv_sipush E.1 E.2.1 hd hv (k p l e R s m args below meth c H locs cells slots mc ms lsA E h1 h2 h3 h4 h5)
theorem J_lconst {n : Fin 2} {v : Int64} (hd : decode cc pc = .ok (.lconst n, 1)) (hp : pc + 1 = pq) (hv : Int64.ofNat (n : Nat) = v) (k : J x y cc nL rt d ck cs Q pq ls (.long v :: st) h) : J x y cc nL rt d ck cs Q pc ls st h := by
  subst hp
  intro p l e R s m args below meth c H locs cells slots mc ms lsA E h1 h2 h3 h4 h5
  exact lv_lconst E.1 E.2.1 hd hv (k p l e R s m args below meth c H locs cells slots mc ms lsA E h1 h2 h3 h4 h5)
theorem J_ldc {n : Nat} {v : Int32} (hd : decode cc pc = .ok (.ldc n, 2)) (hp : pc + 2 = pq) (hw : Cond.constant y.cls n v ∈ TBg) (k : J x y cc nL rt d ck cs Q pq ls (.int v :: st) h) : J x y cc nL rt d ck cs Q pc ls st h := by
  subst hp
  intro p l e R s m args below meth c H locs cells slots mc ms lsA E h1 h2 h3 h4 h5
  exact lv_ldc E.1 E.2.1 E.2.2.2.2.2.2.1 (E.2.2.2.2.2.2.2.1 _ hw) hd (k p l e R s m args below meth c H locs cells slots mc ms lsA E h1 h2 h3 h4 h5)
theorem J_ldcw {n : Nat} {v : Int32} (hd : decode cc pc = .ok (.ldc_w n, 3)) (hp : pc + 3 = pq) (hw : Cond.constant y.cls n v ∈ TBg) (k : J x y cc nL rt d ck cs Q pq ls (.int v :: st) h) : J x y cc nL rt d ck cs Q pc ls st h := by
  subst hp
  intro p l e R s m args below meth c H locs cells slots mc ms lsA E h1 h2 h3 h4 h5
  exact lv_ldcw E.1 E.2.1 E.2.2.2.2.2.2.1 (E.2.2.2.2.2.2.2.1 _ hw) hd (k p l e R s m args below meth c H locs cells slots mc ms lsA E h1 h2 h3 h4 h5)
theorem J_ldc2 {n : Nat} {v : Int64} (hd : decode cc pc = .ok (.ldc2_w n, 3)) (hp : pc + 3 = pq) (hw : Cond.constantLong y.cls n v ∈ TBg) (k : J x y cc nL rt d ck cs Q pq ls (.long v :: st) h) : J x y cc nL rt d ck cs Q pc ls st h := by
  subst hp
  intro p l e R s m args below meth c H locs cells slots mc ms lsA E h1 h2 h3 h4 h5
  exact lv_ldc2 E.1 E.2.1 E.2.2.2.2.2.2.1 (E.2.2.2.2.2.2.2.1 _ hw) hd (k p l e R s m args below meth c H locs cells slots mc ms lsA E h1 h2 h3 h4 h5)
theorem J_iload_n {k0 : Fin 4} {v : Int32} (hd : decode cc pc = .ok (.iload_n k0, 1)) (hp : pc + 1 = pq) (hl : ls[(k0 : Nat)]? = some (some (.int v))) (k : J x y cc nL rt d ck cs Q pq ls (.int v :: st) h) : J x y cc nL rt d ck cs Q pc ls st h := by
  subst hp
  intro p l e R s m args below meth c H locs cells slots mc ms lsA E h1 h2 h3 h4 h5
  exact lv_iload_n E.1 E.2.1 hd rfl (h5.at hl) (k p l e R s m args below meth c H locs cells slots mc ms lsA E h1 h2 h3 h4 h5)
theorem J_iload {i : Nat} {v : Int32} (hd : decode cc pc = .ok (.iload i, 2)) (hp : pc + 2 = pq) (hl : ls[i]? = some (some (.int v))) (k : J x y cc nL rt d ck cs Q pq ls (.int v :: st) h) : J x y cc nL rt d ck cs Q pc ls st h := by
  subst hp
  intro p l e R s m args below meth c H locs cells slots mc ms lsA E h1 h2 h3 h4 h5
  exact lv_iload E.1 E.2.1 hd (h5.at hl) (k p l e R s m args below meth c H locs cells slots mc ms lsA E h1 h2 h3 h4 h5)
theorem J_lload_n {k0 : Fin 4} {v : Int64} (hd : decode cc pc = .ok (.lload_n k0, 1)) (hp : pc + 1 = pq) (hl : ls[(k0 : Nat)]? = some (some (.long v))) (k : J x y cc nL rt d ck cs Q pq ls (.long v :: st) h) : J x y cc nL rt d ck cs Q pc ls st h := by
  subst hp
  intro p l e R s m args below meth c H locs cells slots mc ms lsA E h1 h2 h3 h4 h5
  exact lv_lload_n E.1 E.2.1 hd rfl (h5.at hl) (k p l e R s m args below meth c H locs cells slots mc ms lsA E h1 h2 h3 h4 h5)
theorem J_lload {i : Nat} {v : Int64} (hd : decode cc pc = .ok (.lload i, 2)) (hp : pc + 2 = pq) (hl : ls[i]? = some (some (.long v))) (k : J x y cc nL rt d ck cs Q pq ls (.long v :: st) h) : J x y cc nL rt d ck cs Q pc ls st h := by
  subst hp
  intro p l e R s m args below meth c H locs cells slots mc ms lsA E h1 h2 h3 h4 h5
  exact lv_lload E.1 E.2.1 hd (h5.at hl) (k p l e R s m args below meth c H locs cells slots mc ms lsA E h1 h2 h3 h4 h5)
theorem J_aload_n {k0 : Fin 4} {r : Nat} (hd : decode cc pc = .ok (.aload_n k0, 1)) (hp : pc + 1 = pq) (hl : ls[(k0 : Nat)]? = some (some (.ref r))) (k : J x y cc nL rt d ck cs Q pq ls (.ref r :: st) h) : J x y cc nL rt d ck cs Q pc ls st h := by
  subst hp
  intro p l e R s m args below meth c H locs cells slots mc ms lsA E h1 h2 h3 h4 h5
  exact lv_aload_n E.1 E.2.1 hd rfl (h5.at hl) (k p l e R s m args below meth c H locs cells slots mc ms lsA E h1 h2 h3 h4 h5)
theorem J_aload {i : Nat} {r : Nat} (hd : decode cc pc = .ok (.aload i, 2)) (hp : pc + 2 = pq) (hl : ls[i]? = some (some (.ref r))) (k : J x y cc nL rt d ck cs Q pq ls (.ref r :: st) h) : J x y cc nL rt d ck cs Q pc ls st h := by
  subst hp
  intro p l e R s m args below meth c H locs cells slots mc ms lsA E h1 h2 h3 h4 h5
  exact lv_aload E.1 E.2.1 hd (h5.at hl) (k p l e R s m args below meth c H locs cells slots mc ms lsA E h1 h2 h3 h4 h5)
theorem J_aload_nN {k0 : Fin 4} (hd : decode cc pc = .ok (.aload_n k0, 1)) (hp : pc + 1 = pq) (hl : ls[(k0 : Nat)]? = some (some .null)) (k : J x y cc nL rt d ck cs Q pq ls (.null :: st) h) : J x y cc nL rt d ck cs Q pc ls st h := by
  subst hp
  intro p l e R s m args below meth c H locs cells slots mc ms lsA E h1 h2 h3 h4 h5
  exact lv_aload_nN E.1 E.2.1 hd rfl (h5.at hl) (k p l e R s m args below meth c H locs cells slots mc ms lsA E h1 h2 h3 h4 h5)
theorem J_aloadN {i : Nat} (hd : decode cc pc = .ok (.aload i, 2)) (hp : pc + 2 = pq) (hl : ls[i]? = some (some .null)) (k : J x y cc nL rt d ck cs Q pq ls (.null :: st) h) : J x y cc nL rt d ck cs Q pc ls st h := by
  subst hp
  intro p l e R s m args below meth c H locs cells slots mc ms lsA E h1 h2 h3 h4 h5
  exact lv_aloadN E.1 E.2.1 hd (h5.at hl) (k p l e R s m args below meth c H locs cells slots mc ms lsA E h1 h2 h3 h4 h5)
theorem J_null  (hd : decode cc pc = .ok (.aconst_null, 1)) (hp : pc + 1 = pq)  (k : J x y cc nL rt d ck cs Q pq ls (.null :: st) h) : J x y cc nL rt d ck cs Q pc ls st h := by
  subst hp
  intro p l e R s m args below meth c H locs cells slots mc ms lsA E h1 h2 h3 h4 h5
  exact lv_null E.1 E.2.1 hd (k p l e R s m args below meth c H locs cells slots mc ms lsA E h1 h2 h3 h4 h5)
theorem J_iadd {a b : Int32} (hd : decode cc pc = .ok (.iadd, 1)) (hp : pc + 1 = pq)  (k : J x y cc nL rt d ck cs Q pq ls (.int (a + b) :: st) h) : J x y cc nL rt d ck cs Q pc ls (.int b :: .int a :: st) h := by
  subst hp
  intro p l e R s m args below meth c H locs cells slots mc ms lsA E h1 h2 h3 h4 h5
  exact lv_iadd E.1 E.2.1 hd (k p l e R s m args below meth c H locs cells slots mc ms lsA E h1 h2 h3 h4 h5)
theorem J_isub {a b : Int32} (hd : decode cc pc = .ok (.isub, 1)) (hp : pc + 1 = pq)  (k : J x y cc nL rt d ck cs Q pq ls (.int (a - b) :: st) h) : J x y cc nL rt d ck cs Q pc ls (.int b :: .int a :: st) h := by
  subst hp
  intro p l e R s m args below meth c H locs cells slots mc ms lsA E h1 h2 h3 h4 h5
  exact lv_isub E.1 E.2.1 hd (k p l e R s m args below meth c H locs cells slots mc ms lsA E h1 h2 h3 h4 h5)
theorem J_imul {a b : Int32} (hd : decode cc pc = .ok (.imul, 1)) (hp : pc + 1 = pq)  (k : J x y cc nL rt d ck cs Q pq ls (.int (a * b) :: st) h) : J x y cc nL rt d ck cs Q pc ls (.int b :: .int a :: st) h := by
  subst hp
  intro p l e R s m args below meth c H locs cells slots mc ms lsA E h1 h2 h3 h4 h5
  exact lv_imul E.1 E.2.1 hd (k p l e R s m args below meth c H locs cells slots mc ms lsA E h1 h2 h3 h4 h5)
theorem J_iand {a b : Int32} (hd : decode cc pc = .ok (.iand, 1)) (hp : pc + 1 = pq)  (k : J x y cc nL rt d ck cs Q pq ls (.int (a &&& b) :: st) h) : J x y cc nL rt d ck cs Q pc ls (.int b :: .int a :: st) h := by
  subst hp
  intro p l e R s m args below meth c H locs cells slots mc ms lsA E h1 h2 h3 h4 h5
  exact lv_iand E.1 E.2.1 hd (k p l e R s m args below meth c H locs cells slots mc ms lsA E h1 h2 h3 h4 h5)
theorem J_ior {a b : Int32} (hd : decode cc pc = .ok (.ior, 1)) (hp : pc + 1 = pq)  (k : J x y cc nL rt d ck cs Q pq ls (.int (a ||| b) :: st) h) : J x y cc nL rt d ck cs Q pc ls (.int b :: .int a :: st) h := by
  subst hp
  intro p l e R s m args below meth c H locs cells slots mc ms lsA E h1 h2 h3 h4 h5
  exact lv_ior E.1 E.2.1 hd (k p l e R s m args below meth c H locs cells slots mc ms lsA E h1 h2 h3 h4 h5)
theorem J_ixor {a b : Int32} (hd : decode cc pc = .ok (.ixor, 1)) (hp : pc + 1 = pq)  (k : J x y cc nL rt d ck cs Q pq ls (.int (a ^^^ b) :: st) h) : J x y cc nL rt d ck cs Q pc ls (.int b :: .int a :: st) h := by
  subst hp
  intro p l e R s m args below meth c H locs cells slots mc ms lsA E h1 h2 h3 h4 h5
  exact lv_ixor E.1 E.2.1 hd (k p l e R s m args below meth c H locs cells slots mc ms lsA E h1 h2 h3 h4 h5)
theorem J_ishl {a b : Int32} (hd : decode cc pc = .ok (.ishl, 1)) (hp : pc + 1 = pq)  (k : J x y cc nL rt d ck cs Q pq ls (.int (a <<< (b &&& 31)) :: st) h) : J x y cc nL rt d ck cs Q pc ls (.int b :: .int a :: st) h := by
  subst hp
  intro p l e R s m args below meth c H locs cells slots mc ms lsA E h1 h2 h3 h4 h5
  exact lv_ishl E.1 E.2.1 hd (k p l e R s m args below meth c H locs cells slots mc ms lsA E h1 h2 h3 h4 h5)
theorem J_ishr {a b : Int32} (hd : decode cc pc = .ok (.ishr, 1)) (hp : pc + 1 = pq)  (k : J x y cc nL rt d ck cs Q pq ls (.int (a >>> (b &&& 31)) :: st) h) : J x y cc nL rt d ck cs Q pc ls (.int b :: .int a :: st) h := by
  subst hp
  intro p l e R s m args below meth c H locs cells slots mc ms lsA E h1 h2 h3 h4 h5
  exact lv_ishr E.1 E.2.1 hd (k p l e R s m args below meth c H locs cells slots mc ms lsA E h1 h2 h3 h4 h5)
theorem J_idiv {a b : Int32} (hd : decode cc pc = .ok (.idiv, 1)) (hp : pc + 1 = pq) (hne : ¬ b = 0) (k : J x y cc nL rt d ck cs Q pq ls (.int (a / b) :: st) h) : J x y cc nL rt d ck cs Q pc ls (.int b :: .int a :: st) h := by
  subst hp
  intro p l e R s m args below meth c H locs cells slots mc ms lsA E h1 h2 h3 h4 h5
  exact lv_idiv E.1 E.2.1 hd hne (k p l e R s m args below meth c H locs cells slots mc ms lsA E h1 h2 h3 h4 h5)
theorem J_irem {a b : Int32} (hd : decode cc pc = .ok (.irem, 1)) (hp : pc + 1 = pq) (hne : ¬ b = 0) (k : J x y cc nL rt d ck cs Q pq ls (.int (a - a / b * b) :: st) h) : J x y cc nL rt d ck cs Q pc ls (.int b :: .int a :: st) h := by
  subst hp
  intro p l e R s m args below meth c H locs cells slots mc ms lsA E h1 h2 h3 h4 h5
  exact lv_irem E.1 E.2.1 hd hne (k p l e R s m args below meth c H locs cells slots mc ms lsA E h1 h2 h3 h4 h5)
theorem J_ladd {a b : Int64} (hd : decode cc pc = .ok (.ladd, 1)) (hp : pc + 1 = pq)  (k : J x y cc nL rt d ck cs Q pq ls (.long (a + b) :: st) h) : J x y cc nL rt d ck cs Q pc ls (.long b :: .long a :: st) h := by
  subst hp
  intro p l e R s m args below meth c H locs cells slots mc ms lsA E h1 h2 h3 h4 h5
  exact lv_ladd E.1 E.2.1 hd (k p l e R s m args below meth c H locs cells slots mc ms lsA E h1 h2 h3 h4 h5)
theorem J_lmul {a b : Int64} (hd : decode cc pc = .ok (.lmul, 1)) (hp : pc + 1 = pq)  (k : J x y cc nL rt d ck cs Q pq ls (.long (a * b) :: st) h) : J x y cc nL rt d ck cs Q pc ls (.long b :: .long a :: st) h := by
  subst hp
  intro p l e R s m args below meth c H locs cells slots mc ms lsA E h1 h2 h3 h4 h5
  exact lv_lmul E.1 E.2.1 hd (k p l e R s m args below meth c H locs cells slots mc ms lsA E h1 h2 h3 h4 h5)
theorem J_lor {a b : Int64} (hd : decode cc pc = .ok (.lor, 1)) (hp : pc + 1 = pq)  (k : J x y cc nL rt d ck cs Q pq ls (.long (a ||| b) :: st) h) : J x y cc nL rt d ck cs Q pc ls (.long b :: .long a :: st) h := by
  subst hp
  intro p l e R s m args below meth c H locs cells slots mc ms lsA E h1 h2 h3 h4 h5
  exact lv_lor E.1 E.2.1 hd (k p l e R s m args below meth c H locs cells slots mc ms lsA E h1 h2 h3 h4 h5)
theorem J_iushr {a b : Int32} (hd : decode cc pc = .ok (.iushr, 1)) (hp : pc + 1 = pq)  (k : J x y cc nL rt d ck cs Q pq ls (.int (a.toUInt32 >>> (b.toUInt32 &&& Int32.toUInt32 31)).toInt32 :: st) h) : J x y cc nL rt d ck cs Q pc ls (.int b :: .int a :: st) h := by
  subst hp
  intro p l e R s m args below meth c H locs cells slots mc ms lsA E h1 h2 h3 h4 h5
  exact lv_iushr E.1 E.2.1 hd rfl (k p l e R s m args below meth c H locs cells slots mc ms lsA E h1 h2 h3 h4 h5)
theorem J_lshl {a : Int64} {b : Int32} (hd : decode cc pc = .ok (.lshl, 1)) (hp : pc + 1 = pq)  (k : J x y cc nL rt d ck cs Q pq ls (.long (a <<< (b.toInt64 &&& 63)) :: st) h) : J x y cc nL rt d ck cs Q pc ls (.int b :: .long a :: st) h := by
  subst hp
  intro p l e R s m args below meth c H locs cells slots mc ms lsA E h1 h2 h3 h4 h5
  exact lv_lshl E.1 E.2.1 hd rfl (k p l e R s m args below meth c H locs cells slots mc ms lsA E h1 h2 h3 h4 h5)
theorem J_i2l {a : Int32} (hd : decode cc pc = .ok (.i2l, 1)) (hp : pc + 1 = pq)  (k : J x y cc nL rt d ck cs Q pq ls (.long a.toInt64 :: st) h) : J x y cc nL rt d ck cs Q pc ls (.int a :: st) h := by
  subst hp
  intro p l e R s m args below meth c H locs cells slots mc ms lsA E h1 h2 h3 h4 h5
  exact lv_i2l E.1 E.2.1 hd rfl (k p l e R s m args below meth c H locs cells slots mc ms lsA E h1 h2 h3 h4 h5)
theorem J_l2i {a : Int64} (hd : decode cc pc = .ok (.l2i, 1)) (hp : pc + 1 = pq)  (k : J x y cc nL rt d ck cs Q pq ls (.int a.toInt32 :: st) h) : J x y cc nL rt d ck cs Q pc ls (.long a :: st) h := by
  subst hp
  intro p l e R s m args below meth c H locs cells slots mc ms lsA E h1 h2 h3 h4 h5
  exact lv_l2i E.1 E.2.1 hd rfl (k p l e R s m args below meth c H locs cells slots mc ms lsA E h1 h2 h3 h4 h5)
theorem J_lcmp {a b : Int64} (hd : decode cc pc = .ok (.lcmp, 1)) (hp : pc + 1 = pq)  (k : J x y cc nL rt d ck cs Q pq ls (.int (lg_cmp a b) :: st) h) : J x y cc nL rt d ck cs Q pc ls (.long b :: .long a :: st) h := by
  subst hp
  intro p l e R s m args below meth c H locs cells slots mc ms lsA E h1 h2 h3 h4 h5
  exact W.lcmp E.1 E.2.1 hd (k p l e R s m args below meth c H locs cells slots mc ms lsA E h1 h2 h3 h4 h5)
theorem J_dup {v : Value} (hd : decode cc pc = .ok (.dup, 1)) (hp : pc + 1 = pq) (hv : v.category = 1) (k : J x y cc nL rt d ck cs Q pq ls (v :: v :: st) h) : J x y cc nL rt d ck cs Q pc ls (v :: st) h := by
  subst hp
  intro p l e R s m args below meth c H locs cells slots mc ms lsA E h1 h2 h3 h4 h5
  exact lv_dup E.1 E.2.1 hd (by rw [mv_cat]; exact hv) (k p l e R s m args below meth c H locs cells slots mc ms lsA E h1 h2 h3 h4 h5)
theorem J_pop {v : Value} (hd : decode cc pc = .ok (.pop, 1)) (hp : pc + 1 = pq) (hv : v.category = 1) (k : J x y cc nL rt d ck cs Q pq ls st h) : J x y cc nL rt d ck cs Q pc ls (v :: st) h := by
  subst hp
  intro p l e R s m args below meth c H locs cells slots mc ms lsA E h1 h2 h3 h4 h5
  exact lv_pop E.1 E.2.1 hd (by rw [mv_cat]; exact hv) (k p l e R s m args below meth c H locs cells slots mc ms lsA E h1 h2 h3 h4 h5)
theorem J_dup2 {v w : Value} (hd : decode cc pc = .ok (.dup2, 1)) (hp : pc + 1 = pq) (hv : v.category = 1) (hw : w.category = 1) (k : J x y cc nL rt d ck cs Q pq ls (v :: w :: v :: w :: st) h) : J x y cc nL rt d ck cs Q pc ls (v :: w :: st) h := by
  subst hp
  intro p l e R s m args below meth c H locs cells slots mc ms lsA E h1 h2 h3 h4 h5
  exact lv_dup2_11 E.1 E.2.1 hd (by rw [mv_cat]; exact hv) (by rw [mv_cat]; exact hw) (k p l e R s m args below meth c H locs cells slots mc ms lsA E h1 h2 h3 h4 h5)
theorem J_istore_n {k0 : Fin 4} {v : Int32} (hd : decode cc pc = .ok (.istore_n k0, 1)) (hp : pc + 1 = pq)  (hn : (k0 : Nat) < nL) (hll : (k0 : Nat) < ls.length) (hno : nolong ls (k0 : Nat) = true) (k : J x y cc nL rt d ck cs Q pq (ls.set (k0 : Nat) (some (.int v))) st h) : J x y cc nL rt d ck cs Q pc ls (.int v :: st) h := by
  subst hp
  intro p l e R s m args below meth c H locs cells slots mc ms lsA E h1 h2 h3 h4 h5
  obtain ⟨l0, hl0, hm0⟩ := h5.pairs
  exact lv_istore_n E.1 E.2.1 hd rfl hl0 hn rfl (fun ls' e' => k p l e R s m args below meth c H locs cells slots mc ms ls' E h1 h2 h3 h4 (JL.of1 (v := .int v) e' hm0 hno hll))
theorem J_istore {i : Nat} {v : Int32} (hd : decode cc pc = .ok (.istore i, 2)) (hp : pc + 2 = pq)  (hn : i < nL) (hll : i < ls.length) (hno : nolong ls i = true) (k : J x y cc nL rt d ck cs Q pq (ls.set i (some (.int v))) st h) : J x y cc nL rt d ck cs Q pc ls (.int v :: st) h := by
  subst hp
  intro p l e R s m args below meth c H locs cells slots mc ms lsA E h1 h2 h3 h4 h5
  obtain ⟨l0, hl0, hm0⟩ := h5.pairs
  exact lv_istore E.1 E.2.1 hd hl0 hn rfl (fun ls' e' => k p l e R s m args below meth c H locs cells slots mc ms ls' E h1 h2 h3 h4 (JL.of1 (v := .int v) e' hm0 hno hll))
theorem J_lstore_n {k0 : Fin 4} {v : Int64} (hd : decode cc pc = .ok (.lstore_n k0, 1)) (hp : pc + 1 = pq)  (hn : (k0 : Nat) + 1 < nL) (hll : (k0 : Nat) + 1 < ls.length) (hno : nolong ls (k0 : Nat) = true) (k : J x y cc nL rt d ck cs Q pq ((ls.set (k0 : Nat) (some (.long v))).set ((k0 : Nat) + 1) none) st h) : J x y cc nL rt d ck cs Q pc ls (.long v :: st) h := by
  subst hp
  intro p l e R s m args below meth c H locs cells slots mc ms lsA E h1 h2 h3 h4 h5
  obtain ⟨l0, hl0, hm0⟩ := h5.pairs
  exact lv_lstore_n E.1 E.2.1 hd rfl hl0 hn rfl (fun ls' e' => k p l e R s m args below meth c H locs cells slots mc ms ls' E h1 h2 h3 h4 (JL.of2 (v := .long v) e' hm0 hno hll))
theorem J_lstore {i : Nat} {v : Int64} (hd : decode cc pc = .ok (.lstore i, 2)) (hp : pc + 2 = pq)  (hn : i + 1 < nL) (hll : i + 1 < ls.length) (hno : nolong ls i = true) (k : J x y cc nL rt d ck cs Q pq ((ls.set i (some (.long v))).set (i + 1) none) st h) : J x y cc nL rt d ck cs Q pc ls (.long v :: st) h := by
  subst hp
  intro p l e R s m args below meth c H locs cells slots mc ms lsA E h1 h2 h3 h4 h5
  obtain ⟨l0, hl0, hm0⟩ := h5.pairs
  exact lv_lstore E.1 E.2.1 hd hl0 hn rfl (fun ls' e' => k p l e R s m args below meth c H locs cells slots mc ms ls' E h1 h2 h3 h4 (JL.of2 (v := .long v) e' hm0 hno hll))
theorem J_astore_n {k0 : Fin 4} {r : Nat} (hd : decode cc pc = .ok (.astore_n k0, 1)) (hp : pc + 1 = pq)  (hn : (k0 : Nat) < nL) (hll : (k0 : Nat) < ls.length) (hno : nolong ls (k0 : Nat) = true) (k : J x y cc nL rt d ck cs Q pq (ls.set (k0 : Nat) (some (.ref r))) st h) : J x y cc nL rt d ck cs Q pc ls (.ref r :: st) h := by
  subst hp
  intro p l e R s m args below meth c H locs cells slots mc ms lsA E h1 h2 h3 h4 h5
  obtain ⟨l0, hl0, hm0⟩ := h5.pairs
  exact lv_astore_n E.1 E.2.1 hd rfl hl0 hn rfl (fun ls' e' => k p l e R s m args below meth c H locs cells slots mc ms ls' E h1 h2 h3 h4 (JL.of1 (v := .ref r) e' hm0 hno hll))
theorem J_astore {i : Nat} {r : Nat} (hd : decode cc pc = .ok (.astore i, 2)) (hp : pc + 2 = pq)  (hn : i < nL) (hll : i < ls.length) (hno : nolong ls i = true) (k : J x y cc nL rt d ck cs Q pq (ls.set i (some (.ref r))) st h) : J x y cc nL rt d ck cs Q pc ls (.ref r :: st) h := by
  subst hp
  intro p l e R s m args below meth c H locs cells slots mc ms lsA E h1 h2 h3 h4 h5
  obtain ⟨l0, hl0, hm0⟩ := h5.pairs
  exact lv_astore E.1 E.2.1 hd hl0 hn rfl (fun ls' e' => k p l e R s m args below meth c H locs cells slots mc ms ls' E h1 h2 h3 h4 (JL.of1 (v := .ref r) e' hm0 hno hll))
theorem J_astore_nN {k0 : Fin 4} (hd : decode cc pc = .ok (.astore_n k0, 1)) (hp : pc + 1 = pq)  (hn : (k0 : Nat) < nL) (hll : (k0 : Nat) < ls.length) (hno : nolong ls (k0 : Nat) = true) (k : J x y cc nL rt d ck cs Q pq (ls.set (k0 : Nat) (some (.null))) st h) : J x y cc nL rt d ck cs Q pc ls (.null :: st) h := by
  subst hp
  intro p l e R s m args below meth c H locs cells slots mc ms lsA E h1 h2 h3 h4 h5
  obtain ⟨l0, hl0, hm0⟩ := h5.pairs
  exact lv_astore_nN E.1 E.2.1 hd rfl hl0 hn rfl (fun ls' e' => k p l e R s m args below meth c H locs cells slots mc ms ls' E h1 h2 h3 h4 (JL.of1 (v := .null) e' hm0 hno hll))
theorem J_astoreN {i : Nat} (hd : decode cc pc = .ok (.astore i, 2)) (hp : pc + 2 = pq)  (hn : i < nL) (hll : i < ls.length) (hno : nolong ls i = true) (k : J x y cc nL rt d ck cs Q pq (ls.set i (some (.null))) st h) : J x y cc nL rt d ck cs Q pc ls (.null :: st) h := by
  subst hp
  intro p l e R s m args below meth c H locs cells slots mc ms lsA E h1 h2 h3 h4 h5
  obtain ⟨l0, hl0, hm0⟩ := h5.pairs
  exact lv_astoreN E.1 E.2.1 hd hl0 hn rfl (fun ls' e' => k p l e R s m args below meth c H locs cells slots mc ms ls' E h1 h2 h3 h4 (JL.of1 (v := .null) e' hm0 hno hll))
theorem J_iinc {i : Nat} {n : Int} {a v : Int32} (hd : decode cc pc = .ok (.iinc i n, 3)) (hp : pc + 3 = pq) (hv : Int32.ofInt n = v) (hl : ls[i]? = some (some (.int a))) (hn : i < nL) (hno : nolong ls i = true) (k : J x y cc nL rt d ck cs Q pq (ls.set i (some (.int (a + v)))) st h) : J x y cc nL rt d ck cs Q pc ls st h := by
  subst hp
  subst hv
  intro p l e R s m args below meth c H locs cells slots mc ms lsA E h1 h2 h3 h4 h5
  obtain ⟨l0, hl0, hm0⟩ := h5.pairs
  obtain ⟨kk0, hk0⟩ := List.getElem?_of_mem (hm0 i _ hl)
  exact lv_iinc E.1 E.2.1 hd hl0 hk0 rfl hn rfl (fun ls' e' => k p l e R s m args below meth c H locs cells slots mc ms ls' E h1 h2 h3 h4 (JL.of1 (v := .int (a + Int32.ofInt n)) e' hm0 hno (List.getElem?_eq_some_iff.mp hl).1))
theorem J_if_eq {tgt : Nat} {a : Int32} {off : Int} (hd : decode cc pc = .ok (.ifCond .eq off, 3)) (hp : pc + 3 = pq) (ht : (pc : Int) + off = (tgt : Int)) (kt : a = 0 → J x y cc nL rt d ck cs Q tgt ls st h) (kf : ¬ a = 0 → J x y cc nL rt d ck cs Q pq ls st h) : J x y cc nL rt d ck cs Q pc ls (.int a :: st) h := by
  subst hp
  intro p l e R s m args below meth c H locs cells slots mc ms lsA E h1 h2 h3 h4 h5
  exact lv_if_eq E.1 E.2.1 hd ht (fun q => kt q p l e R s m args below meth c H locs cells slots mc ms lsA E h1 h2 h3 h4 h5) (fun q => kf q p l e R s m args below meth c H locs cells slots mc ms lsA E h1 h2 h3 h4 h5)
theorem J_icmp_eq {tgt : Nat} {a b : Int32} {off : Int} (hd : decode cc pc = .ok (.if_icmp .eq off, 3)) (hp : pc + 3 = pq) (ht : (pc : Int) + off = (tgt : Int)) (kt : a = b → J x y cc nL rt d ck cs Q tgt ls st h) (kf : ¬ a = b → J x y cc nL rt d ck cs Q pq ls st h) : J x y cc nL rt d ck cs Q pc ls (.int b :: .int a :: st) h := by
  subst hp
  intro p l e R s m args below meth c H locs cells slots mc ms lsA E h1 h2 h3 h4 h5
  exact lv_icmp_eq E.1 E.2.1 hd ht (fun q => kt q p l e R s m args below meth c H locs cells slots mc ms lsA E h1 h2 h3 h4 h5) (fun q => kf q p l e R s m args below meth c H locs cells slots mc ms lsA E h1 h2 h3 h4 h5)
theorem J_if_ne {tgt : Nat} {a : Int32} {off : Int} (hd : decode cc pc = .ok (.ifCond .ne off, 3)) (hp : pc + 3 = pq) (ht : (pc : Int) + off = (tgt : Int)) (kt : ¬ a = 0 → J x y cc nL rt d ck cs Q tgt ls st h) (kf : a = 0 → J x y cc nL rt d ck cs Q pq ls st h) : J x y cc nL rt d ck cs Q pc ls (.int a :: st) h := by
  subst hp
  intro p l e R s m args below meth c H locs cells slots mc ms lsA E h1 h2 h3 h4 h5
  exact lv_if_ne E.1 E.2.1 hd ht (fun q => kt q p l e R s m args below meth c H locs cells slots mc ms lsA E h1 h2 h3 h4 h5) (fun q => kf q p l e R s m args below meth c H locs cells slots mc ms lsA E h1 h2 h3 h4 h5)
theorem J_icmp_ne {tgt : Nat} {a b : Int32} {off : Int} (hd : decode cc pc = .ok (.if_icmp .ne off, 3)) (hp : pc + 3 = pq) (ht : (pc : Int) + off = (tgt : Int)) (kt : ¬ a = b → J x y cc nL rt d ck cs Q tgt ls st h) (kf : a = b → J x y cc nL rt d ck cs Q pq ls st h) : J x y cc nL rt d ck cs Q pc ls (.int b :: .int a :: st) h := by
  subst hp
  intro p l e R s m args below meth c H locs cells slots mc ms lsA E h1 h2 h3 h4 h5
  exact lv_icmp_ne E.1 E.2.1 hd ht (fun q => kt q p l e R s m args below meth c H locs cells slots mc ms lsA E h1 h2 h3 h4 h5) (fun q => kf q p l e R s m args below meth c H locs cells slots mc ms lsA E h1 h2 h3 h4 h5)
theorem J_if_lt {tgt : Nat} {a : Int32} {off : Int} (hd : decode cc pc = .ok (.ifCond .lt off, 3)) (hp : pc + 3 = pq) (ht : (pc : Int) + off = (tgt : Int)) (kt : a < 0 → J x y cc nL rt d ck cs Q tgt ls st h) (kf : ¬ a < 0 → J x y cc nL rt d ck cs Q pq ls st h) : J x y cc nL rt d ck cs Q pc ls (.int a :: st) h := by
  subst hp
  intro p l e R s m args below meth c H locs cells slots mc ms lsA E h1 h2 h3 h4 h5
  exact lv_if_lt E.1 E.2.1 hd ht (fun q => kt q p l e R s m args below meth c H locs cells slots mc ms lsA E h1 h2 h3 h4 h5) (fun q => kf q p l e R s m args below meth c H locs cells slots mc ms lsA E h1 h2 h3 h4 h5)
theorem J_icmp_lt {tgt : Nat} {a b : Int32} {off : Int} (hd : decode cc pc = .ok (.if_icmp .lt off, 3)) (hp : pc + 3 = pq) (ht : (pc : Int) + off = (tgt : Int)) (kt : a < b → J x y cc nL rt d ck cs Q tgt ls st h) (kf : ¬ a < b → J x y cc nL rt d ck cs Q pq ls st h) : J x y cc nL rt d ck cs Q pc ls (.int b :: .int a :: st) h := by
  subst hp
  intro p l e R s m args below meth c H locs cells slots mc ms lsA E h1 h2 h3 h4 h5
  exact lv_icmp_lt E.1 E.2.1 hd ht (fun q => kt q p l e R s m args below meth c H locs cells slots mc ms lsA E h1 h2 h3 h4 h5) (fun q => kf q p l e R s m args below meth c H locs cells slots mc ms lsA E h1 h2 h3 h4 h5)
theorem J_if_ge {tgt : Nat} {a : Int32} {off : Int} (hd : decode cc pc = .ok (.ifCond .ge off, 3)) (hp : pc + 3 = pq) (ht : (pc : Int) + off = (tgt : Int)) (kt : 0 ≤ a → J x y cc nL rt d ck cs Q tgt ls st h) (kf : ¬ 0 ≤ a → J x y cc nL rt d ck cs Q pq ls st h) : J x y cc nL rt d ck cs Q pc ls (.int a :: st) h := by
  subst hp
  intro p l e R s m args below meth c H locs cells slots mc ms lsA E h1 h2 h3 h4 h5
  exact lv_if_ge E.1 E.2.1 hd ht (fun q => kt q p l e R s m args below meth c H locs cells slots mc ms lsA E h1 h2 h3 h4 h5) (fun q => kf q p l e R s m args below meth c H locs cells slots mc ms lsA E h1 h2 h3 h4 h5)
theorem J_icmp_ge {tgt : Nat} {a b : Int32} {off : Int} (hd : decode cc pc = .ok (.if_icmp .ge off, 3)) (hp : pc + 3 = pq) (ht : (pc : Int) + off = (tgt : Int)) (kt : b ≤ a → J x y cc nL rt d ck cs Q tgt ls st h) (kf : ¬ b ≤ a → J x y cc nL rt d ck cs Q pq ls st h) : J x y cc nL rt d ck cs Q pc ls (.int b :: .int a :: st) h := by
  subst hp
  intro p l e R s m args below meth c H locs cells slots mc ms lsA E h1 h2 h3 h4 h5
  exact lv_icmp_ge E.1 E.2.1 hd ht (fun q => kt q p l e R s m args below meth c H locs cells slots mc ms lsA E h1 h2 h3 h4 h5) (fun q => kf q p l e R s m args below meth c H locs cells slots mc ms lsA E h1 h2 h3 h4 h5)
theorem J_if_gt {tgt : Nat} {a : Int32} {off : Int} (hd : decode cc pc = .ok (.ifCond .gt off, 3)) (hp : pc + 3 = pq) (ht : (pc : Int) + off = (tgt : Int)) (kt : 0 < a → J x y cc nL rt d ck cs Q tgt ls st h) (kf : ¬ 0 < a → J x y cc nL rt d ck cs Q pq ls st h) : J x y cc nL rt d ck cs Q pc ls (.int a :: st) h := by
  subst hp
  intro p l e R s m args below meth c H locs cells slots mc ms lsA E h1 h2 h3 h4 h5
  exact lv_if_gt E.1 E.2.1 hd ht (fun q => kt q p l e R s m args below meth c H locs cells slots mc ms lsA E h1 h2 h3 h4 h5) (fun q => kf q p l e R s m args below meth c H locs cells slots mc ms lsA E h1 h2 h3 h4 h5)
theorem J_icmp_gt {tgt : Nat} {a b : Int32} {off : Int} (hd : decode cc pc = .ok (.if_icmp .gt off, 3)) (hp : pc + 3 = pq) (ht : (pc : Int) + off = (tgt : Int)) (kt : b < a → J x y cc nL rt d ck cs Q tgt ls st h) (kf : ¬ b < a → J x y cc nL rt d ck cs Q pq ls st h) : J x y cc nL rt d ck cs Q pc ls (.int b :: .int a :: st) h := by
  subst hp
  intro p l e R s m args below meth c H locs cells slots mc ms lsA E h1 h2 h3 h4 h5
  exact lv_icmp_gt E.1 E.2.1 hd ht (fun q => kt q p l e R s m args below meth c H locs cells slots mc ms lsA E h1 h2 h3 h4 h5) (fun q => kf q p l e R s m args below meth c H locs cells slots mc ms lsA E h1 h2 h3 h4 h5)
theorem J_if_le {tgt : Nat} {a : Int32} {off : Int} (hd : decode cc pc = .ok (.ifCond .le off, 3)) (hp : pc + 3 = pq) (ht : (pc : Int) + off = (tgt : Int)) (kt : a ≤ 0 → J x y cc nL rt d ck cs Q tgt ls st h) (kf : ¬ a ≤ 0 → J x y cc nL rt d ck cs Q pq ls st h) : J x y cc nL rt d ck cs Q pc ls (.int a :: st) h := by
  subst hp
  intro p l e R s m args below meth c H locs cells slots mc ms lsA E h1 h2 h3 h4 h5
  exact lv_if_le E.1 E.2.1 hd ht (fun q => kt q p l e R s m args below meth c H locs cells slots mc ms lsA E h1 h2 h3 h4 h5) (fun q => kf q p l e R s m args below meth c H locs cells slots mc ms lsA E h1 h2 h3 h4 h5)
theorem J_icmp_le {tgt : Nat} {a b : Int32} {off : Int} (hd : decode cc pc = .ok (.if_icmp .le off, 3)) (hp : pc + 3 = pq) (ht : (pc : Int) + off = (tgt : Int)) (kt : a ≤ b → J x y cc nL rt d ck cs Q tgt ls st h) (kf : ¬ a ≤ b → J x y cc nL rt d ck cs Q pq ls st h) : J x y cc nL rt d ck cs Q pc ls (.int b :: .int a :: st) h := by
  subst hp
  intro p l e R s m args below meth c H locs cells slots mc ms lsA E h1 h2 h3 h4 h5
  exact lv_icmp_le E.1 E.2.1 hd ht (fun q => kt q p l e R s m args below meth c H locs cells slots mc ms lsA E h1 h2 h3 h4 h5) (fun q => kf q p l e R s m args below meth c H locs cells slots mc ms lsA E h1 h2 h3 h4 h5)
theorem J_goto {tgt : Nat} {off : Int} (hd : decode cc pc = .ok (.goto off, 3)) (ht : (pc : Int) + off = (tgt : Int)) (k : J x y cc nL rt d ck cs Q tgt ls st h) : J x y cc nL rt d ck cs Q pc ls st h := by
  intro p l e R s m args below meth c H locs cells slots mc ms lsA E h1 h2 h3 h4 h5
  exact lv_goto E.1 E.2.1 hd ht (k p l e R s m args below meth c H locs cells slots mc ms lsA E h1 h2 h3 h4 h5)
theorem J_ifnull {off : Int} {r : Nat} (hd : decode cc pc = .ok (.ifnull off, 3)) (hp : pc + 3 = pq) (k : J x y cc nL rt d ck cs Q pq ls st h) : J x y cc nL rt d ck cs Q pc ls (.ref r :: st) h := by
  subst hp
  intro p l e R s m args below meth c H locs cells slots mc ms lsA E h1 h2 h3 h4 h5
  exact lv_ifnull E.1 E.2.1 hd (k p l e R s m args below meth c H locs cells slots mc ms lsA E h1 h2 h3 h4 h5)
theorem J_ifnullN {tgt : Nat} {off : Int} (hd : decode cc pc = .ok (.ifnull off, 3)) (ht : (pc : Int) + off = (tgt : Int)) (k : J x y cc nL rt d ck cs Q tgt ls st h) : J x y cc nL rt d ck cs Q pc ls (.null :: st) h := by
  intro p l e R s m args below meth c H locs cells slots mc ms lsA E h1 h2 h3 h4 h5
  exact lv_ifnullN E.1 E.2.1 hd ht (k p l e R s m args below meth c H locs cells slots mc ms lsA E h1 h2 h3 h4 h5)
theorem J_ifnonnull {tgt : Nat} {off : Int} {r : Nat} (hd : decode cc pc = .ok (.ifnonnull off, 3)) (ht : (pc : Int) + off = (tgt : Int)) (k : J x y cc nL rt d ck cs Q tgt ls st h) : J x y cc nL rt d ck cs Q pc ls (.ref r :: st) h := by
  intro p l e R s m args below meth c H locs cells slots mc ms lsA E h1 h2 h3 h4 h5
  exact lv_ifnonnull E.1 E.2.1 hd ht (k p l e R s m args below meth c H locs cells slots mc ms lsA E h1 h2 h3 h4 h5)
theorem J_ifnonnullN {off : Int} (hd : decode cc pc = .ok (.ifnonnull off, 3)) (hp : pc + 3 = pq) (k : J x y cc nL rt d ck cs Q pq ls st h) : J x y cc nL rt d ck cs Q pc ls (.null :: st) h := by
  subst hp
  intro p l e R s m args below meth c H locs cells slots mc ms lsA E h1 h2 h3 h4 h5
  exact lv_ifnonnullN E.1 E.2.1 hd (k p l e R s m args below meth c H locs cells slots mc ms lsA E h1 h2 h3 h4 h5)
theorem J_tabOut {tgt : Nat} {dflt lo hi : Int} {offs : Array Int} {len : Nat} {a : Int32} (hd : decode cc pc = .ok (.tableswitch dflt lo hi offs, len)) (hq : a.toInt < lo ∨ hi < a.toInt) (ht : (pc : Int) + dflt = (tgt : Int)) (k : J x y cc nL rt d ck cs Q tgt ls st h) : J x y cc nL rt d ck cs Q pc ls (.int a :: st) h := by
  intro p l e R s m args below meth c H locs cells slots mc ms lsA E h1 h2 h3 h4 h5
  exact lv_tableOut E.1 E.2.1 hd hq ht (k p l e R s m args below meth c H locs cells slots mc ms lsA E h1 h2 h3 h4 h5)
theorem J_tabIn {tgt : Nat} {dflt lo hi off : Int} {offs : Array Int} {len : Nat} {a : Int32} (hd : decode cc pc = .ok (.tableswitch dflt lo hi offs, len)) (hq1 : ¬ a.toInt < lo) (hq2 : ¬ hi < a.toInt) (ho : offs[(a.toInt - lo).toNat]? = some off) (ht : (pc : Int) + off = (tgt : Int)) (k : J x y cc nL rt d ck cs Q tgt ls st h) : J x y cc nL rt d ck cs Q pc ls (.int a :: st) h := by
  intro p l e R s m args below meth c H locs cells slots mc ms lsA E h1 h2 h3 h4 h5
  exact lv_tableIn E.1 E.2.1 hd hq1 hq2 ho ht (k p l e R s m args below meth c H locs cells slots mc ms lsA E h1 h2 h3 h4 h5)
end JR
