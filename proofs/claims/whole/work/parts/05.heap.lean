-- the classes' words
theorem jin_X0 : ∀ w ∈ wsX00, w ∈ lw_tbl := by decide +kernel
theorem jin_X1 : ∀ w ∈ wsX10, w ∈ lw_tbl := by decide +kernel
theorem jin_X2 : ∀ w ∈ wsX20, w ∈ lw_tbl := by decide +kernel
theorem jin_X3 : ∀ w ∈ wsX30, w ∈ lw_tbl := by decide +kernel
theorem jin_X4 : ∀ w ∈ wsX40, w ∈ lw_tbl := by decide +kernel
theorem jin_X5 : ∀ w ∈ wsX50, w ∈ lw_tbl := by decide +kernel
theorem jin_X6 : ∀ w ∈ wsX60, w ∈ lw_tbl := by decide +kernel
theorem jin_X7 : ∀ w ∈ wsX70, w ∈ lw_tbl := by decide +kernel
theorem jin_X8 : ∀ w ∈ wsX80, w ∈ lw_tbl := by decide +kernel
theorem jin_X9 : ∀ w ∈ wsX90, w ∈ lw_tbl := by decide +kernel
theorem jgw {ws : List Cond} (h : ∀ w ∈ ws, w ∈ lw_tbl) (hg : ws.all goodWord = true) : ∀ w ∈ ws, w ∈ TBg := fun w hw => List.mem_filter.mpr ⟨h w hw, List.all_eq_true.mp hg w hw⟩
def JCls (r : vw_C) : Prop := (∀ w ∈ u_ws r.1 r.2.1 r.2.2, w ∈ TBg) ∧ (∃ ty : Nat → FieldType, ∀ k, k < r.2.2 → parseFieldDescriptor (r.2.1 k).2.2.1 = some (ty k)) ∧ ∀ a, a < r.2.2 → ∀ b, b < r.2.2 → a ≠ b → (r.2.1 a).2.1 ≠ (r.2.1 b).2.1
theorem jcls : ∀ (ci : Nat) (r : vw_C), vwCl[ci]? = some r → JCls r := by
  intro ci r hr
  match ci, hr with
  | 0, hr => cases hr; exact ⟨jgw jin_X0 (by decide +kernel), ⟨tyX0, tyX0_ok⟩, nmX0⟩
  | 1, hr => cases hr; exact ⟨jgw jin_X1 (by decide +kernel), ⟨tyX1, tyX1_ok⟩, nmX1⟩
  | 2, hr => cases hr; exact ⟨jgw jin_X2 (by decide +kernel), ⟨tyX2, tyX2_ok⟩, nmX2⟩
  | 3, hr => cases hr; exact ⟨jgw jin_X3 (by decide +kernel), ⟨tyX3, tyX3_ok⟩, nmX3⟩
  | 4, hr => cases hr; exact ⟨jgw jin_X4 (by decide +kernel), ⟨tyX4, tyX4_ok⟩, nmX4⟩
  | 5, hr => cases hr; exact ⟨jgw jin_X5 (by decide +kernel), ⟨tyX5, tyX5_ok⟩, nmX5⟩
  | 6, hr => cases hr; exact ⟨jgw jin_X6 (by decide +kernel), ⟨tyX6, tyX6_ok⟩, nmX6⟩
  | 7, hr => cases hr; exact ⟨jgw jin_X7 (by decide +kernel), ⟨tyX7, tyX7_ok⟩, nmX7⟩
  | 8, hr => cases hr; exact ⟨jgw jin_X8 (by decide +kernel), ⟨tyX8, tyX8_ok⟩, nmX8⟩
  | 9, hr => cases hr; exact ⟨jgw jin_X9 (by decide +kernel), ⟨tyX9, tyX9_ok⟩, nmX9⟩
  | n + 10, hr => simp [vwCl] at hr
/-- a field by its link: its owner's number, its slot, its descriptor, whether it is final -/
def JFld (own : String) (idx ci k : Nat) (D : String) (fin : Bool) : Prop := ci < 50 ∧ ∃ r : vw_C, vwCl[ci]? = some r ∧ k < r.2.2 ∧ (r.2.1 k).2.2.1 = D ∧ (r.2.1 k).2.2.2 = fin ∧ (Cond.fieldLink own idx (r.2.1 k).1 (r.2.1 k).2.1 (r.2.1 k).2.2.1 ∈ TBg ∨ ∃ host : String, Cond.fieldLinkNest own idx (r.2.1 k).1 (r.2.1 k).2.1 (r.2.1 k).2.2.1 host ∈ lw_tbl)
theorem JFld.sort {own : String} {idx ci k : Nat} {D : String} {fin : Bool} (h : JFld own idx ci k D fin) : ssort ci k = jsort D := by
  obtain ⟨h50, r, hr, -, hD, -, -⟩ := h
  unfold ssort
  rw [if_pos h50, hr]
  show jsort (r.2.1 k).2.2.1 = _
  rw [hD]
theorem jat_obj {x : JX} {h : JH} {k : Nat} {q : Nat × Nat} {H : Heap} (hq : q.1 < 50) (hj : jat x h k q H) : (∃ r : vw_C, vwCl[q.1]? = some r ∧ r.2.2 = q.2) ∧ t_OB (xB x + k) (xC x q.1) q.2 (xI x q.1) H (fun j => jval x h (ssort q.1 j) k j) := by
  unfold jat at hj
  rw [if_pos hq] at hj
  exact hj
section JHP
variable {x : JX} {y : MethodName} {cc : ByteArray} {nL : Nat} {rt : Option FieldType} {d ck cs : Nat} {Q : Option Value → JH → Prop} {pc pq : Nat} {ls : List (Option Value)} {st : List Value} {h : JH}
theorem J_get {idx ci k o N : Nat} {D : String} {fin : Bool} {v : Value} (hd : decode cc pc = .ok (.getfield idx, 3)) (hp : pc + 3 = pq) (hF : JFld y.cls idx ci k D fin) (ho : (kd h)[o]? = some (ci, N)) (hv : ∀ x : JX, jval x h (jsort D) o k = mv x v) (kk : J x y cc nL rt d ck cs Q pq ls (v :: st) h) : J x y cc nL rt d ck cs Q pc ls (.ref o :: st) h := by
  subst hp
  intro p l e R s m args below meth c H locs cells slots mc ms lsA E h1 h2 h3 h4 h5
  have hgo := kk p l e R s m args below meth c H locs cells slots mc ms lsA E h1 h2 h3 h4 h5
  have hso := hF.sort
  obtain ⟨h50, r, hr, hk, hD, -, hlk⟩ := hF
  obtain ⟨⟨r', hr', hN⟩, cell, q1, q2, q3, q4⟩ := jat_obj h50 (h4.2.2 o _ ho)
  cases hr.symm.trans hr'
  obtain ⟨hS, hfc, kC, hkC, hkind⟩ := E.2.2.2.2.2.2.2.2.2.2.2.2.1.1 ci r hr
  obtain ⟨cf, kf, fi, f, hi, hsl⟩ := hS k hk
  obtain ⟨hin, -, -⟩ := jcls ci r hr
  have hst := (u_facts hfc hkC (u_lays E.2.2.2.2.2.2.2.1 hin hk) hi).1
  have hv2 : cell.slots[f.slot]? = some (mv x v) := by
    rw [hsl, q4 k (by rw [← hN]; exact hk)]
    show some (jval x h (ssort ci k) o k) = _
    rw [hso, hv x]
  show W p l e R s m args below meth c H locs cells slots _ (F0 m pc lsA (mv x (.ref o) :: st.map (mv x)))
  rw [mv_ref h4 ho]
  rcases hlk with hlk | ⟨host, hlk⟩
  · exact W.getf E.1 E.2.1 E.2.2.2.2.2.2.1 (E.2.2.2.2.2.2.2.1 _ hlk) hi hst q1 (by rw [q3]; exact fun h => by cases h) hv2 rfl rfl hd hgo
  · exact va_Wgetf E.1 E.2.1 E.2.2.2.2.2.2.1 (va_Nw.use rfl (E.2.2.2.2.2.2.2.2.2.2.2.2.2.1 _ hlk rfl)) hi hst q1 (by rw [q3]; exact fun h => by cases h) hv2 rfl rfl hd hgo
theorem J_getI {idx ci k o N : Nat} {D : String} {fin : Bool} (hd : decode cc pc = .ok (.getfield idx, 3)) (hp : pc + 3 = pq) (hF : JFld y.cls idx ci k D fin) (hD : jsort D = 0) (ho : (kd h)[o]? = some (ci, N)) (kk : J x y cc nL rt d ck cs Q pq ls (.int (gi h o k) :: st) h) : J x y cc nL rt d ck cs Q pc ls (.ref o :: st) h :=
  J_get hd hp hF ho (fun x => by rw [hD]; rfl) kk
theorem J_getL {idx ci k o N : Nat} {D : String} {fin : Bool} (hd : decode cc pc = .ok (.getfield idx, 3)) (hp : pc + 3 = pq) (hF : JFld y.cls idx ci k D fin) (hD : jsort D = 1) (ho : (kd h)[o]? = some (ci, N)) (kk : J x y cc nL rt d ck cs Q pq ls (.long (gl h o k) :: st) h) : J x y cc nL rt d ck cs Q pc ls (.ref o :: st) h :=
  J_get hd hp hF ho (fun x => by rw [hD]; rfl) kk
theorem J_getR {idx ci k o N : Nat} {D : String} {fin : Bool} {r : Option Nat} (hd : decode cc pc = .ok (.getfield idx, 3)) (hp : pc + 3 = pq) (hF : JFld y.cls idx ci k D fin) (hD : jsort D = 2) (ho : (kd h)[o]? = some (ci, N)) (hr : gr h o k = r) (kk : J x y cc nL rt d ck cs Q pq ls (va_rf r :: st) h) : J x y cc nL rt d ck cs Q pc ls (.ref o :: st) h :=
  J_get hd hp hF ho (fun x => by rw [hD, ← hr]; rfl) kk
/-- a field of an object is written -/
theorem J_put {idx ci k o N : Nat} {D : String} {fin : Bool} {v : Value} {h' : JH} {ty : FieldType} (hd : decode cc pc = .ok (.putfield idx, 3)) (hp : pc + 3 = pq) (hF : JFld y.cls idx ci k D fin) (hfin : fin = false ∨ (y.name = "<init>" ∧ ∃ r : vw_C, vwCl[ci]? = some r ∧ (r.2.1 k).1 = y.cls)) (ho : (kd h)[o]? = some (ci, N)) (hty : parseFieldDescriptor D = some ty) (hn : ∀ x : JX, narrow ty (mv x v) = mv x v) (hfit : ∀ x : JX, fits ty (mv x v) = true)
    (hk' : kd h' = kd h) (hv : ∀ x : JX, jval x h' (jsort D) o k = mv x v) (hv2 : ∀ (x : JX) (s j : Nat), j ≠ k → jval x h' s o j = jval x h s o j) (hv3 : ∀ (x : JX) (a : Nat), a ≠ o → ∀ s j, jval x h' s a j = jval x h s a j)
    (kk : J x y cc nL rt d ck cs Q pq ls st h') : J x y cc nL rt d ck cs Q pc ls (v :: .ref o :: st) h := by
  subst hp
  intro p l e R s m args below meth c H locs cells slots mc ms lsA E h1 h2 h3 h4 h5
  have hso := hF.sort
  obtain ⟨h50, r, hr, hk, hD, hfl, hlk⟩ := hF
  have hjo := jat_obj h50 (h4.2.2 o _ ho)
  obtain ⟨⟨r', hr', hN⟩, cell, q1, q2, q3, q4⟩ := hjo
  cases hr.symm.trans hr'
  obtain ⟨hS, hfc, kC, hkC, hkind⟩ := E.2.2.2.2.2.2.2.2.2.2.2.2.1.1 ci r hr
  obtain ⟨cf, kf, fi, f, hi, hsl⟩ := hS k hk
  obtain ⟨hin, ⟨ty0, hty0⟩, hnm⟩ := jcls ci r hr
  have hts := E.2.2.2.2.2.2.2.1
  have hap := va_apart (D := (xC x, xI x)) (cl := vwCl) (own := y.cls) hts hin ty0 hty0 hnm E.2.2.2.2.2.2.2.2.2.2.2.2.1 hr
  have hlay := hts _ (hin _ (u_in_lay hk))
  unfold u_lay at hlay
  have hst := (u_facts hfc hkC (u_lays hts hin hk) hi).1
  have hty' : parseFieldDescriptor (r.2.1 k).2.2.1 = some ty := by rw [hD]; exact hty
  show W p l e R s m args below meth c H locs cells slots _ (F0 m pc lsA (mv x v :: mv x (.ref o) :: st.map (mv x)))
  rw [mv_ref h4 ho]
  have hend : ∀ H' : Heap, H'[xB x + o]? = some (cell.setSlot f.slot (mv x v)) → H'.size = H.size → (∀ q, q ≠ xB x + o → H'[q]? = H[q]?) → W p l e R s m args below meth c H' (locs ++ [⟨xB x + o, f.slot⟩]) cells slots (MQ below (JQc x Q) args s mc ms (xF x)) (F0 m (pc + 3) lsA (st.map (mv x))) := by
    intro H' e1 e2 e3
    rw [hsl] at e1
    refine kk p l e R s m args below meth c H' _ cells slots mc ms lsA E h1 h2 (h3.put e2 e3 (Nat.le_add_right _ _)) ?_ h5
    refine h4.set ho hk' e2 ?_ e3 (fun a ha s j => hv3 x a ha s j)
    unfold jat
    rw [if_pos h50]
    refine ⟨⟨r, hr, hN⟩, _, e1, q2, q3, fun j hj => ?_⟩
    rw [t_set q4 (fun a b ha hb hne => hap a b (by rw [hN]; exact ha) (by rw [hN]; exact hb) hne) (by rw [← hN]; exact hk) (mv x v) j hj]
    congr 1
    unfold updV
    by_cases hjk : j = k
    · subst hjk
      rw [if_pos rfl]
      show mv x v = jval x h' (ssort ci j) o j
      rw [hso, hv x]
    · rw [if_neg hjk]
      show jval x h (ssort ci j) o j = jval x h' (ssort ci j) o j
      rw [hv2 x _ j hjk]
  rcases Bool.eq_false_or_eq_true fin with hft | hff
  · rcases hfin with hfin | ⟨hini, r2, hr2, hown2⟩
    · rw [hfin] at hft; cases hft
    cases hr.symm.trans hr2
    rw [if_pos (by rw [hfl]; exact hft)] at hlay
    have hcf : m.cls = cf := by
      obtain ⟨_, _, c', _, _, _, -, -, hf', -, -, -, hown3, -⟩ := Cond.laysFinal_spec hlay
      have e1 : c' = cf := by have := hi.symm.trans hf'; simp at this; exact this.1.symm
      rw [hown2] at hown3
      rw [← e1]; exact Option.some.inj (E.2.2.2.2.2.2.1.symm.trans hown3)
    have h6 := u_fits hfc hkC hkind (Or.inr hlay) hi hty' (hn x) (hfit x)
    have hne : meth.name = "<init>" := E.2.2.2.2.2.1.trans hini
    rcases hlk with hlk | ⟨host, hlk⟩
    · exact W.putFinK E.1 E.2.1 E.2.2.2.2.2.2.1 (hts _ hlk) hi hst hcf hne (by rw [q2]; exact h6) q1 q3 (by rw [hsl]; exact k2_hasslot (q4 k (by rw [← hN]; exact hk))) rfl rfl hd hend
    · refine va_Wputf E.1 E.2.1 E.2.2.2.2.2.2.1 (va_Nw.use rfl (E.2.2.2.2.2.2.2.2.2.2.2.2.2.1 _ hlk rfl)) hi hst (Or.inr ⟨hcf, hne⟩) q1 (by rw [q3]; exact fun h => by cases h) (by rw [hsl]; exact k2_hasslot (q4 k (by rw [← hN]; exact hk))) h6.1 (by rw [q2, q3]; exact h6.2) rfl rfl hd ?_
      have ha : xB x + o < H.size := (Array.getElem?_eq_some_iff.mp q1).1
      refine hend _ ?_ ?_ ?_
      · simp [Array.getElem?_setIfInBounds, ha]
      · simp
      · intro q hq
        simp [Array.getElem?_setIfInBounds, Ne.symm hq]
  · rw [if_neg (by rw [hfl, hff]; decide)] at hlay
    have h6 := u_store hfc hkC hkind hlay hi hty' (hn x) (hfit x)
    rcases hlk with hlk | ⟨host, hlk⟩
    · exact W.putK E.1 E.2.1 (f := f) ⟨E.2.2.2.2.2.2.1, hts _ hlk, ⟨_, _, _, hi⟩, hst⟩ (by rw [q2]; exact h6) q1 q3 (by rw [hsl]; exact k2_hasslot (q4 k (by rw [← hN]; exact hk))) rfl rfl hd hend
    · exact va_WputK E.1 E.2.1 (f := f) E.2.2.2.2.2.2.1 (va_Nw.use rfl (E.2.2.2.2.2.2.2.2.2.2.2.2.2.1 _ hlk rfl)) hi hst (by rw [q2]; exact h6) q1 q3 (by rw [hsl]; exact k2_hasslot (q4 k (by rw [← hN]; exact hk))) rfl rfl hd hend
theorem jsI : jsort "I" = 0 := by decide +kernel
theorem jsZ : jsort "Z" = 0 := by decide +kernel
theorem jsJ : jsort "J" = 1 := by decide +kernel
theorem pfI : parseFieldDescriptor "I" = some .int := by decide +kernel
theorem pfZ : parseFieldDescriptor "Z" = some .boolean := by decide +kernel
theorem pfJ : parseFieldDescriptor "J" = some .long := by decide +kernel
theorem J_putI {idx ci k o N : Nat} {v : Int32} (hd : decode cc pc = .ok (.putfield idx, 3)) (hp : pc + 3 = pq) {fin : Bool} (hF : JFld y.cls idx ci k "I" fin) (hfin : fin = false ∨ (y.name = "<init>" ∧ ∃ r : vw_C, vwCl[ci]? = some r ∧ (r.2.1 k).1 = y.cls)) (ho : (kd h)[o]? = some (ci, N)) (kk : J x y cc nL rt d ck cs Q pq ls st (si h o k v)) : J x y cc nL rt d ck cs Q pc ls (.int v :: .ref o :: st) h :=
  J_put (h' := si h o k v) hd hp hF hfin ho pfI (fun _ => rfl) (fun _ => rfl) rfl (fun x => by rw [jsI, jval_si, if_pos ⟨rfl, rfl, rfl⟩]; rfl) (fun x s j hj => by rw [jval_si, if_neg (fun a => hj a.2.2)]) (fun x a ha s j => by rw [jval_si, if_neg (fun b => ha b.2.1)]) kk
theorem J_putZ {idx ci k o N : Nat} {v : Int32} (hd : decode cc pc = .ok (.putfield idx, 3)) (hp : pc + 3 = pq) {fin : Bool} (hF : JFld y.cls idx ci k "Z" fin) (hfin : fin = false ∨ (y.name = "<init>" ∧ ∃ r : vw_C, vwCl[ci]? = some r ∧ (r.2.1 k).1 = y.cls)) (ho : (kd h)[o]? = some (ci, N)) (hz : v = 0 ∨ v = 1) (kk : J x y cc nL rt d ck cs Q pq ls st (si h o k v)) : J x y cc nL rt d ck cs Q pc ls (.int v :: .ref o :: st) h :=
  J_put (h' := si h o k v) hd hp hF hfin ho pfZ (fun _ => by rcases hz with rfl | rfl <;> rfl) (fun _ => by rcases hz with rfl | rfl <;> rfl) rfl (fun x => by rw [jsZ, jval_si, if_pos ⟨rfl, rfl, rfl⟩]; rfl) (fun x s j hj => by rw [jval_si, if_neg (fun a => hj a.2.2)]) (fun x a ha s j => by rw [jval_si, if_neg (fun b => ha b.2.1)]) kk
theorem J_putL {idx ci k o N : Nat} {v : Int64} (hd : decode cc pc = .ok (.putfield idx, 3)) (hp : pc + 3 = pq) {fin : Bool} (hF : JFld y.cls idx ci k "J" fin) (hfin : fin = false ∨ (y.name = "<init>" ∧ ∃ r : vw_C, vwCl[ci]? = some r ∧ (r.2.1 k).1 = y.cls)) (ho : (kd h)[o]? = some (ci, N)) (kk : J x y cc nL rt d ck cs Q pq ls st (sl h o k v)) : J x y cc nL rt d ck cs Q pc ls (.long v :: .ref o :: st) h :=
  J_put (h' := sl h o k v) hd hp hF hfin ho pfJ (fun _ => rfl) (fun _ => rfl) rfl (fun x => by rw [jsJ, jval_sl, if_pos ⟨rfl, rfl, rfl⟩]; rfl) (fun x s j hj => by rw [jval_sl, if_neg (fun a => hj a.2.2)]) (fun x a ha s j => by rw [jval_sl, if_neg (fun b => ha b.2.1)]) kk
def JRf (D : String) : Prop := jsort D = 2 ∧ ∃ ty : FieldType, parseFieldDescriptor D = some ty ∧ ((∃ n, ty = .object n) ∨ ∃ t, ty = .array t)
theorem J_putR {idx ci k o N r : Nat} {D : String} (hd : decode cc pc = .ok (.putfield idx, 3)) (hp : pc + 3 = pq) {fin : Bool} (hF : JFld y.cls idx ci k D fin) (hfin : fin = false ∨ (y.name = "<init>" ∧ ∃ r : vw_C, vwCl[ci]? = some r ∧ (r.2.1 k).1 = y.cls)) (ho : (kd h)[o]? = some (ci, N)) (hD : JRf D) (kk : J x y cc nL rt d ck cs Q pq ls st (sr h o k (some r))) : J x y cc nL rt d ck cs Q pc ls (.ref r :: .ref o :: st) h := by
  obtain ⟨hs, ty, hty, hcase⟩ := hD
  refine J_put (h' := sr h o k (some r)) hd hp hF hfin ho hty (fun _ => ?_) (fun _ => ?_) rfl (fun x => by rw [hs, jval_sr, if_pos ⟨by omega, rfl, rfl⟩]; rfl) (fun x s j hj => by rw [jval_sr, if_neg (fun a => hj a.2.2)]) (fun x a ha s j => by rw [jval_sr, if_neg (fun b => ha b.2.1)]) kk
  · rcases hcase with ⟨n, rfl⟩ | ⟨t, rfl⟩ <;> rfl
  · rcases hcase with ⟨n, rfl⟩ | ⟨t, rfl⟩ <;> rfl
end JHP
