-- what the start gives: the tables, the strings, the cells (none yet)
theorem st_arr {args : Array Value} {s : State} {ty : FieldType} (h : (Cond.arrayClass ty).before args s = true) : ∃ cA : ClassId, ArrOfT s cA ty ∧ s.vm.findClass ("[" ++ ty.toString) = some cA := by
  obtain ⟨c, k, comp, h1, h2, h3⟩ := Cond.arrayClass_spec h
  exact ⟨c, fun n z => ⟨fun k h => (by cases h), k, h2, comp, h3⟩, h1⟩
theorem st_arrO {args : Array Value} {s : State} {C : String} (h : (Cond.arrayOver (.object C)).before args s = true) : ∃ cA : ClassId, ArrOfT s cA (.object C) ∧ va_RA s cA (.object C) := by
  obtain ⟨comp, c, k, h1, h2, h3, h4, h5⟩ := Cond.arrayOver_spec h
  exact ⟨c, fun n z => ⟨fun k h => (by cases h), k, h3, comp, h4⟩, k, comp, h3, h4, h1, h5⟩
theorem st_cls {args : Array Value} {s : State} (hts : ∀ w ∈ TBg, w.before args s = true) (k : Nat) : ∃ q : ClassId × (Nat → Nat), ∀ r : vw_C, vwCl[k]? = some r → u_Kn s r.1 r.2.1 r.2.2 q.1 q.2 := by
  have go : ∀ (k : Nat) (r : vw_C), vwCl[k]? = some r → Cond.instantiable r.1 r.2.2 ∈ TBg → ∃ q : ClassId × (Nat → Nat), ∀ r' : vw_C, vwCl[k]? = some r' → u_Kn s r'.1 r'.2.1 r'.2.2 q.1 q.2 := fun k r hr hi => by
    obtain ⟨cC, iS, hK⟩ := u_known (C := r.1) (T := r.2.1) (N := r.2.2) hts (jcls k r hr).1 (hts _ hi)
    exact ⟨(cC, iS), fun r' hr' => by rw [hr] at hr'; cases hr'; exact hK⟩
  match k with
  | 0 => exact go 0 _ rfl in_X0
  | 1 => exact go 1 _ rfl in_X1
  | 2 => exact go 2 _ rfl in_X2
  | 3 => exact go 3 _ rfl in_X3
  | 4 => exact go 4 _ rfl in_X4
  | 5 => exact go 5 _ rfl in_X5
  | 6 => exact go 6 _ rfl in_X6
  | 7 => exact go 7 _ rfl in_X7
  | 8 => exact go 8 _ rfl in_X8
  | 9 => exact go 9 _ rfl in_X9
  | k + 10 => exact ⟨(0, fun _ => 0), fun r hr => by simp [vwCl] at hr⟩
def strI : List Nat := [107, 125, 127, 129, 131, 133]
def stm (i : Nat) : Term := Term.string RX5 (strI.getD i 0)
def stF : List Cond := flatC (Jvm.Cond.and given_1 narrow_1)
theorem st_f1 : ∀ i : Nat, i < 6 → Cond.exactly (stm i) "java/lang/String" ∈ stF ∧ Cond.eq (.field (stm i) "java/lang/String" "coder" "B") (.int 0) ∈ stF ∧ Cond.arrayOf (.field (stm i) "java/lang/String" "value" "[B") .byte ∈ stF ∧ Cond.eq (.length (.field (stm i) "java/lang/String" "value" "[B")) (.int (Int32.ofNat (strL.getD i 0))) ∈ stF := by decide +kernel
theorem st_f2 : ∀ i : Nat, i < 6 → ∀ j : Nat, j < strL.getD i 0 → Cond.eq (.elem (.field (stm i) "java/lang/String" "value" "[B") (.int (Int32.ofNat j))) (.int ((strB.getD i []).getD j 0)) ∈ stF := by decide +kernel
theorem st_f3 : ∀ i : Nat, i < 6 → ∀ j : Nat, j < 6 → i ≠ j → Cond.not (Cond.eq (stm i) (stm j)) ∈ stF ∨ Cond.not (Cond.eq (stm j) (stm i)) ∈ stF := by decide +kernel
theorem st_f4 : ∀ i : Nat, i < 6 → strL.getD i 0 < 2 ^ 31 := by decide
theorem st_f5 : Cond.eq (.static "java/lang/String" "COMPACT_STRINGS" "Z") (.int 1) ∈ stF ∧ Cond.isRef (.static "jdk/internal/util/Preconditions" "SIOOBE_FORMATTER" "Ljava/util/function/BiFunction;") ∈ stF := by decide +kernel
theorem st_w {w : Cond} (i : Nat) (h : lw_tbl[i]? = some w) : w ∈ lw_tbl := List.mem_of_getElem? h
theorem st_JT {s : State} {b L : Nat} {xs : Nat → Int32} (hts : ∀ w ∈ lw_tbl, w.before #[Value.ref b] s = true) (hX : va_X b L xs s s.heap) (hb : b < s.heap.size) (hgv : (Jvm.Cond.and given_1 narrow_1).before #[Value.ref b] s = true) : ∃ x : JX, JT x s ∧ JC x hz s.heap ∧ xL x = L ∧ xE x 0 = b ∧ xB x = s.heap.size := by
  have hfl : ∀ c ∈ stF, c.before #[Value.ref b] s = true := flat_of_before _ hgv
  have htg : ∀ w ∈ TBg, w.before #[Value.ref b] s = true := fun w hw => hts w (List.mem_filter.mp hw).1
  have hA : ∀ a : Nat, a < s.heap.size → ¬ (fun q : Nat => s.heap.size ≤ q) a := fun a ha => Nat.not_le.mpr ha
  obtain ⟨adK, adV, hS, hE⟩ := vk_Sof (args := #[Value.ref b]) (s := s) (N := 6) (tm := stm) (len := strL) (byt := strB) (A := fun q : Nat => s.heap.size ≤ q) st_f4 (fun i hi => hfl _ (st_f1 i hi).1) (fun i hi => hfl _ (st_f1 i hi).2.1) (fun i hi => hfl _ (st_f1 i hi).2.2.1) (fun i hi => hfl _ (st_f1 i hi).2.2.2) (fun i hi j hj => hfl _ (st_f2 i hi j hj)) (fun i j hi hj hij => (st_f3 i hi j hj hij).elim (fun z => Or.inl (hfl _ z)) (fun z => Or.inr (hfl _ z))) hA
  obtain ⟨D, hD⟩ := Classical.axiomOfChoice (st_cls htg)
  obtain ⟨a50, h50, n50⟩ := st_arr (htg _ ac_int)
  obtain ⟨a51, h51, n51⟩ := st_arr (htg _ ac_long)
  obtain ⟨a52, h52, n52⟩ := st_arr (htg _ ac_boolean)
  have hO0 := hts (Cond.arrayOver (.object RX0)) (st_w 210 (by decide +kernel))
  have hO4 := hts (Cond.arrayOver (.object RX4)) (st_w 212 (by decide +kernel))
  obtain ⟨a53, h53, n53⟩ := st_arrO hO0
  obtain ⟨a54, h54, n54⟩ := st_arrO hO4
  have hc : va_Z "java/lang/String" "COMPACT_STRINGS" "Z" (.int 1) (fun q : Nat => s.heap.size ≤ q) s s.heap := va_Zof (hts _ (st_w 664 (by decide +kernel))) (hts _ (st_w 88 (by decide +kernel))) (va_eqt (hfl _ st_f5.1)) hA
  have hq : va_Zq "jdk/internal/util/Preconditions" "SIOOBE_FORMATTER" "Ljava/util/function/BiFunction;" (fun q : Nat => s.heap.size ≤ q) s s.heap := va_Zqof (hts _ (st_w 680 (by decide +kernel))) (hts _ (st_w 90 (by decide +kernel))) (hfl _ st_f5.2) hA
  obtain ⟨t, ht⟩ : ∃ t : Nat, va_Z "jdk/internal/util/Preconditions" "SIOOBE_FORMATTER" "Ljava/util/function/BiFunction;" .null (fun q : Nat => s.heap.size ≤ q) s s.heap ∨ va_Z "jdk/internal/util/Preconditions" "SIOOBE_FORMATTER" "Ljava/util/function/BiFunction;" (.ref t) (fun q : Nat => s.heap.size ≤ q) s s.heap := by
    rcases hq with h | ⟨t, h⟩
    · exact ⟨0, Or.inl h⟩
    · exact ⟨t, Or.inr h⟩
  have e1 : ∀ i, i < 6 → (fun k : Nat => if k = 0 then b else if k < 7 then adK (k - 1) else if k < 13 then adV (k - 7) else t) (i + 1) = adK i := fun i hi => by
    simp only
    rw [if_neg (by omega), if_pos (by omega), Nat.add_sub_cancel]
  refine ⟨(s.heap.size, fun k => (D k).1, fun k => (D k).2, fun k => if k = 50 then a50 else if k = 51 then a51 else if k = 52 then a52 else if k = 53 then a53 else a54, fun k => if k = 0 then b else if k < 7 then adK (k - 1) else if k < 13 then adV (k - 7) else t, adV, L, xs), ⟨⟨fun c q hq => hD c q hq, fun k q hk => ?_⟩, fun w hw hn => ?_, va_AO.of hO0, va_AO.of hO4, Nat.le_refl _, hX, hb, fun q hq => ?_, ⟨fun i hi => ?_, fun i j hi hj he => ?_⟩, hc, ht, fun k hk => ?_⟩, ⟨rfl, Nat.le_of_ble_eq_true rfl, fun k q hq => ?_⟩, rfl, rfl, rfl⟩
  · match k, hk with
    | 0, hk => cases hk; exact ⟨h50, n50⟩
    | 1, hk => cases hk; exact ⟨h51, n51⟩
    | 2, hk => cases hk; exact ⟨h52, n52⟩
    | 3, hk => cases hk; exact ⟨h53, n53⟩
    | 4, hk => cases hk; exact ⟨h54, n54⟩
    | k + 5, hk => simp [jtys] at hk
  · have h0 := hts w hw
    cases w <;> first | exact va_Nw.of rfl h0 | (exact absurd hn (by simp [jnest]))
  · have hz : ∀ i, i < 6 → (Term.string RX5 (strI.getD i 0)).eval #[Value.ref b] s none [] s = some (.ref (adK i)) := hE
    simp only [strT, List.mem_cons, List.not_mem_nil, or_false] at hq
    rcases hq with rfl | rfl | rfl | rfl | rfl | rfl
    · exact vk_R.of (hts _ (st_w 650 (by decide +kernel))) (hz 0 (by omega))
    · exact vk_R.of (hts _ (st_w 719 (by decide +kernel))) (hz 1 (by omega))
    · exact vk_R.of (hts _ (st_w 720 (by decide +kernel))) (hz 2 (by omega))
    · exact vk_R.of (hts _ (st_w 721 (by decide +kernel))) (hz 3 (by omega))
    · exact vk_R.of (hts _ (st_w 722 (by decide +kernel))) (hz 4 (by omega))
    · exact vk_R.of (hts _ (st_w 723 (by decide +kernel))) (hz 5 (by omega))
  · have h0 := hS.1 i hi
    rw [← e1 i hi] at h0
    exact h0
  · exact hS.2 i j hi hj (by rw [← e1 i hi, ← e1 j hj]; exact he)
  · show (if k + 7 = 0 then b else if k + 7 < 7 then adK (k + 7 - 1) else if k + 7 < 13 then adV (k + 7 - 7) else t) = adV k
    rw [if_neg (by omega), if_neg (by omega), if_pos (by omega), Nat.add_sub_cancel]
  · exact absurd hq (by show ¬ (([] : List (Nat × Nat))[k]? = some q); simp)
