-- both halves: what a recipe's walk tells, why a burning isn't begun
theorem lkf_neg {f : Nat → Bool} : ∀ n p, p + n < 1000 → (lkf f n p < 0 ↔ lkf f n p = -1)
  | 0, _, _ => ⟨fun _ => rfl, fun _ => by show (-1 : Int32) < 0; decide⟩
  | n + 1, p, hp => by
    rw [lkf]
    by_cases hf : f p = true
    · rw [if_pos hf]
      constructor
      · intro z
        rw [ti_lt, nI_toInt (by omega), show (0 : Int32).toInt = 0 from rfl] at z; omega
      · intro z
        rw [ti_eq, nI_toInt (by omega), show (-1 : Int32).toInt = -1 from rfl] at z; omega
    · rw [if_neg hf]; exact lkf_neg n (p + 1) (by omega)
theorem and_bv (x y m : BitVec 32) : x &&& y &&& m = m ↔ m &&& (x ^^^ BitVec.allOnes 32) = 0#32 ∧ m &&& (y ^^^ BitVec.allOnes 32) = 0#32 := by
  constructor
  · intro h
    have hb : ∀ i, ((x.getLsbD i && y.getLsbD i) && m.getLsbD i) = m.getLsbD i := fun i => by
      have := congrArg (fun v => v.getLsbD i) h
      simpa only [BitVec.getLsbD_and] using this
    refine ⟨BitVec.eq_of_getLsbD_eq (fun i hi => ?_), BitVec.eq_of_getLsbD_eq (fun i hi => ?_)⟩
    · rw [BitVec.getLsbD_and, BitVec.getLsbD_xor, BitVec.getLsbD_allOnes, decide_eq_true hi, BitVec.getLsbD_zero]
      have := hb i
      revert this
      cases x.getLsbD i <;> cases y.getLsbD i <;> cases m.getLsbD i <;> decide
    · rw [BitVec.getLsbD_and, BitVec.getLsbD_xor, BitVec.getLsbD_allOnes, decide_eq_true hi, BitVec.getLsbD_zero]
      have := hb i
      revert this
      cases x.getLsbD i <;> cases y.getLsbD i <;> cases m.getLsbD i <;> decide
  · rintro ⟨h1, h2⟩
    refine BitVec.eq_of_getLsbD_eq (fun i hi => ?_)
    have a1 := congrArg (fun v => v.getLsbD i) h1
    have a2 := congrArg (fun v => v.getLsbD i) h2
    simp only [BitVec.getLsbD_and, BitVec.getLsbD_xor, BitVec.getLsbD_allOnes, decide_eq_true hi, BitVec.getLsbD_zero] at a1 a2
    rw [BitVec.getLsbD_and, BitVec.getLsbD_and]
    revert a1 a2
    cases x.getLsbD i <;> cases y.getLsbD i <;> cases m.getLsbD i <;> decide
theorem and_i32 (x y m : Int32) : x &&& y &&& m = m ↔ m &&& (x ^^^ (-1)) = 0 ∧ m &&& (y ^^^ (-1)) = 0 := by
  rw [← Int32.toBitVec_inj, ← Int32.toBitVec_inj, ← Int32.toBitVec_inj]
  rw [Int32.toBitVec_and, Int32.toBitVec_and, Int32.toBitVec_and, Int32.toBitVec_and, Int32.toBitVec_xor, Int32.toBitVec_xor]
  exact and_bv _ _ _
section ZA
variable {x : JX} {h g : JH} {L L' i q s d : Nat}
theorem z_walk {v w : Int32} (hR : REL h L) : GLU x yX8_walk cX8_walk 4 yX9_walk cX9_walk 3 .int 2 3 0 0 [.int v, .int w] h L := by
  have hR0 := hR
  obtain ⟨hK, hX, hM, -, -, -, -, -, ⟨ρ, r1, r2, r3, r4, r5, r6⟩, -⟩ := hR
  by_cases hv : isin v 0 3 = true
  · obtain ⟨r, hr, rfl⟩ := (isK (n := 3) (by omega)).mp hv
    obtain ⟨tc, e, p1, p2, p3⟩ := r6 r (by omega)
    refine ⟨_, j_X8_walk hK hX (by omega) (r3 r (by omega)) (r5 r (by omega)).1.1, fun v' h1 qq => ?_⟩
    obtain ⟨rfl, rfl⟩ := qq
    refine ⟨_, _, rfl, hK, j_X9_walk hK hM (by omega) p3 p1, fun v2 h2 q2 => ?_⟩
    obtain ⟨rfl, s, rfl⟩ := q2
    obtain ⟨d1, d2, d3, d4, d5⟩ := p2
    exact ⟨by unfold mWalk xWalk; rw [d1.2.1, d3, d4, d5], hR0.same (by omega) rfl (fun a b z => sC_o (by omega) (by omega))⟩
  · rw [Bool.not_eq_true] at hv
    exact GLU.ro hR0 (j_X8_walk_no hK hX hv) (j_X9_walk_no hv) rfl
theorem RC1.fit {tc : Cond} {e : Nat} (hC : RC1 h i q s L) (hD : DRec h d tc e) : mFit h i tc = xFit h q d := by
  obtain ⟨-, -, ⟨d1, d2, d3, d4, d5, d6, d7, d8⟩, ⟨b, b1, b2⟩, -⟩ := hC
  obtain ⟨-, -, e5, e6, e7⟩ := hD
  unfold mFit xFit
  have c1 : nI (cap (pP tc)) ≤ nI b ↔ nI (min 1000000 (pP tc)) ≤ nI b := by
    rw [nI_leI (by have := cap_lt (pP tc); omega) (by omega), nI_leI (by omega) (by omega)]; unfold cap; omega
  have c2 : nI (cap (pW tc)) ≤ 5000 ↔ nI (min 1000000 (pW tc)) ≤ 5000 := by
    rw [show (5000 : Int32) = nI 5000 from rfl, nI_leI (by have := cap_lt (pW tc); omega) (by omega), nI_leI (by omega) (by omega)]; unfold cap; omega
  rw [e5, e6, e7, d4, d5, b2, decide_eq_decide.mpr c1, decide_eq_decide.mpr c2]
theorem RC1.fwd (hC : RC1 h i q s L) (hI : RI h) {f w k : Nat} (hf : f ≤ 255) (hk : k < xRch h q s f w) : mFwd h i s f w k = xFwd h q s f w k := by
  have ha := xRch_a hk
  have hff := xRch_f hf hk
  obtain ⟨z1, z2, -⟩ := hC.2.2.2.2.2.1 _ ha
  unfold mFwd xFwd
  rw [hC.adr, ← z1, ← z2, ← (hI (f + w * k) (by omega)).1, ← Bool.decide_and]
  exact decide_eq_decide.mpr (and_i32 _ _ _).symm
theorem RC1.why {tc : Cond} {e : Nat} {id : Int32} (hC : RC1 h i q s L) (hI : RI h) (hD : DRec h d tc e) {f w : Nat} (hf : f ≤ 255) : mWhy h i s tc id f w = xWhy h q s d id f w := by
  unfold mWhy xWhy
  rw [hC.lk, hC.fit hD, ← hC.2.2.1.1]
  have e1 := lkf_neg (f := xLack h q) 28 0 (by omega)
  have e2 : (∀ k, k < mRch h i s f w → mFwd h i s f w k = true) ↔ (∀ k, k < xRch h q s f w → xFwd h q s f w k = true) := by
    rw [hC.rch]
    exact ⟨fun z k hk => by rw [← hC.fwd hI hf hk]; exact z k hk, fun z k hk => by rw [hC.fwd hI hf hk]; exact z k hk⟩
  by_cases a1 : lkf (xLack h q) 28 0 = -1
  · rw [if_neg (show ¬ ¬ lkf (xLack h q) 28 0 < 0 from fun z => z (e1.mpr a1)), if_neg (show ¬ ¬ lkf (xLack h q) 28 0 = -1 from fun z => z a1)]
    by_cases a2 : ∀ k, k < xRch h q s f w → xFwd h q s f w k = true
    · rw [if_pos (e2.mpr a2), if_pos a2]
    · rw [if_neg (fun z => a2 (e2.mp z)), if_neg a2]
  · rw [if_pos (show ¬ lkf (xLack h q) 28 0 < 0 from fun z => a1 (e1.mp z)), if_pos (show ¬ lkf (xLack h q) 28 0 = -1 from a1)]
theorem z_why {v r id f w : Int32} (hR : REL h L) : GLU x yX8_why cX8_why 8 yX9_why cX9_why 6 .int 4 5 0 0 [.int v, .int r, .int id, .int f, .int w] h L := by
  have hR0 := hR
  obtain ⟨hK, hX, hM, -, hI, -, -, ⟨nc, q, s, hC⟩, ⟨ρ, r1, r2, r3, r4, r5, r6⟩, -⟩ := hR
  have hW := hC.mw hK hM
  have c12 := hC.2.2.1
  by_cases ho : (isin v 0 (nI nc - 1) && isin r 0 3 && isin id 0 255 && (isin f 0 255 && isin w 1 8)) = true
  · obtain ⟨o1, o2⟩ := Bool.and_eq_true_iff.mp ho
    obtain ⟨o1, o5⟩ := Bool.and_eq_true_iff.mp o1
    obtain ⟨o1, o4⟩ := Bool.and_eq_true_iff.mp o1
    obtain ⟨o2, o3⟩ := Bool.and_eq_true_iff.mp o2
    obtain ⟨i, hi, rfl⟩ := (isinN (by have := hC.1; omega)).mp o1
    obtain ⟨r, hr, rfl⟩ := (isK (n := 3) (by omega)).mp o4
    obtain ⟨f, hf, rfl⟩ := isF o2
    obtain ⟨w, hw, rfl⟩ := isW o3
    obtain ⟨y1, y2, y3, y4⟩ := hC.2.2.2.1 i hi
    obtain ⟨tc, e, p1, p2, p3⟩ := r6 r (by omega)
    refine ⟨_, j_X8_why hK hX hC.2.1 hC.1 hi (by omega) y1 (r3 r (by omega)) y4.1 (r5 r (by omega)).1.1 o5 hf hw, fun v' h1 qq => ?_⟩
    obtain ⟨rfl, rfl⟩ := qq
    refine ⟨_, _, rfl, hW.1, j_X9_why hW (by omega) hi hf hw o5 p3 p1, fun v2 h2 q2 => ?_⟩
    obtain ⟨rfl, t, rfl⟩ := q2
    exact ⟨by rw [y4.why hI p2 hf], hR0.same (by omega) rfl (fun a b z => sC_o (by omega) (by omega))⟩
  · rw [Bool.not_eq_true] at ho
    refine GLU.ro hR0 (j_X8_why_no hK hX hC.2.1 hC.1 (fun i hi => (hC.2.2.2.1 i hi).1) r3 ho) (j_X9_why_no hK ?_) rfl
    unfold whyOk; rw [c12]; exact ho
end ZA
