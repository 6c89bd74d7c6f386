-- both halves side by side
def RT (h : JH) : Prop := ∃ n, n ≤ 400 ∧ gi h 1 1 = nI n ∧ gi h 38 2 = nI n ∧ (∀ j, gi h 2 j = gi h 40 j) ∧ ∀ j, ∃ b, b < 256 ∧ gi h 40 j = nI b
def RI (h : JH) : Prop := ∀ j, j < 256 → gi h 3 j = gi h 39 j ∧ ∃ b, b < 256 ∧ gi h 39 j = nI b
def RF4 (h : JH) : Prop := gi h 4 0 = gi h 38 3 ∧ gi h 4 1 = gi h 38 4
def RB (h : JH) (L : Nat) : Prop := ∃ B, B ≤ 110000 * L ∧ gi h 0 10 = nI B ∧ gl h 38 5 = lN B
/-- chip i: the class's lies at q -/
def RC1 (h : JH) (i q s L : Nat) : Prop := CK h q s ∧ gi h 44 i = nI (8 * s) ∧ (gi h q 1 = gi h 45 i ∧ gi h q 2 = gi h 46 i ∧ gi h q 3 = gi h 47 i ∧ gi h q 4 = gi h 48 i ∧ gi h q 5 = gi h 49 i ∧ gi h q 6 = gi h 50 i ∧ gi h q 7 = gi h 51 i ∧ gi h q 15 = gi h 52 i) ∧ (∃ b, b ≤ 200 ∧ gi h 49 i = nI b) ∧ (∃ m, m ≤ 100000 * L ∧ gi h q 16 = nI m ∧ gl h 53 i = lN m) ∧ (∀ a, a < 8 * s → gi h (q + 3) a = gi h 54 (64 * i + a) ∧ gi h (q + 4) a = gi h 55 (64 * i + a) ∧ gi h (q + 5) a = gi h 56 (64 * i + a) ∧ gi h (q + 6) a = gi h 57 (64 * i + a) ∧ gi h (q + 7) a = gi h 58 (64 * i + a) ∧ (∃ b, b < 256 ∧ gi h 54 (64 * i + a) = nI b) ∧ ∃ b, b < 256 ∧ gi h 55 (64 * i + a) = nI b) ∧ (∀ b, b < 8 → gi h (q + 1) b = gi h 59 (8 * i + b)) ∧ ∀ p, p < 28 → gi h (q + 2) p = gi h 60 (28 * i + p)
/-- a chip not yet made: its rows are clean -/
def RZ1 (h : JH) (i : Nat) : Prop := gi h 52 i = 0 ∧ gl h 53 i = lN 0 ∧ (∀ a, a < 64 → gi h 57 (64 * i + a) = 0) ∧ (∀ b, b < 8 → gi h 59 (8 * i + b) = 0) ∧ ∀ p, p < 28 → gi h 60 (28 * i + p) = 0
def RCh (h : JH) (L nc : Nat) (q s : Nat → Nat) : Prop := nc ≤ 4 ∧ gi h 0 7 = nI nc ∧ gi h 38 12 = nI nc ∧ (∀ i, i < nc → gr h 11 i = some (q i) ∧ 76 ≤ q i ∧ q i + 8 ≤ (kd h).length ∧ RC1 h i (q i) (s i) L) ∧ (∀ i j, i < j → j < nc → q i + 8 ≤ q j) ∧ ∀ i, nc ≤ i → i < 4 → RZ1 h i
def RR (h : JH) (ρ : Nat → Nat) : Prop := (∀ r, r ≤ 4 → ρ r = 13 ∨ ρ r = 18 ∨ ρ r = 23 ∨ ρ r = 28 ∨ ρ r = 33) ∧ (∀ r r', r ≤ 4 → r' ≤ 4 → r ≠ r' → ρ r ≠ ρ r') ∧ (∀ r, r < 4 → gr h 12 r = some (ρ r)) ∧ gr h 0 9 = some (ρ 4) ∧ (∀ r, r ≤ 4 → RK h (ρ r)) ∧ ∀ r, r < 4 → ∃ tc e, POK tc 5 ∧ DRec h (ρ r) tc e ∧ MRec (gi h) r tc e
def REL (h : JH) (L : Nat) : Prop := Kin h ∧ XR h ∧ MR h ∧ RT h ∧ RI h ∧ RF4 h ∧ RB h L ∧ (∃ nc q s, RCh h L nc q s) ∧ (∃ ρ, RR h ρ) ∧ (kd h).length ≤ 76 + 8 * L
section Z1
variable {h g : JH} {L L' : Nat}
theorem RT.c (hT : RT h) (e1 : gi g 1 1 = gi h 1 1) (e2 : gi g 38 2 = gi h 38 2) (e3 : ∀ j, gi g 2 j = gi h 2 j) (e4 : ∀ j, gi g 40 j = gi h 40 j) : RT g := by
  obtain ⟨n, h1, h2, h3, h4, h5⟩ := hT
  exact ⟨n, h1, e1.trans h2, e2.trans h3, fun j => by rw [e3, e4]; exact h4 j, fun j => by rw [e4]; exact h5 j⟩
theorem RI.c (hI : RI h) (e1 : ∀ j, j < 256 → gi g 3 j = gi h 3 j) (e2 : ∀ j, j < 256 → gi g 39 j = gi h 39 j) : RI g := fun j hj => by
  rw [e1 j hj, e2 j hj]; exact hI j hj
theorem RF4.c (hF : RF4 h) (e1 : gi g 4 0 = gi h 4 0) (e2 : gi g 4 1 = gi h 4 1) (e3 : gi g 38 3 = gi h 38 3) (e4 : gi g 38 4 = gi h 38 4) : RF4 g := ⟨by rw [e1, e3]; exact hF.1, by rw [e2, e4]; exact hF.2⟩
theorem RB.c (hB : RB h L) (hL : L ≤ L') (e1 : gi g 0 10 = gi h 0 10) (e2 : gl g 38 5 = gl h 38 5) : RB g L' := by
  obtain ⟨B, h1, h2, h3⟩ := hB
  exact ⟨B, by have := Nat.mul_le_mul_left 110000 hL; omega, e1.trans h2, e2.trans h3⟩
theorem RC1.c {i q s : Nat} (hC : RC1 h i q s L) (hL : L ≤ L') (hi : i < 4) (hs : s ≤ 8) (ek : ∀ (a : Nat) (b : Nat × Nat), (kd h)[a]? = some b → (kd g)[a]? = some b) (er : ∀ b, gr g q b = gr h q b) (e1 : ∀ a b, q ≤ a → a ≤ q + 7 → gi g a b = gi h a b) (e2 : ∀ a b, 44 ≤ a → a ≤ 60 → gi g a b = gi h a b) (e3 : gl g 53 i = gl h 53 i) : RC1 g i q s L' := by
  obtain ⟨c1, c2, ⟨d1, d2, d3, d4, d5, d6, d7, d8⟩, ⟨b, b1, b2⟩, ⟨m, m1, m2, m3⟩, c5, c6, c7⟩ := hC
  have x1 : ∀ k b, k ≤ 7 → gi g (q + k) b = gi h (q + k) b := fun k b hk => e1 _ _ (by omega) (by omega)
  have x0 : ∀ b, gi g q b = gi h q b := fun b => e1 _ _ (by omega) (by omega)
  refine ⟨c1.mono ek er (x0 0), by rw [e2 _ _ (by omega) (by omega)]; exact c2, ⟨by rw [x0, e2 _ _ (by omega) (by omega)]; exact d1, by rw [x0, e2 _ _ (by omega) (by omega)]; exact d2, by rw [x0, e2 _ _ (by omega) (by omega)]; exact d3, by rw [x0, e2 _ _ (by omega) (by omega)]; exact d4, by rw [x0, e2 _ _ (by omega) (by omega)]; exact d5, by rw [x0, e2 _ _ (by omega) (by omega)]; exact d6, by rw [x0, e2 _ _ (by omega) (by omega)]; exact d7, by rw [x0, e2 _ _ (by omega) (by omega)]; exact d8⟩, ⟨b, b1, by rw [e2 _ _ (by omega) (by omega)]; exact b2⟩, ⟨m, by have := Nat.mul_le_mul_left 100000 hL; omega, by rw [x0]; exact m2, by rw [e3]; exact m3⟩, fun a ha => ?_, fun b hb => by rw [x1 1 b (by omega), e2 _ _ (by omega) (by omega)]; exact c6 b hb, fun p hp => by rw [x1 2 p (by omega), e2 _ _ (by omega) (by omega)]; exact c7 p hp⟩
  obtain ⟨z1, z2, z3, z4, z5, z6, z7⟩ := c5 a ha
  exact ⟨by rw [x1 3 a (by omega), e2 _ _ (by omega) (by omega)]; exact z1, by rw [x1 4 a (by omega), e2 _ _ (by omega) (by omega)]; exact z2, by rw [x1 5 a (by omega), e2 _ _ (by omega) (by omega)]; exact z3, by rw [x1 6 a (by omega), e2 _ _ (by omega) (by omega)]; exact z4, by rw [x1 7 a (by omega), e2 _ _ (by omega) (by omega)]; exact z5, by rw [e2 _ _ (by omega) (by omega)]; exact z6, by rw [e2 _ _ (by omega) (by omega)]; exact z7⟩
theorem RZ1.c {i : Nat} (hZ : RZ1 h i) (e2 : ∀ a b, 44 ≤ a → a ≤ 60 → gi g a b = gi h a b) (e3 : gl g 53 i = gl h 53 i) : RZ1 g i := by
  obtain ⟨z1, z2, z3, z4, z5⟩ := hZ
  exact ⟨by rw [e2 _ _ (by omega) (by omega)]; exact z1, by rw [e3]; exact z2, fun a ha => by rw [e2 _ _ (by omega) (by omega)]; exact z3 a ha, fun a ha => by rw [e2 _ _ (by omega) (by omega)]; exact z4 a ha, fun a ha => by rw [e2 _ _ (by omega) (by omega)]; exact z5 a ha⟩
theorem RCh.c {nc : Nat} {q s : Nat → Nat} (hC : RCh h L nc q s) (hL : L ≤ L') (ek : ∀ (a : Nat) (b : Nat × Nat), (kd h)[a]? = some b → (kd g)[a]? = some b) (el : (kd h).length ≤ (kd g).length) (er : ∀ a b, (a = 11 ∨ 76 ≤ a) → a < (kd h).length → gr g a b = gr h a b) (e0 : gi g 0 7 = gi h 0 7) (e9 : gi g 38 12 = gi h 38 12) (e1 : ∀ a b, 76 ≤ a → a < (kd h).length → gi g a b = gi h a b) (e2 : ∀ a b, 44 ≤ a → a ≤ 60 → gi g a b = gi h a b) (e3 : ∀ i, i < 4 → gl g 53 i = gl h 53 i) (h76 : 76 ≤ (kd h).length) : RCh g L' nc q s := by
  obtain ⟨c1, c2, c3, c4, c5, c6⟩ := hC
  refine ⟨c1, e0.trans c2, e9.trans c3, fun i hi => ?_, c5, fun i hi h4 => (c6 i hi h4).c (fun a b p1 p2 => e2 a b p1 p2) (e3 i h4)⟩
  obtain ⟨z1, z2, z3, z4⟩ := c4 i hi
  exact ⟨by rw [er _ _ (Or.inl rfl) (by omega)]; exact z1, z2, by omega, z4.c hL (by omega) z4.1.2.2.2.2 ek (fun b => er _ _ (Or.inr z2) (by omega)) (fun a b q1 q2 => e1 _ _ (by omega) (by omega)) e2 (e3 i (by omega))⟩
theorem DRec.c {d e : Nat} {tc : Cond} (hD : DRec h d tc e) (hP : PG tc) (ek : ∀ (a : Nat) (b : Nat × Nat), (kd h)[a]? = some b → (kd g)[a]? = some b) (er : ∀ b, gr g d b = gr h d b) (e1 : ∀ a b, d ≤ a → a ≤ d + 4 → gi g a b = gi h a b) : DRec g d tc e := by
  obtain ⟨h1, h2, h3, h4, h5⟩ := hD
  exact ⟨h1.mono ek er (e1 _ _ (by omega) (by omega)), DS_congr tc hP 0 e (fun k _ _ => ⟨e1 _ _ (by omega) (by omega), e1 _ _ (by omega) (by omega), e1 _ _ (by omega) (by omega), e1 _ _ (by omega) (by omega)⟩) h2, by rw [e1 _ _ (by omega) (by omega)]; exact h3, by rw [e1 _ _ (by omega) (by omega)]; exact h4, by rw [e1 _ _ (by omega) (by omega)]; exact h5⟩
theorem RR.c {ρ : Nat → Nat} (hR : RR h ρ) (ek : ∀ (a : Nat) (b : Nat × Nat), (kd h)[a]? = some b → (kd g)[a]? = some b) (er : ∀ a b, a < 38 → gr g a b = gr h a b) (e1 : ∀ a b, 13 ≤ a → a < 38 → gi g a b = gi h a b) (e2 : ∀ a b, 61 ≤ a → a ≤ 67 → gi g a b = gi h a b) : RR g ρ := by
  obtain ⟨r1, r2, r3, r4, r5, r6⟩ := hR
  refine ⟨r1, r2, fun r hr => by rw [er _ _ (by omega)]; exact r3 r hr, by rw [er _ _ (by omega)]; exact r4, fun r hr => ?_, fun r hr => ?_⟩
  · have h13 := r1 r hr
    obtain ⟨⟨hd0, hd1, hd2, hd3, hd4⟩, hq0, hq1, hq2, hq3⟩ := r5 r hr
    exact ⟨⟨ek _ _ hd0, ek _ _ hd1, ek _ _ hd2, ek _ _ hd3, ek _ _ hd4⟩, by rw [er _ _ (by omega)]; exact hq0, by rw [er _ _ (by omega)]; exact hq1, by rw [er _ _ (by omega)]; exact hq2, by rw [er _ _ (by omega)]; exact hq3⟩
  · have h13 := r1 r (by omega)
    obtain ⟨tc, e, o1, o2, o3⟩ := r6 r hr
    exact ⟨tc, e, o1, o2.c o3.1 ek (fun b => er _ _ (by omega)) (fun a b q1 q2 => e1 _ _ (by omega) (by omega)), MRec_congr o3 (fun a b q1 q2 => e2 a b q1 q2)⟩
/-- all at once, where only the cells that nobody asks for have changed -/
theorem REL.same (hR : REL h L) (hL : L ≤ L') (e : g.2 = h.2) (e1 : ∀ a b, ((a < 38 ∧ a ≠ 5 ∧ a ≠ 6 ∧ a ≠ 7 ∧ a ≠ 8 ∧ a ≠ 9 ∧ a ≠ 10) ∨ 76 ≤ a ∨ (39 ≤ a ∧ a ≤ 40) ∨ (44 ≤ a ∧ a ≤ 67) ∨ (a = 38 ∧ (b = 2 ∨ b = 3 ∨ b = 4 ∨ b = 12))) → gi g a b = gi h a b) : REL g L' := by
  obtain ⟨hK, hX, hM, h1, h2, h3, h4, ⟨nc, q, s, h5⟩, ⟨ρ, h6⟩, h7⟩ := hR
  have ek : kd g = kd h := by show g.2.2.2 = h.2.2.2; rw [e]
  have er : ∀ a b, gr g a b = gr h a b := fun a b => by show g.2.2.1 a b = h.2.2.1 a b; rw [e]
  have el : ∀ a b, gl g a b = gl h a b := fun a b => by show g.2.1 a b = h.2.1 a b; rw [e]
  have h76 : 76 ≤ (kd h).length := by obtain ⟨r, hr⟩ := hK; rw [hr, List.length_append]; simp
  refine ⟨hK.of2 e, hX.of3 (by rw [e]), hM.of2 e, h1.c (e1 _ _ (by omega)) (e1 _ _ (by omega)) (fun j => e1 _ _ (by omega)) (fun j => e1 _ _ (by omega)), h2.c (fun j _ => e1 _ _ (by omega)) (fun j _ => e1 _ _ (by omega)), h3.c (e1 _ _ (by omega)) (e1 _ _ (by omega)) (e1 _ _ (by omega)) (e1 _ _ (by omega)), h4.c hL (e1 _ _ (by omega)) (el _ _), ⟨nc, q, s, h5.c hL (fun a b z => by rw [ek]; exact z) (by rw [ek]; omega) (fun a b _ _ => er a b) (e1 _ _ (by omega)) (e1 _ _ (by omega)) (fun a b q1 _ => e1 _ _ (by omega)) (fun a b q1 q2 => e1 _ _ (by omega)) (fun i _ => el _ _) h76⟩, ⟨ρ, h6.c (fun a b z => by rw [ek]; exact z) (fun a b _ => er a b) (fun a b q1 q2 => e1 _ _ (by omega)) (fun a b q1 q2 => e1 _ _ (by omega))⟩, by rw [ek]; omega⟩
end Z1
/-- a call agrees: the class's first, then the reference's -/
def GLU (x : JX) (yc : MethodName) (cc : ByteArray) (nc : Nat) (ym : MethodName) (cm : ByteArray) (nm : Nat) (rt : FieldType) (dc dm kc sc : Nat) (as : List Value) (h : JH) (L : Nat) : Prop := ∃ Q1 : Option Value → JH → Prop, JM x yc cc nc (some rt) dc kc sc (.ref 0 :: as) h Q1 ∧ ∀ v h1, Q1 v h1 → ∃ (w : Int32) (Q2 : Option Value → JH → Prop), v = some (.int w) ∧ Kin h1 ∧ JM x ym cm nm (some rt) dm 0 0 (.ref 38 :: as) h1 Q2 ∧ ∀ v2 h2, Q2 v2 h2 → v2 = some (.int w) ∧ REL h2 (L + 1)
section Z2
variable {x : JX} {h : JH} {L : Nat}
/-- a call that changes nothing -/
theorem GLU.ro {yc : MethodName} {cc : ByteArray} {nc : Nat} {ym : MethodName} {cm : ByteArray} {nm : Nat} {rt : FieldType} {dc dm kc sc : Nat} {as : List Value} {w w' : Int32} (hR : REL h L) (h1 : JF x yc cc nc (some rt) dc kc sc (.ref 0 :: as) h (some (.int w)) h) (h2 : JF x ym cm nm (some rt) dm 0 0 (.ref 38 :: as) h (some (.int w')) h) (e : w' = w) : GLU x yc cc nc ym cm nm rt dc dm kc sc as h L := by
  refine ⟨_, h1, fun v g q => ?_⟩
  obtain ⟨rfl, rfl⟩ := q
  refine ⟨w, _, rfl, hR.1, h2, fun v2 g2 q2 => ?_⟩
  obtain ⟨rfl, rfl⟩ := q2
  exact ⟨by rw [e], hR.same (by omega) rfl (fun _ _ _ => rfl)⟩
theorem z_tape {i : Int32} (hR : REL h L) : GLU x yX8_tape cX8_tape 2 yX9_tape cX9_tape 2 .int 1 1 0 0 [.int i] h L := by
  have hR0 := hR
  obtain ⟨hK, hX, hM, ⟨n, n4, t1, t2, t3, t4⟩, -⟩ := hR
  refine GLU.ro hR0 (j_X8_tape hK hX t1 n4) (j_X9_tape hK hM (by rw [t2, nI_toInt (by omega)]; omega) (by rw [t2, nI_toInt (by omega)]; omega)) ?_
  rw [t2, t3]
theorem z_image {i : Int32} (hR : REL h L) : GLU x yX8_image cX8_image 2 yX9_image cX9_image 2 .int 1 1 0 0 [.int i] h L := by
  have hR0 := hR
  obtain ⟨hK, hX, hM, -, h2, -⟩ := hR
  refine GLU.ro hR0 (j_X8_image hK hX) (j_X9_image hK hM) ?_
  by_cases hi : isin i 0 255 = true
  · rw [if_pos hi, if_pos hi]
    obtain ⟨k, hk, rfl⟩ := (isK (n := 255) (by omega)).mp hi
    rw [ixn (by omega)]
    exact (h2 k (by omega)).1.symm
  · rw [if_neg hi, if_neg hi]
theorem z_fault {v : Int32} (hR : REL h L) : GLU x yX8_fault cX8_fault 2 yX9_fault cX9_fault 2 .int 0 0 0 0 [.int v] h L := by
  have hR0 := hR
  obtain ⟨hK, hX, hM, -, -, h3, -⟩ := hR
  refine GLU.ro hR0 (j_X8_fault hK hX) (j_X9_fault hK) ?_
  rw [h3.1, h3.2]
theorem z_about {v : Int32} (hR : REL h L) (hL : L ≤ 512) : GLU x yX8_about cX8_about 2 yX9_about cX9_about 2 .int 1 0 0 0 [.int v] h L := by
  have hR0 := hR
  obtain ⟨hK, hX, hM, ⟨n, n4, t1, t2, t3, t4⟩, -, -, ⟨B, b1, b2, b3⟩, ⟨nc, q, s, c1, c2, c3, -⟩, -⟩ := hR
  refine GLU.ro hR0 (j_X8_about hK hX) (j_X9_about hK (by rw [b3, pk_lT (by omega)]; omega)) ?_
  rw [b3, lN_i, b2, c2, c3, t1, t2]
end Z2
