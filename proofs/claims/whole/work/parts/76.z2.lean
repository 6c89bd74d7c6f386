-- both halves: tape and image
section Z3
variable {x : JX} {h g : JH} {L L' : Nat}
theorem REL.upd (hR : REL h L) (hL : L ≤ L') (e : g.2.2 = h.2.2) (hT : RT g) (hI : RI g) (hF : RF4 g) (hB : RB g L') (el : ∀ i, i < 4 → gl g 53 i = gl h 53 i) (e1 : ∀ a b, ((a = 0 ∧ b = 7) ∨ (13 ≤ a ∧ a < 38) ∨ 76 ≤ a ∨ (44 ≤ a ∧ a ≤ 67) ∨ (a = 38 ∧ b = 12)) → gi g a b = gi h a b) : REL g L' := by
  obtain ⟨hK, hX, hM, -, -, -, -, ⟨nc, q, s, h5⟩, ⟨ρ, h6⟩, h7⟩ := hR
  have ek : kd g = kd h := by show g.2.2.2 = h.2.2.2; rw [e]
  have er : ∀ a b, gr g a b = gr h a b := fun a b => by show g.2.2.1 a b = h.2.2.1 a b; rw [e]
  have h76 : 76 ≤ (kd h).length := by obtain ⟨r, hr⟩ := hK; rw [hr, List.length_append]; simp
  exact ⟨hK.of3 e, hX.of3 e, hM.of3 e, hT, hI, hF, hB, ⟨nc, q, s, h5.c hL (fun a b z => by rw [ek]; exact z) (by rw [ek]; omega) (fun a b _ _ => er a b) (e1 _ _ (by omega)) (e1 _ _ (by omega)) (fun a b q1 _ => e1 _ _ (by omega)) (fun a b q1 q2 => e1 _ _ (by omega)) el h76⟩, ⟨ρ, h6.c (fun a b z => by rw [ek]; exact z) (fun a b _ => er a b) (fun a b q1 q2 => e1 _ _ (by omega)) (fun a b q1 q2 => e1 _ _ (by omega))⟩, by rw [ek]; omega⟩
theorem xAd_o {a c : Nat} {b : Int32} (h1 : a ≠ 2) (h2 : ¬ (a = 1 ∧ c = 1)) : gi (xAd h b) a c = gi h a c := by unfold xAd; rw [gi_si, if_neg h2, gi_si, if_neg (fun q => h1 q.1)]
theorem mAdd_o {a c : Nat} {b : Int32} (h1 : a ≠ 40) (h2 : ¬ (a = 38 ∧ c = 2)) : gi (mAdd h b) a c = gi h a c := by unfold mAdd; rw [gi_si, if_neg h2, gi_si, if_neg (fun q => h1 q.1)]
/-- two tapes alike -/
def P2 (g1 g2 : JH) (n : Nat) : Prop := gi g1 1 1 = nI n ∧ gi g2 38 2 = nI n ∧ (∀ j, gi g1 2 j = gi g2 40 j) ∧ ∀ j, ∃ b, b < 256 ∧ gi g2 40 j = nI b
theorem P2.add {g1 g2 : JH} {n : Nat} (hP : P2 g1 g2 n) (hn : n < 100000) {b : Int32} (hb : ∃ k, k < 256 ∧ b = nI k) : P2 (xAd g1 b) (mAdd g2 b) (n + 1) := by
  obtain ⟨h1, h2, h3, h4⟩ := hP
  refine ⟨by rw [xAd_n, h1, nI_1], by rw [mAdd_n, h2, nI_1], fun j => ?_, fun j => ?_⟩
  · have e1 : gi (xAd g1 b) 2 j = if j = n then b else gi g1 2 j := by
      unfold xAd
      rw [gi_si, if_neg (by omega), gi_si, h1, ixn (by omega)]
      by_cases hj : j = n
      · rw [if_pos ⟨rfl, hj⟩, if_pos hj]
      · rw [if_neg (fun q => hj q.2), if_neg hj]
    have e2 : gi (mAdd g2 b) 40 j = if j = n then b else gi g2 40 j := by
      unfold mAdd
      rw [gi_si, if_neg (by omega), gi_si, h2, ixn (by omega)]
      by_cases hj : j = n
      · rw [if_pos ⟨rfl, hj⟩, if_pos hj]
      · rw [if_neg (fun q => hj q.2), if_neg hj]
    rw [e1, e2, h3 j]
  · unfold mAdd
    rw [gi_si, if_neg (by omega), gi_si]
    split
    · exact hb
    · exact h4 j
theorem b255 (v : Int32) : ∃ k, k < 256 ∧ v &&& 255 = nI k := pk_andE v 8 rfl
theorem P2.four {g1 g2 : JH} {n : Nat} (hP : P2 g1 g2 n) (hn : n < 90000) (v : Int32) : P2 (xFour g1 v) (mFour g2 v) (n + 4) := (((hP.add (by omega) (b255 _)).add (by omega) (b255 _)).add (by omega) (b255 _)).add (by omega) (b255 _)
theorem P2.feed {g1 g2 : JH} {n : Nat} (hP : P2 g1 g2 n) (hn : n < 80000) (a b c d e : Int32) : P2 (xFeed g1 a b c d e) (mFeed g2 a b c d e) (n + 20) := ((((hP.four (by omega) a).four (by omega) b).four (by omega) c).four (by omega) d).four (by omega) e
theorem xFeed_o {a b c d e : Int32} {p q : Nat} (h1 : p ≠ 2) (h2 : ¬ (p = 1 ∧ q = 1)) : gi (xFeed h a b c d e) p q = gi h p q := by
  unfold xFeed xFour
  repeat rw [xAd_o h1 h2]
theorem mFeed_o {a b c d e : Int32} {p q : Nat} (h1 : p ≠ 40) (h2 : ¬ (p = 38 ∧ q = 2)) : gi (mFeed h a b c d e) p q = gi h p q := by
  unfold mFeed mFour
  repeat rw [mAdd_o h1 h2]
theorem z_feed {a b c d e : Int32} (hR : REL h L) : GLU x yX8_feed cX8_feed 6 yX9_feed cX9_feed 6 .int 2 1 0 0 [.int a, .int b, .int c, .int d, .int e] h L := by
  have hR0 := hR
  obtain ⟨hK, hX, hM, ⟨n, n4, t1, t2, t3, t4⟩, h2, h3, h4, -⟩ := hR
  refine ⟨_, j_X8_feed hK hX t1 n4, fun v h1 q => ?_⟩
  obtain ⟨rfl, rfl⟩ := q
  by_cases hn : n ≤ 380
  · rw [if_pos hn, if_pos hn]
    have hK1 : Kin (xFeed h a b c d e) := hK
    have hM1 : MR (xFeed h a b c d e) := hM
    have g2 : gi (xFeed h a b c d e) 38 2 = nI n := by rw [xFeed_o (by omega) (by omega)]; exact t2
    refine ⟨_, _, rfl, hK1, j_X9_feed hK1 hM1 g2 n4, fun v2 h2' q2 => ?_⟩
    obtain ⟨rfl, rfl⟩ := q2
    rw [if_pos hn, if_pos hn]
    refine ⟨rfl, ?_⟩
    have hP0 : P2 h (xFeed h a b c d e) n := ⟨t1, g2, fun j => by rw [xFeed_o (by omega) (by omega)]; exact t3 j, fun j => by rw [xFeed_o (by omega) (by omega)]; exact t4 j⟩
    obtain ⟨p1, p2, p3, p4⟩ := hP0.feed (by omega) a b c d e
    have o : ∀ p q, p ≠ 40 → ¬ (p = 38 ∧ q = 2) → p ≠ 2 → ¬ (p = 1 ∧ q = 1) → gi (mFeed (xFeed h a b c d e) a b c d e) p q = gi h p q := fun p q q1 q2 q3 q4 => by rw [mFeed_o q1 q2, xFeed_o q3 q4]
    refine hR0.upd (by omega) rfl ⟨n + 20, by omega, by rw [mFeed_o (by omega) (by omega)]; exact p1, p2, fun j => by rw [mFeed_o (by omega) (by omega)]; exact p3 j, p4⟩ (h2.c (fun j _ => o _ _ (by omega) (by omega) (by omega) (by omega)) (fun j _ => o _ _ (by omega) (by omega) (by omega) (by omega))) (h3.c (o _ _ (by omega) (by omega) (by omega) (by omega)) (o _ _ (by omega) (by omega) (by omega) (by omega)) (o _ _ (by omega) (by omega) (by omega) (by omega)) (o _ _ (by omega) (by omega) (by omega) (by omega))) (h4.c (by omega) (o _ _ (by omega) (by omega) (by omega) (by omega)) rfl) (fun _ _ => rfl) (fun p q z => o _ _ (by omega) (by omega) (by omega) (by omega))
  · rw [if_neg hn, if_neg hn]
    refine ⟨_, _, rfl, hK, j_X9_feed hK hM t2 n4, fun v2 h2' q2 => ?_⟩
    obtain ⟨rfl, rfl⟩ := q2
    rw [if_neg hn, if_neg hn]
    exact ⟨rfl, hR0.same (by omega) rfl (fun _ _ _ => rfl)⟩
theorem z_end {i : Int32} (hR : REL h L) : GLU x yX8_end cX8_end 2 yX9_end cX9_end 2 .int 1 1 0 0 [.int i] h L := by
  have hR0 := hR
  obtain ⟨hK, hX, hM, ⟨n, n4, t1, t2, t3, t4⟩, h2, h3, h4, -⟩ := hR
  refine ⟨_, j_X8_end hK hX, fun v h1 q => ?_⟩
  obtain ⟨rfl, rfl⟩ := q
  by_cases hi : isin i 0 (gi h 1 1) = true
  · rw [if_pos hi, if_pos hi]
    have hK1 : Kin (si h 1 1 i) := hK
    have hM1 : MR (si h 1 1 i) := hM
    have hi2 : isin i 0 (gi (si h 1 1 i) 38 2) = true := by rw [gi_si, if_neg (by omega), t2, ← t1]; exact hi
    refine ⟨_, _, rfl, hK1, j_X9_end hK1 hM1, fun v2 h2' q2 => ?_⟩
    obtain ⟨rfl, rfl⟩ := q2
    rw [if_pos hi2, if_pos hi2]
    refine ⟨rfl, ?_⟩
    rw [t1] at hi
    obtain ⟨k, hk, rfl⟩ := (isK (by omega)).mp hi
    have o : ∀ p q, ¬ (p = 38 ∧ q = 2) → ¬ (p = 1 ∧ q = 1) → gi (si (si h 1 1 (nI k)) 38 2 (nI k)) p q = gi h p q := fun p q q1 q2 => by rw [gi_si, if_neg q1, gi_si, if_neg q2]
    refine hR0.upd (by omega) rfl ⟨k, by omega, by rw [gi_si, if_neg (by omega), gi_si, if_pos ⟨rfl, rfl⟩], by rw [gi_si, if_pos ⟨rfl, rfl⟩], fun j => by rw [o _ _ (by omega) (by omega), o _ _ (by omega) (by omega)]; exact t3 j, fun j => by rw [o _ _ (by omega) (by omega)]; exact t4 j⟩ (h2.c (fun j _ => o _ _ (by omega) (by omega)) (fun j _ => o _ _ (by omega) (by omega))) (h3.c (o _ _ (by omega) (by omega)) (o _ _ (by omega) (by omega)) (o _ _ (by omega) (by omega)) (o _ _ (by omega) (by omega))) (h4.c (by omega) (o _ _ (by omega) (by omega)) rfl) (fun _ _ => rfl) (fun p q z => o _ _ (by omega) (by omega))
  · rw [if_neg hi, if_neg hi]
    refine ⟨_, _, rfl, hK, j_X9_end hK hM, fun v2 h2' q2 => ?_⟩
    obtain ⟨rfl, rfl⟩ := q2
    rw [t2, ← t1, if_neg hi, if_neg hi]
    exact ⟨rfl, hR0.same (by omega) rfl (fun _ _ _ => rfl)⟩
theorem z_fill {v : Int32} (hR : REL h L) : GLU x yX8_fill cX8_fill 2 yX9_fill cX9_fill 3 .boolean 1 1 0 0 [.int v] h L := by
  have hR0 := hR
  obtain ⟨hK, hX, hM, h1, h2, h3, h4, -⟩ := hR
  refine ⟨_, j_X8_fill hK hX, fun v' g q => ?_⟩
  obtain ⟨rfl, rfl⟩ := q
  by_cases hv : isin v 0 255 = true
  · rw [if_pos hv]
    have hK1 : Kin (fillN h 3 256 v) := hK
    have hM1 : MR (fillN h 3 256 v) := hM
    refine ⟨_, _, rfl, hK1, j_X9_fill hK1 hM1, fun v2 h2' q2 => ?_⟩
    obtain ⟨rfl, rfl⟩ := q2
    rw [if_pos hv]
    refine ⟨rfl, ?_⟩
    obtain ⟨k, hk, rfl⟩ := (isK (n := 255) (by omega)).mp hv
    have o : ∀ p q, p ≠ 3 → p ≠ 39 → gi (fillN (fillN h 3 256 (nI k)) 39 256 (nI k)) p q = gi h p q := fun p q q1 q2 => by rw [gi_fillN, if_neg (fun z => q2 z.1), gi_fillN, if_neg (fun z => q1 z.1)]
    refine hR0.upd (by omega) rfl (h1.c (o _ _ (by omega) (by omega)) (o _ _ (by omega) (by omega)) (fun j => o _ _ (by omega) (by omega)) (fun j => o _ _ (by omega) (by omega))) (fun j hj => ?_) (h3.c (o _ _ (by omega) (by omega)) (o _ _ (by omega) (by omega)) (o _ _ (by omega) (by omega)) (o _ _ (by omega) (by omega))) (h4.c (by omega) (o _ _ (by omega) (by omega)) rfl) (fun _ _ => rfl) (fun p q z => o _ _ (by omega) (by omega))
    have e3 : gi (fillN (fillN h 3 256 (nI k)) 39 256 (nI k)) 3 j = nI k := by rw [gi_fillN, if_neg (by omega), gi_fillN, if_pos ⟨rfl, hj⟩]
    have e39 : gi (fillN (fillN h 3 256 (nI k)) 39 256 (nI k)) 39 j = nI k := by rw [gi_fillN, if_pos ⟨rfl, hj⟩]
    rw [e3, e39]
    exact ⟨rfl, k, by omega, rfl⟩
  · rw [if_neg hv]
    refine ⟨_, _, rfl, hK, j_X9_fill hK hM, fun v2 h2' q2 => ?_⟩
    obtain ⟨rfl, rfl⟩ := q2
    rw [if_neg hv]
    exact ⟨rfl, hR0.same (by omega) rfl (fun _ _ _ => rfl)⟩
/-- the image as numbers -/
theorem RI.fn (hI : RI h) : ∃ f : Nat → Nat, (∀ k, f k < 256) ∧ (∀ k, k < 256 → gi h 3 k = nI (f k)) ∧ ∀ k, k < 256 → gi h 39 k = nI (f k) := by
  refine ⟨fun k => if k < 256 then (gi h 39 k).toInt.toNat else 0, fun k => ?_, fun k hk => ?_, fun k hk => ?_⟩
  · simp only
    split
    · rename_i hk
      obtain ⟨-, b, hb, e⟩ := hI k hk
      rw [e, nI_toInt (by omega)]; omega
    · omega
  · obtain ⟨e0, b, hb, e⟩ := hI k hk
    simp only
    rw [if_pos hk, e0, e, nI_toInt (by omega)]; rfl
  · obtain ⟨e0, b, hb, e⟩ := hI k hk
    simp only
    rw [if_pos hk, e, nI_toInt (by omega)]; rfl
/-- what is pushed: where it lies -/
theorem pus_T : ∀ (l : List Int32) (h : JH) (n : Nat), gi h 1 1 = nI n → n + l.length < 100000 → ∀ j, gi (pus h l) 2 j = if n ≤ j ∧ j < n + l.length then l.getD (j - n) 0 else gi h 2 j
  | [], h, n, _, _, j => by rw [if_neg (by simp)]; rfl
  | c :: l, h, n, hn, hl, j => by
    rw [List.length_cons] at hl
    show gi (pus (xAd h c) l) 2 j = _
    rw [pus_T l (xAd h c) (n + 1) (by rw [xAd_n, hn, nI_1]) (by omega) j]
    have e : gi (xAd h c) 2 j = if j = n then c else gi h 2 j := by
      unfold xAd
      rw [gi_si, if_neg (by omega), gi_si, hn, ixn (by omega)]
      by_cases hj : j = n
      · rw [if_pos ⟨rfl, hj⟩, if_pos hj]
      · rw [if_neg (fun q => hj q.2), if_neg hj]
    rw [e, List.length_cons]
    by_cases h1 : n + 1 ≤ j ∧ j < n + 1 + l.length
    · rw [if_pos h1, if_pos (by omega), show j - n = (j - (n + 1)) + 1 by omega, List.getD_cons_succ]
    · rw [if_neg h1]
      by_cases h2 : j = n
      · rw [if_pos h2, if_pos (by omega), h2, Nat.sub_self]; rfl
      · rw [if_neg h2, if_neg (by omega)]
end Z3
