-- both halves: setting a chip's needs, blocks, contacts
section Z6
variable {x : JX} {h g : JH} {L L' : Nat}
theorem z_need {v a w : Int32} (hR : REL h L) : GLU x yX8_need cX8_need 5 yX9_need cX9_need 4 .boolean 2 3 0 0 [.int v, .int a, .int w] h L := by
  have hR0 := hR
  obtain ⟨hK, hX, hM, -, -, -, -, ⟨nc, q, s, hC⟩, -, hl⟩ := hR
  have hW := hC.mw hK hM
  have c12 := hC.2.2.1
  by_cases hv : isin v 0 (nI nc - 1) = true
  · obtain ⟨i, hi, rfl⟩ := (isinN (by have := hC.1; omega)).mp hv
    obtain ⟨y1, y2, y3, y4⟩ := hC.2.2.2.1 i hi
    have hs8 := y4.1.2.2.2.2
    have hi4 : i < 4 := by have := hC.1; omega
    have h44 := y4.2.1
    refine ⟨_, j_X8_need hK hX hC.2.1 hC.1 hi y1 y4.1, fun v' h1 qq => ?_⟩
    obtain ⟨rfl, rfl⟩ := qq
    by_cases hc : (isin a 0 (nI (8 * s i) - 1) && isin w 1 60) = true
    · rw [if_pos hc]
      have hac := hc
      rw [Bool.and_eq_true] at hac
      obtain ⟨k, hk, rfl⟩ := (isinN (by omega)).mp hac.1
      rw [ixn (by omega)]
      have hW1 : MW (si h (q i + 5) k w) nc s := hW.of_si (by omega) (by omega)
      refine ⟨_, _, rfl, hW1.1, j_X9_need hW1, fun v2 h2 q2 => ?_⟩
      obtain ⟨rfl, rfl⟩ := q2
      have e12 : gi (si h (q i + 5) k w) 38 12 = nI nc := by rw [gi_si, if_neg (by omega)]; exact c12
      have e44 : gi (si h (q i + 5) k w) 44 (ix (nI i)) = nI (8 * s i) := by rw [ixn (by omega), gi_si, if_neg (by omega)]; exact h44
      have hcc : (isin (nI i) 0 (nI nc - 1) && isin (nI k) 0 (nI (8 * s i) - 1) && isin w 1 60) = true := by rw [hv, Bool.true_and]; exact hc
      rw [e12, e44, hcc, if_pos rfl, hc, ixn (by omega), ixn (by omega)]
      refine ⟨rfl, ?_⟩
      have key : ∀ a b, gi (si (si h (q i + 5) k w) 56 (64 * i + k) w) a b = if a = 56 ∧ b = 64 * i + k then w else if a = q i + 5 ∧ b = k then w else gi h a b := fun a b => by rw [gi_si, gi_si]
      have o : ∀ a b, ¬ (a = 56 ∧ b = 64 * i + k) → ¬ (a = q i + 5 ∧ b = k) → gi (si (si h (q i + 5) k w) 56 (64 * i + k) w) a b = gi h a b := fun a b p1 p2 => by rw [key, if_neg p1, if_neg p2]
      refine hR0.chp (by omega) rfl rfl (fun a b z => o _ _ (by omega) (by omega)) ⟨nc, q, s, hC.one (i := i) (by omega) (fun _ _ z => z) (Nat.le_refl _) (fun _ _ _ _ => rfl) (o _ _ (by omega) (by omega)) (o _ _ (by omega) (by omega)) (fun a b p1 p2 p3 => o _ _ (by omega) (by omega)) (fun a j p1 p2 p3 => o _ _ (by omega) (by omega)) (fun a b p1 p2 p3 => o _ _ (by omega) (by omega)) (fun b p => o _ _ (by omega) (by omega)) (fun b p => o _ _ (by omega) (by omega)) (fun _ _ => rfl) hK.len hi ?_⟩
      have y40 := y4
      obtain ⟨-, -, ⟨-, -, -, -, -, -, -, d8⟩, -, ⟨m, m1, m2, m3⟩, u5, u6, u7⟩ := y4
      refine y40.set (fun _ _ z => z) (fun _ => rfl) (fun b _ => o _ _ (by omega) (by omega)) (fun a p1 p2 => o _ _ (by omega) (by omega)) (by rw [o _ _ (by omega) (by omega), o _ _ (by omega) (by omega)]; exact d8) ⟨m, by omega, by rw [o _ _ (by omega) (by omega)]; exact m2, m3⟩ (fun a ha => ?_) (fun b hb => by rw [o _ _ (by omega) (by omega), o _ _ (by omega) (by omega)]; exact u6 b hb) (fun p hp => by rw [o _ _ (by omega) (by omega), o _ _ (by omega) (by omega)]; exact u7 p hp)
      obtain ⟨z1, z2, z3, z4, z5, z6, z7⟩ := u5 a ha
      refine ⟨by rw [o _ _ (by omega) (by omega), o _ _ (by omega) (by omega)]; exact z1, by rw [o _ _ (by omega) (by omega), o _ _ (by omega) (by omega)]; exact z2, ?_, by rw [o _ _ (by omega) (by omega), o _ _ (by omega) (by omega)]; exact z4, by rw [o _ _ (by omega) (by omega), o _ _ (by omega) (by omega)]; exact z5, by rw [o _ _ (by omega) (by omega)]; exact z6, by rw [o _ _ (by omega) (by omega)]; exact z7⟩
      by_cases hak : a = k
      · have t1 : gi (si (si h (q i + 5) k w) 56 (64 * i + k) w) (q i + 5) a = w := by rw [key, if_neg (by omega), if_pos ⟨rfl, hak⟩]
        have t2 : gi (si (si h (q i + 5) k w) 56 (64 * i + k) w) 56 (64 * i + a) = w := by rw [key, if_pos (by omega)]
        rw [t1, t2]
      · rw [o _ _ (by omega) (by omega), o _ _ (by omega) (by omega)]; exact z3
    · rw [if_neg hc]
      refine ⟨_, _, rfl, hW.1, j_X9_need hW, fun v2 h2 q2 => ?_⟩
      obtain ⟨rfl, rfl⟩ := q2
      have e44 : gi h 44 (ix (nI i)) = nI (8 * s i) := by rw [ixn (by omega)]; exact h44
      rw [c12, e44, hv, Bool.true_and, if_neg hc]
      exact ⟨rfl, hR0.same (by omega) rfl (fun _ _ _ => rfl)⟩
  · rw [Bool.not_eq_true] at hv
    refine ⟨_, j_X8_need_no hK hX hC.2.1 hC.1 hv, fun v' h1 qq => ?_⟩
    obtain ⟨rfl, rfl⟩ := qq
    refine ⟨_, _, rfl, hW.1, j_X9_need hW, fun v2 h2 q2 => ?_⟩
    obtain ⟨rfl, rfl⟩ := q2
    rw [c12, hv, Bool.false_and, Bool.false_and, if_neg (by decide)]
    exact ⟨rfl, hR0.same (by omega) rfl (fun _ _ _ => rfl)⟩
theorem z_bad {v a w : Int32} (hR : REL h L) : GLU x yX8_bad cX8_bad 5 yX9_bad cX9_bad 4 .boolean 2 2 0 0 [.int v, .int a, .int w] h L := by
  have hR0 := hR
  obtain ⟨hK, hX, hM, -, -, -, -, ⟨nc, q, s, hC⟩, -, hl⟩ := hR
  have hW := hC.mw hK hM
  have c12 := hC.2.2.1
  by_cases hv : isin v 0 (nI nc - 1) = true
  · obtain ⟨i, hi, rfl⟩ := (isinN (by have := hC.1; omega)).mp hv
    obtain ⟨y1, y2, y3, y4⟩ := hC.2.2.2.1 i hi
    have hs8 := y4.1.2.2.2.2
    have hi4 : i < 4 := by have := hC.1; omega
    have h44 := y4.2.1
    have d44 : nI (8 * s i) / 8 = nI (s i) := by rw [id8 (by omega), show 8 * s i / 8 = s i by omega]
    refine ⟨_, j_X8_bad hK hX hC.2.1 hC.1 hi y1 y4.1, fun v' h1 qq => ?_⟩
    obtain ⟨rfl, rfl⟩ := qq
    by_cases hc : isin a 0 (nI (s i) - 1) = true
    · rw [if_pos hc]
      obtain ⟨k, hk, rfl⟩ := (isinN (by omega)).mp hc
      rw [ixn (by omega)]
      have hW1 : MW (si h (q i + 1) k (w &&& 1)) nc s := hW.of_si (by omega) (by omega)
      refine ⟨_, _, rfl, hW1.1, j_X9_bad hW1, fun v2 h2 q2 => ?_⟩
      obtain ⟨rfl, rfl⟩ := q2
      have e12 : gi (si h (q i + 1) k (w &&& 1)) 38 12 = nI nc := by rw [gi_si, if_neg (by omega)]; exact c12
      have e44 : gi (si h (q i + 1) k (w &&& 1)) 44 (ix (nI i)) = nI (8 * s i) := by rw [ixn (by omega), gi_si, if_neg (by omega)]; exact h44
      have hcc : (isin (nI i) 0 (nI nc - 1) && isin (nI k) 0 (nI (s i) - 1)) = true := by rw [hv, Bool.true_and]; exact hc
      rw [e12, e44, d44, hcc, if_pos rfl, hc, ixn (by omega), ixn (by omega)]
      refine ⟨rfl, ?_⟩
      generalize (w &&& 1) = u
      have key : ∀ a b, gi (si (si h (q i + 1) k u) 59 (8 * i + k) u) a b = if a = 59 ∧ b = 8 * i + k then u else if a = q i + 1 ∧ b = k then u else gi h a b := fun a b => by rw [gi_si, gi_si]
      have o : ∀ a b, ¬ (a = 59 ∧ b = 8 * i + k) → ¬ (a = q i + 1 ∧ b = k) → gi (si (si h (q i + 1) k u) 59 (8 * i + k) u) a b = gi h a b := fun a b p1 p2 => by rw [key, if_neg p1, if_neg p2]
      refine hR0.chp (by omega) rfl rfl (fun a b z => o _ _ (by omega) (by omega)) ⟨nc, q, s, hC.one (i := i) (by omega) (fun _ _ z => z) (Nat.le_refl _) (fun _ _ _ _ => rfl) (o _ _ (by omega) (by omega)) (o _ _ (by omega) (by omega)) (fun a b p1 p2 p3 => o _ _ (by omega) (by omega)) (fun a j p1 p2 p3 => o _ _ (by omega) (by omega)) (fun a b p1 p2 p3 => o _ _ (by omega) (by omega)) (fun b p => o _ _ (by omega) (by omega)) (fun b p => o _ _ (by omega) (by omega)) (fun _ _ => rfl) hK.len hi ?_⟩
      have y40 := y4
      obtain ⟨-, -, ⟨-, -, -, -, -, -, -, d8⟩, -, ⟨m, m1, m2, m3⟩, u5, u6, u7⟩ := y4
      have hrow : ∀ a, a < 8 → gi (si (si h (q i + 1) k u) 59 (8 * i + k) u) (q i + 1) a = gi (si (si h (q i + 1) k u) 59 (8 * i + k) u) 59 (8 * i + a) := by
        intro a ha
        by_cases hak : a = k
        · have t1 : gi (si (si h (q i + 1) k u) 59 (8 * i + k) u) (q i + 1) a = u := by rw [key, if_neg (by omega), if_pos ⟨rfl, hak⟩]
          have t2 : gi (si (si h (q i + 1) k u) 59 (8 * i + k) u) 59 (8 * i + a) = u := by rw [key, if_pos (by omega)]
          rw [t1, t2]
        · rw [o _ _ (by omega) (by omega), o _ _ (by omega) (by omega)]; exact u6 a ha
      refine y40.set (fun _ _ z => z) (fun _ => rfl) (fun b _ => o _ _ (by omega) (by omega)) (fun a p1 p2 => o _ _ (by omega) (by omega)) (by rw [o _ _ (by omega) (by omega), o _ _ (by omega) (by omega)]; exact d8) ⟨m, by omega, by rw [o _ _ (by omega) (by omega)]; exact m2, m3⟩ (fun a ha => ?_) hrow (fun p hp => by rw [o _ _ (by omega) (by omega), o _ _ (by omega) (by omega)]; exact u7 p hp)
      obtain ⟨z1, z2, z3, z4, z5, z6, z7⟩ := u5 a ha
      exact ⟨by rw [o _ _ (by omega) (by omega), o _ _ (by omega) (by omega)]; exact z1, by rw [o _ _ (by omega) (by omega), o _ _ (by omega) (by omega)]; exact z2, by rw [o _ _ (by omega) (by omega), o _ _ (by omega) (by omega)]; exact z3, by rw [o _ _ (by omega) (by omega), o _ _ (by omega) (by omega)]; exact z4, by rw [o _ _ (by omega) (by omega), o _ _ (by omega) (by omega)]; exact z5, by rw [o _ _ (by omega) (by omega)]; exact z6, by rw [o _ _ (by omega) (by omega)]; exact z7⟩
    · rw [if_neg hc]
      refine ⟨_, _, rfl, hW.1, j_X9_bad hW, fun v2 h2 q2 => ?_⟩
      obtain ⟨rfl, rfl⟩ := q2
      have e44 : gi h 44 (ix (nI i)) = nI (8 * s i) := by rw [ixn (by omega)]; exact h44
      rw [c12, e44, d44, hv, Bool.true_and, if_neg hc]
      exact ⟨rfl, hR0.same (by omega) rfl (fun _ _ _ => rfl)⟩
  · rw [Bool.not_eq_true] at hv
    refine ⟨_, j_X8_bad_no hK hX hC.2.1 hC.1 hv, fun v' h1 qq => ?_⟩
    obtain ⟨rfl, rfl⟩ := qq
    refine ⟨_, _, rfl, hW.1, j_X9_bad hW, fun v2 h2 q2 => ?_⟩
    obtain ⟨rfl, rfl⟩ := q2
    rw [c12, hv, Bool.false_and, if_neg (by decide)]
    exact ⟨rfl, hR0.same (by omega) rfl (fun _ _ _ => rfl)⟩
theorem z_contact {v a w : Int32} (hR : REL h L) : GLU x yX8_contact cX8_contact 5 yX9_contact cX9_contact 4 .boolean 2 2 0 0 [.int v, .int a, .int w] h L := by
  have hR0 := hR
  obtain ⟨hK, hX, hM, -, -, -, -, ⟨nc, q, s, hC⟩, -, hl⟩ := hR
  have hW := hC.mw hK hM
  have c12 := hC.2.2.1
  by_cases hv : isin v 0 (nI nc - 1) = true
  · obtain ⟨i, hi, rfl⟩ := (isinN (by have := hC.1; omega)).mp hv
    obtain ⟨y1, y2, y3, y4⟩ := hC.2.2.2.1 i hi
    have hs8 := y4.1.2.2.2.2
    have hi4 : i < 4 := by have := hC.1; omega
    have h44 := y4.2.1
    have d44 : nI (8 * s i) / 8 = nI (s i) := by rw [id8 (by omega), show 8 * s i / 8 = s i by omega]
    refine ⟨_, j_X8_contact hK hX hC.2.1 hC.1 hi y1 y4.1, fun v' h1 qq => ?_⟩
    obtain ⟨rfl, rfl⟩ := qq
    by_cases hc : isin a 0 27 = true
    · rw [if_pos hc]
      obtain ⟨k, hk, rfl⟩ := (isK (n := 27) (by omega)).mp hc
      rw [ixn (by omega)]
      have hW1 : MW (si h (q i + 2) k (bi (decide (w = 0)))) nc s := hW.of_si (by omega) (by omega)
      refine ⟨_, _, rfl, hW1.1, j_X9_contact hW1, fun v2 h2 q2 => ?_⟩
      obtain ⟨rfl, rfl⟩ := q2
      have e12 : gi (si h (q i + 2) k (bi (decide (w = 0)))) 38 12 = nI nc := by rw [gi_si, if_neg (by omega)]; exact c12
      have hcc : (isin (nI i) 0 (nI nc - 1) && isin (nI k) 0 27) = true := by rw [hv, Bool.true_and]; exact hc
      rw [e12, hcc, if_pos rfl, hc, ixn (by omega), ixn (by omega)]
      refine ⟨rfl, ?_⟩
      generalize (bi (decide (w = 0))) = u
      have key : ∀ a b, gi (si (si h (q i + 2) k u) 60 (28 * i + k) u) a b = if a = 60 ∧ b = 28 * i + k then u else if a = q i + 2 ∧ b = k then u else gi h a b := fun a b => by rw [gi_si, gi_si]
      have o : ∀ a b, ¬ (a = 60 ∧ b = 28 * i + k) → ¬ (a = q i + 2 ∧ b = k) → gi (si (si h (q i + 2) k u) 60 (28 * i + k) u) a b = gi h a b := fun a b p1 p2 => by rw [key, if_neg p1, if_neg p2]
      refine hR0.chp (by omega) rfl rfl (fun a b z => o _ _ (by omega) (by omega)) ⟨nc, q, s, hC.one (i := i) (by omega) (fun _ _ z => z) (Nat.le_refl _) (fun _ _ _ _ => rfl) (o _ _ (by omega) (by omega)) (o _ _ (by omega) (by omega)) (fun a b p1 p2 p3 => o _ _ (by omega) (by omega)) (fun a j p1 p2 p3 => o _ _ (by omega) (by omega)) (fun a b p1 p2 p3 => o _ _ (by omega) (by omega)) (fun b p => o _ _ (by omega) (by omega)) (fun b p => o _ _ (by omega) (by omega)) (fun _ _ => rfl) hK.len hi ?_⟩
      have y40 := y4
      obtain ⟨-, -, ⟨-, -, -, -, -, -, -, d8⟩, -, ⟨m, m1, m2, m3⟩, u5, u6, u7⟩ := y4
      have hrow : ∀ a, a < 28 → gi (si (si h (q i + 2) k u) 60 (28 * i + k) u) (q i + 2) a = gi (si (si h (q i + 2) k u) 60 (28 * i + k) u) 60 (28 * i + a) := by
        intro a ha
        by_cases hak : a = k
        · have t1 : gi (si (si h (q i + 2) k u) 60 (28 * i + k) u) (q i + 2) a = u := by rw [key, if_neg (by omega), if_pos ⟨rfl, hak⟩]
          have t2 : gi (si (si h (q i + 2) k u) 60 (28 * i + k) u) 60 (28 * i + a) = u := by rw [key, if_pos (by omega)]
          rw [t1, t2]
        · rw [o _ _ (by omega) (by omega), o _ _ (by omega) (by omega)]; exact u7 a ha
      refine y40.set (fun _ _ z => z) (fun _ => rfl) (fun b _ => o _ _ (by omega) (by omega)) (fun a p1 p2 => o _ _ (by omega) (by omega)) (by rw [o _ _ (by omega) (by omega), o _ _ (by omega) (by omega)]; exact d8) ⟨m, by omega, by rw [o _ _ (by omega) (by omega)]; exact m2, m3⟩ (fun a ha => ?_) (fun b hb => by rw [o _ _ (by omega) (by omega), o _ _ (by omega) (by omega)]; exact u6 b hb) hrow
      obtain ⟨z1, z2, z3, z4, z5, z6, z7⟩ := u5 a ha
      exact ⟨by rw [o _ _ (by omega) (by omega), o _ _ (by omega) (by omega)]; exact z1, by rw [o _ _ (by omega) (by omega), o _ _ (by omega) (by omega)]; exact z2, by rw [o _ _ (by omega) (by omega), o _ _ (by omega) (by omega)]; exact z3, by rw [o _ _ (by omega) (by omega), o _ _ (by omega) (by omega)]; exact z4, by rw [o _ _ (by omega) (by omega), o _ _ (by omega) (by omega)]; exact z5, by rw [o _ _ (by omega) (by omega)]; exact z6, by rw [o _ _ (by omega) (by omega)]; exact z7⟩
    · rw [if_neg hc]
      refine ⟨_, _, rfl, hW.1, j_X9_contact hW, fun v2 h2 q2 => ?_⟩
      obtain ⟨rfl, rfl⟩ := q2
      rw [c12, hv, Bool.true_and, if_neg hc]
      exact ⟨rfl, hR0.same (by omega) rfl (fun _ _ _ => rfl)⟩
  · rw [Bool.not_eq_true] at hv
    refine ⟨_, j_X8_contact_no hK hX hC.2.1 hC.1 hv, fun v' h1 qq => ?_⟩
    obtain ⟨rfl, rfl⟩ := qq
    refine ⟨_, _, rfl, hW.1, j_X9_contact hW, fun v2 h2 q2 => ?_⟩
    obtain ⟨rfl, rfl⟩ := q2
    rw [c12, hv, Bool.false_and, if_neg (by decide)]
    exact ⟨rfl, hR0.same (by omega) rfl (fun _ _ _ => rfl)⟩
end Z6
