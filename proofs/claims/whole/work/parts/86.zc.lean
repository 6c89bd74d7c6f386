-- both halves: a file is read
theorem dv_lt (v : Int32) : dv v < 16 := by
  by_cases h : isdig v = true
  · exact (dg_t h).2
  · have e : dg v = -1 := by
      unfold isdig at h
      rw [Bool.or_eq_true, not_or] at h
      unfold dg
      rw [if_neg h.1, if_neg h.2]
    unfold dv
    rw [e]
    decide
theorem pv_b (t : Nat → Int32) (i : Nat) : pv t i < 256 := by
  have h1 := dv_lt (t i)
  have h2 := dv_lt (t (i + 1))
  unfold pv; omega
theorem rdl_ct {fm : Nat} {t : Nat → Int32} {n : Nat} : ∀ f p (im : Nat → Int32) ct, (rdl fm t n f p im ct).2.2.2 ≤ ct + 256 * f
  | 0, _, _, ct => Nat.le_refl _
  | f + 1, p, im, ct => by
    have hN := lr_N (fm := fm) (t := t) (a := p) (e := lend t n p (eoln t n p))
    unfold rdl
    repeat' split
    · simp only; omega
    · have := rdl_ct (fm := fm) (t := t) (n := n) f (eoln t n p + 1) (imU t (lr fm t p (lend t n p (eoln t n p))) im) (ct + (lr fm t p (lend t n p (eoln t n p))).2.2.2.1)
      omega
    · simp only; omega
    · have := rdl_ct (fm := fm) (t := t) (n := n) f (eoln t n p + 1) im ct
      omega
    · simp only; omega
theorem fileS_ct {fm : Nat} {t : Nat → Int32} {n : Nat} {im : Nat → Int32} (hn : n ≤ 400) : (fileS fm t n im).2.2.2 ≤ 110000 := by
  unfold fileS
  repeat' split
  · simp only; omega
  · simp only; omega
  · exact Nat.le_trans (rdl_ct (fm := fm) (t := t) (n := n) (n + 1) 0 im 0) (by omega)
theorem rdl_by {fm : Nat} {t : Nat → Int32} {n : Nat} : ∀ f p (im : Nat → Int32) ct, (∀ j, j < 256 → byt (im j)) → ∀ j, j < 256 → byt ((rdl fm t n f p im ct).2.2.1 j)
  | 0, _, _, ct, h, j, hj => h j hj
  | f + 1, p, im, ct, h, j, hj => by
    have hU : ∀ r : Nat × Nat × Nat × Nat × Nat, ∀ j, j < 256 → byt (imU t r im j) := fun r j hj => by
      unfold imU
      split
      · exact ⟨_, pv_b _ _, rfl⟩
      · exact h j hj
    unfold rdl
    repeat' split
    · exact hU _ j hj
    · exact rdl_by f _ _ _ (hU _) j hj
    · exact h j hj
    · exact rdl_by f _ _ _ h j hj
    · exact h j hj
theorem fileS_by {fm : Nat} {t : Nat → Int32} {n : Nat} {im : Nat → Int32} (ht : ∀ j, byt (t j)) (hi : ∀ j, j < 256 → byt (im j)) {j : Nat} (hj : j < 256) : byt ((fileS fm t n im).2.2.1 j) := by
  unfold fileS
  repeat' split
  · simp only
    split
    · exact ht j
    · exact hi j hj
  · exact hi j hj
  · exact rdl_by _ _ _ _ hi j hj
section ZD
variable {x : JX} {h g : JH} {L L' : Nat}
theorem z_file {v : Int32} (hR : REL h L) (hL : L ≤ 512) : GLU x yX8_file cX8_file 3 yX9_file cX9_file 3 .int 7 5 0 0 [.int v] h L := by
  have hR0 := hR
  obtain ⟨hK, hX, hM, ⟨n, n4, t1, t2, t3, t4⟩, hI, hF, ⟨B, B1, B2, B3⟩, -⟩ := hR
  by_cases hv : isin v 0 2 = true
  · have hfm : ∃ fm, (fm = 0 ∧ v = 0) ∨ (fm = 1 ∧ v = 1) ∨ (fm = 2 ∧ v = 2) := by
      obtain ⟨k, hk, rfl⟩ := (isK (n := 2) (by omega)).mp hv
      rcases (show k = 0 ∨ k = 1 ∨ k = 2 by omega) with rfl | rfl | rfl
      · exact ⟨0, Or.inl ⟨rfl, rfl⟩⟩
      · exact ⟨1, Or.inr (Or.inl ⟨rfl, rfl⟩)⟩
      · exact ⟨2, Or.inr (Or.inr ⟨rfl, rfl⟩)⟩
    obtain ⟨fm, hfm⟩ := hfm
    have h2f : gi h 40 = gi h 2 := funext fun j => (t3 j).symm
    have hby0 : ∀ j, byt (gi h 2 j) := fun j => by rw [t3]; exact t4 j
    have hby : ∀ j, j < 400 → 0 ≤ gi h 2 j := fun j _ => by
      obtain ⟨b, hb, e⟩ := hby0 j
      rw [e, ti_le, nI_toInt (by omega), show (0 : Int32).toInt = 0 from rfl]; omega
    have hct := fileS_ct (fm := fm) (t := gi h 2) (im := gi h 3) n4
    have him : ∀ j, j < 256 → byt (gi h 3 j) := fun j hj => by
      obtain ⟨i1, b, i2, i3⟩ := hI j hj
      rw [i1]; exact ⟨b, i2, i3⟩
    have hfb := fun j (hj : j < 256) => fileS_by (fm := fm) (n := n) hby0 him hj
    refine ⟨_, j_X8_file hfm hK hX t1 n4 rfl hby B2 (by omega) (by omega), fun v' h1 qq => ?_⟩
    obtain ⟨rfl, x1, x2, x3, x4, x5, x6, x7⟩ := qq
    have hK1 : Kin h1 := hK.of2 x1
    have hM1 : MR h1 := hM.of2 x1
    have e1 : ∀ a b, 38 ≤ a → gi h1 a b = gi h a b := fun a b ha => x2 a b (by omega) (by omega) (by omega) (by omega) (by omega) (by omega)
    have e40 : gi h1 40 = gi h 2 := funext fun j => by rw [e1 _ _ (by omega)]; exact (t3 j).symm
    refine ⟨_, _, rfl, hK1, j_X9_file (n := n) hfm hK1 hM1 (by rw [e1 _ _ (by omega)]; exact t2) n4 (fun j hj => by rw [e40]; exact hby j hj), fun v2 g2 q2 => ?_⟩
    obtain ⟨rfl, f1, f2, f3, f4, f5, f6, f7, f8, f9⟩ := q2
    obtain ⟨s1, s2, s3, s4⟩ := fileS_im (fm := fm) (t := gi h 2) (n := n) (im := gi h1 39) (im' := gi h 3) (fun j hj => by rw [e1 _ _ (by omega)]; exact (hI j hj).1.symm)
    rw [e40] at f6 f7 f8 f9 ⊢
    rw [s1] at f6 f7 f8 f9
    rw [s2] at f7
    rw [s3] at f9
    rw [s1, s3]
    refine ⟨rfl, ?_⟩
    generalize hFS : fileS fm (gi h 2) n (gi h 3) = R at *
    have o : ∀ a b, a ≠ 38 → a ≠ 39 → a ≠ 41 → a ≠ 42 → a ≠ 43 → a ≠ 3 → a ≠ 6 → a ≠ 4 → a ≠ 5 → ¬ (a = 1 ∧ b = 1) → ¬ (a = 0 ∧ b = 10) → gi g2 a b = gi h a b := fun a b z1 z2 z3 z4 z5 z6 z7 z8 z9 za zb => by
      rw [f2 a b z1 z2 z3 z4 z5, x2 a b z6 z7 (by omega) (by omega) za zb]
    have l1 : ∀ a b, gl h1 a b = gl h a b := fun a b => by show h1.2.1 a b = _; rw [x1]; rfl
    refine hR0.upd (by omega) (by rw [f1, x1]) ⟨0, by omega, by rw [f2 _ _ (by omega) (by omega) (by omega) (by omega) (by omega)]; exact x6, f5, fun j => by rw [o _ _ (by omega) (by omega) (by omega) (by omega) (by omega) (by omega) (by omega) (by omega) (by omega) (by omega) (by omega), o _ _ (by omega) (by omega) (by omega) (by omega) (by omega) (by omega) (by omega) (by omega) (by omega) (by omega) (by omega)]; exact t3 j, fun j => by rw [o _ _ (by omega) (by omega) (by omega) (by omega) (by omega) (by omega) (by omega) (by omega) (by omega) (by omega) (by omega)]; exact t4 j⟩ (fun j hj => ?_) ⟨by rw [f6, f2 _ _ (by omega) (by omega) (by omega) (by omega) (by omega)]; exact x3, by rw [f7, f2 _ _ (by omega) (by omega) (by omega) (by omega) (by omega)]; exact x4⟩ ?_ (fun j _ => by rw [f3 _ _ (by omega), l1]) (fun a b z => ?_)
    · rw [f8 j hj, f2 _ _ (by omega) (by omega) (by omega) (by omega) (by omega), x5 j hj]
      by_cases hz : R.1 = 0
      · rw [if_pos hz, if_pos hz, s4 j hj]
        exact ⟨rfl, hfb j hj⟩
      · rw [if_neg hz, if_neg hz, e1 _ _ (by omega)]
        exact hI j hj
    · refine ⟨if R.1 = 0 then B + R.2.2.2 else B, ?_, by rw [f2 _ _ (by omega) (by omega) (by omega) (by omega) (by omega)]; exact x7, ?_⟩
      · split <;> omega
      · rw [f9, l1, B3]
        split
        · rw [nI_l (by omega), lN_add]
        · rfl
    · rcases (show a = 38 ∨ a ≠ 38 by omega) with rfl | ha
      · rw [f4 b (by omega) (by omega) (by omega) (by omega) (by omega), e1 _ _ (by omega)]
      · exact o _ _ (by omega) (by omega) (by omega) (by omega) (by omega) (by omega) (by omega) (by omega) (by omega) (by omega) (by omega)
  · rw [Bool.not_eq_true] at hv
    exact GLU.ro hR0 (j_X8_file_no hv) (j_X9_file_no hv) rfl
end ZD
