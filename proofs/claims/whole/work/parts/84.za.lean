-- both halves: burning
section ZB
variable {x : JX} {h g : JH} {L L' i q s d : Nat}
theorem REL.chg {r : List (Nat × Nat)} (hR : REL h L) (hk : kd g = kd h ++ r) (hr : r.length ≤ 8) (er : ∀ a b, a < (kd h).length → gr g a b = gr h a b) (el : gl g 38 5 = gl h 38 5) (e1 : ∀ a b, ((a < 38 ∧ a ≠ 5 ∧ a ≠ 6 ∧ a ≠ 7 ∧ a ≠ 8 ∧ a ≠ 9 ∧ a ≠ 10) ∨ (39 ≤ a ∧ a ≤ 40) ∨ (61 ≤ a ∧ a ≤ 67) ∨ (a = 38 ∧ (b = 2 ∨ b = 3 ∨ b = 4))) → gi g a b = gi h a b) (hC : ∃ nc q s, RCh g (L + 1) nc q s) : REL g (L + 1) := by
  obtain ⟨hK, hX, hM, h1, h2, h3, h4, -, ⟨ρ, h6⟩, h7⟩ := hR
  have hl := hK.len
  have ek : ∀ (a : Nat) (b : Nat × Nat), (kd h)[a]? = some b → (kd g)[a]? = some b := fun a b hb => by
    rw [hk, List.getElem?_append_left (List.getElem?_eq_some_iff.mp hb).1]; exact hb
  refine ⟨by obtain ⟨r', hr'⟩ := hK; exact ⟨r' ++ r, by rw [hk, hr', List.append_assoc]⟩, fun a k b hk' => ?_, fun k a hk' => by rw [er _ _ (by omega)]; exact hM k a hk', h1.c (e1 _ _ (by omega)) (e1 _ _ (by omega)) (fun j => e1 _ _ (by omega)) (fun j => e1 _ _ (by omega)), h2.c (fun j _ => e1 _ _ (by omega)) (fun j _ => e1 _ _ (by omega)), h3.c (e1 _ _ (by omega)) (e1 _ _ (by omega)) (e1 _ _ (by omega)) (e1 _ _ (by omega)), h4.c (by omega) (e1 _ _ (by omega)) el, hC, ⟨ρ, h6.c ek (fun a b ha => er _ _ (by omega)) (fun a b q1 q2 => e1 _ _ (by omega)) (fun a b q1 q2 => e1 _ _ (by omega))⟩, by rw [hk, List.length_append]; omega⟩
  have h38 : a < 38 := by unfold xrt at hk'; split at hk' <;> first | omega | cases hk'
  rw [er _ _ (by omega)]; exact hX a k b hk'
theorem mWhy_c {tc : Cond} {id : Int32} {f w : Nat} (e : ∀ a b, 39 ≤ a → a ≤ 60 → gi g a b = gi h a b) : mWhy g i s tc id f w = mWhy h i s tc id f w := by
  have e39 := fun b => e 39 b (by omega) (by omega)
  have e45 := fun b => e 45 b (by omega) (by omega)
  have e48 := fun b => e 48 b (by omega) (by omega)
  have e49 := fun b => e 49 b (by omega) (by omega)
  have e54 := fun b => e 54 b (by omega) (by omega)
  have e55 := fun b => e 55 b (by omega) (by omega)
  have e59 := fun b => e 59 b (by omega) (by omega)
  have e60 := fun b => e 60 b (by omega) (by omega)
  have hb : mBad g i = mBad h i := by funext b; unfold mBad; rw [e59]
  have hl : mLack g i = mLack h i := by funext b; unfold mLack; rw [e60]
  have hf : mFit g i tc = mFit h i tc := by unfold mFit; rw [e48, e49]
  have hr : mRch g i s f w = mRch h i s f w := by unfold mRch; rw [hb]
  have hfw : ∀ k, mFwd g i s f w k = mFwd h i s f w k := fun k => by unfold mFwd mAdr; rw [hb, e39, e54, e55]
  have hall : (∀ k, k < mRch g i s f w → mFwd g i s f w k = true) ↔ (∀ k, k < mRch h i s f w → mFwd h i s f w k = true) := by
    rw [hr]; exact ⟨fun z k hk => by rw [← hfw]; exact z k hk, fun z k hk => by rw [hfw]; exact z k hk⟩
  unfold mWhy
  rw [hl, hf, e45]
  by_cases a2 : ∀ k, k < mRch h i s f w → mFwd h i s f w k = true
  · rw [if_pos (hall.mpr a2), if_pos a2]
  · rw [if_neg (fun z => a2 (hall.mp z)), if_neg a2]
theorem z_burn {v r id f w p : Int32} (hR : REL h L) (hL : L ≤ 512) : GLU x yX8_burn cX8_burn 14 yX9_burn cX9_burn 10 .int 21 6 1 7 [.int v, .int r, .int id, .int f, .int w, .int p] h L := by
  have hR0 := hR
  obtain ⟨hK, hX, hM, -, hI, -, -, ⟨nc, q, s, hC⟩, ⟨ρ, r1, r2, r3, r4, r5, r6⟩, hlen⟩ := hR
  have hW := hC.mw hK hM
  have c12 := hC.2.2.1
  have hl := hK.len
  by_cases ho : (isin v 0 (nI nc - 1) && isin r 0 3 && isin id 0 255 && (isin f 0 255 && isin w 1 8)) = true
  · have how : whyOk h v r id f w = true := by unfold whyOk; rw [c12]; exact ho
    obtain ⟨o1, o2⟩ := Bool.and_eq_true_iff.mp ho
    obtain ⟨o1, o5⟩ := Bool.and_eq_true_iff.mp o1
    obtain ⟨o1, o4⟩ := Bool.and_eq_true_iff.mp o1
    obtain ⟨o2, o3⟩ := Bool.and_eq_true_iff.mp o2
    obtain ⟨i, hi, rfl⟩ := (isinN (by have := hC.1; omega)).mp o1
    obtain ⟨r, hr, rfl⟩ := (isK (n := 3) (by omega)).mp o4
    obtain ⟨f, hf, rfl⟩ := isF o2
    obtain ⟨w, hw, rfl⟩ := isW o3
    obtain ⟨y1, y2, y3, y4⟩ := hC.2.2.2.1 i hi
    obtain ⟨tc, e, p1, p2, p3⟩ := r6 r (by omega)
    by_cases hp : isin p 0 100000 = true
    · obtain ⟨N, hN, rfl⟩ := (isK (n := 100000) (by omega)).mp hp
      have hwe := y4.why (id := id) (w := w) hI p2 hf
      by_cases hy : xWhy h (q i) (s i) (ρ r) id f w = 0
      · have hρ := r1 r (by omega)
        have hs8 := y4.1.2.2.2.2
        have hi4 : i < 4 := by have := hC.1; omega
        have jc := j_X8_burn (x := x) hK hX hC.2.1 hC.1 hi (show r < 4 by omega) y1 (r3 r (by omega)) y4.1 p2.1 p3.1 p1 p2.2.1 (by omega) y2 (by omega) o5 hf hw hN hy
        refine ⟨_, jc, fun v' h1 qq => ?_⟩
        obtain ⟨α, β, u, rfl, rfl⟩ := qq
        have kp := (brn_kp (P := cnP h (q i) (s i) f w) (R := cnR h (q i) (s i) f w) (I := pI (q i) (wkN h (q i) (ρ r))) p3.1 (s := (wkN h (q i) (ρ r), N)) (n := xRch h (q i) (s i) f w) (fun k g v _ hg => hg.pulse _ _ _) (pI.rf _ _) _ (Nat.le_refl _)).1
        generalize hZC : brn (cnP h (q i) (s i) f w) (cnR h (q i) (s i) f w) tc (wkN h (q i) (ρ r), N) (xRch h (q i) (s i) f w) = ZC at kp ⊢
        have e0 : ∀ a b, a ≠ (kd h).length → gi (wS (adS ZC.1 (kd h).length α β) (kd h).length u) a b = gi ZC.1 a b := fun a b ha => by rw [wS_o (fun z => ha z.1), adS_o ha]
        have eR : (wS (adS ZC.1 (kd h).length α β) (kd h).length u).2 = (wkN h (q i) (ρ r)).2 := kp.1
        generalize hh1 : wS (adS ZC.1 (kd h).length α β) (kd h).length u = h1 at e0 eR ⊢
        have eE : ∀ a b, a ≠ (kd h).length → ¬ (a = q i ∧ b = 16) → ¬ (q i + 3 ≤ a ∧ a ≤ q i + 7) → gi h1 a b = gi h a b := fun a b z1 z2 z3 => by rw [e0 a b z1, kp.2 a b z2 z3, wkN_gi, if_neg z1]
        have eK : kd h1 = kd h ++ [(7, 7)] := by show h1.2.2.2 = _; rw [eR]; rfl
        have eG : ∀ a b, a ≠ (kd h).length → gr h1 a b = gr h a b := fun a b ha => by
          show h1.2.2.1 a b = _
          rw [eR]
          show gr (wkN h (q i) (ρ r)) a b = _
          rw [wkN_gr, if_neg (by omega), if_neg (by omega), if_neg ha]
        have eL : ∀ a b, a ≠ (kd h).length → gl h1 a b = gl h a b := fun a b ha => by
          show h1.2.1 a b = _
          rw [eR]
          show (if a = (kd h).length then 0 else gl h a b) = _
          rw [if_neg ha]
        have hK1 : Kin h1 := by obtain ⟨r', hr'⟩ := hK; exact ⟨r' ++ [(7, 7)], by rw [eK, hr', List.append_assoc]⟩
        have hM1 : MR h1 := fun k a hk => by rw [eG _ _ (by omega)]; exact hM k a hk
        have hW1 : MW h1 nc s := by
          obtain ⟨-, -, w1, w2, w3⟩ := hW
          exact ⟨hK1, hM1, by rw [eE _ _ (by omega) (by omega) (by omega)]; exact w1, w2, fun j hj => by rw [eE _ _ (by omega) (by omega) (by omega)]; exact w3 j hj⟩
        have hMr : MRec (gi h1) r tc e := MRec_congr p3 (fun a b _ _ => eE _ _ (by omega) (by omega) (by omega))
        have hy1 : mWhy h1 i (s i) tc id f w = 0 := by rw [mWhy_c (h := h) (fun a b _ _ => eE _ _ (by omega) (by omega) (by omega)), hwe]; exact hy
        refine ⟨_, _, rfl, hW1.1, j_X9_burn hW1 (by omega) hi hf hw hN o5 hMr p1 hy1, fun v2 G q2 => ?_⟩
        obtain ⟨t, T, l, rfl, rfl⟩ := q2
        have hbb : mBad h1 i = mBad h i := mBad_of (fun b => eE 59 b (by omega) (by omega) (by omega))
        have hrc : mRch h1 i (s i) f w = xRch h (q i) (s i) f w := by rw [← y4.rch]; unfold mRch; rw [hbb]
        have had : ∀ k, mAdr h1 i (s i) k = xAdr h (q i) (s i) k := fun k => by rw [← y4.adr]; unfold mAdr; rw [hbb]
        rw [hrc]
        have y40 := y4
        obtain ⟨k1, k2, ⟨d1, d2, d3, d4, d5, d6, d7, d8⟩, -, ⟨m, m1, m2, m3⟩, u5, u6, u7⟩ := y4
        have h39 : ∀ k, k < xRch h (q i) (s i) f w → gi h1 39 (f + w * k) = gi h 3 (f + w * k) ∧ byt (gi h 3 (f + w * k)) := fun k hk => by
          have hff := xRch_f hf hk
          obtain ⟨i1, b, i2, i3⟩ := hI (f + w * k) (by omega)
          rw [eE _ _ (by omega) (by omega) (by omega)]
          exact ⟨i1.symm, by rw [i1]; exact ⟨b, i2, i3⟩⟩
        have wk0 : ∀ a b, a < (kd h).length → gi (wkN h (q i) (ρ r)) a b = gi h a b := fun a b ha => by rw [wkN_gi, if_neg (by omega)]
        have sq := brn_sq (P := cnP h (q i) (s i) f w) (R := cnR h (q i) (s i) f w) (P2 := bnP h1 i (s i) f w) (R2 := bnR h1 i (s i) f w) (Rl := BR (wkN h (q i) (ρ r)) (sC h1 t) (q i) i (s i) (100000 * L + N)) p3.1 (s := (wkN h (q i) (ρ r), N)) (t := (sC h1 t, N)) (n := xRch h (q i) (s i) f w)
          (fun k g g' v n hk hB => by
            obtain ⟨b1, b2⟩ := h39 k hk
            show BR _ _ _ _ _ _ (xPulse g (q i) (xAdr h (q i) (s i) k) (gi h 3 (f + w * k)) (nI v)) (mPulse g' i (mAdr h1 i (s i) k) (gi h1 39 (f + w * k)) (nI v)) n
            rw [had, b1]
            exact hB.step (by rw [wk0 _ _ (by omega), sC_o (by omega) (by omega), eE _ _ (by omega) (by omega) (by omega)]; exact d3) (by rw [wk0 _ _ (by omega), sC_o (by omega) (by omega), eE _ _ (by omega) (by omega) (by omega)]; exact d6) hs8 y2 (xRch_a hk) b2)
          (fun k g g' n hk hB => by
            obtain ⟨b1, b2⟩ := h39 k hk
            show xRt (q i) (xAdr h (q i) (s i) k) (gi h 3 (f + w * k)) g = mRt i (mAdr h1 i (s i) k) (gi h1 39 (f + w * k)) g'
            rw [had, b1]
            obtain ⟨z3, z4, -⟩ := hB.2.2.2.2.1 _ (xRch_a hk)
            unfold xRt mRt
            rw [z3, z4])
          ⟨⟨pI.rf _ _, rfl, fun _ _ _ => rfl, fun _ _ _ => rfl, fun a ha => by
            obtain ⟨z1, z2, z3, z4, z5, z6, z7⟩ := u5 a ha
            have eS : ∀ p b, 54 ≤ p → p ≤ 58 → gi (sC h1 t) p b = gi h p b := fun p b _ _ => by rw [sC_o (by omega) (by omega), eE _ _ (by omega) (by omega) (by omega)]
            simp only [wk0 (q i + 3) a (by omega), wk0 (q i + 4) a (by omega), wk0 (q i + 5) a (by omega), wk0 (q i + 6) a (by omega), wk0 (q i + 7) a (by omega), eS 54 _ (by omega) (by omega), eS 55 _ (by omega) (by omega), eS 56 _ (by omega) (by omega), eS 57 _ (by omega) (by omega), eS 58 _ (by omega) (by omega)]
            exact ⟨z1, z2, z3, z4, z5, z6, z7⟩, m, by show m + N ≤ _; omega, by rw [wk0 _ _ (by omega)]; exact m2, by show gl h1 53 i = _; rw [eL _ _ (by omega)]; exact m3⟩, rfl⟩ _ (Nat.le_refl _)
        rw [hZC] at sq
        generalize hZM : brn (bnP h1 i (s i) f w) (bnR h1 i (s i) f w) tc (sC h1 t, N) (xRch h (q i) (s i) f w) = ZM at sq ⊢
        obtain ⟨⟨-, b2, b3, b4, b5, m', m1', m2', m3'⟩, sq2⟩ := sq
        refine ⟨by rw [sq2], ?_⟩
        have o1 : ∀ a b, a ≠ 74 → a ≠ 75 → ¬ (a = 38 ∧ (b = 53 ∨ b = 55)) → ¬ (54 ≤ a ∧ a ≤ 58 ∧ a ≠ 56 ∧ 64 * i ≤ b ∧ b < 64 * i + 64) → gi (tS ZM.1 T l) a b = gi h1 a b := fun a b z1 z2 z3 z4 => by
          rw [tS_o z2 (by omega), b3 a b z4, sC_o z1 (by omega)]
        have o2 : ∀ a b, a ≠ 75 → a ≠ 38 → gi (tS ZM.1 T l) a b = gi ZM.1 a b := fun a b z1 z2 => tS_o z1 (by omega)
        have oR : (tS ZM.1 T l).2.2 = h1.2.2 := b2
        have oL : ∀ a b, ¬ (a = 53 ∧ b = i) → gl (tS ZM.1 T l) a b = gl h1 a b := fun a b z => b4 a b z
        have oL2 : gl (tS ZM.1 T l) 53 i = lN m' := m3'
        generalize hG : tS ZM.1 T l = G at *
        have o : ∀ a b, a ≠ 74 → a ≠ 75 → ¬ (a = 38 ∧ (b = 53 ∨ b = 55)) → ¬ (54 ≤ a ∧ a ≤ 58 ∧ a ≠ 56 ∧ 64 * i ≤ b ∧ b < 64 * i + 64) → a ≠ (kd h).length → ¬ (a = q i ∧ b = 16) → ¬ (q i + 3 ≤ a ∧ a ≤ q i + 7) → gi G a b = gi h a b := fun a b z1 z2 z3 z4 z5 z6 z7 => by rw [o1 a b z1 z2 z3 z4, eE a b z5 z6 z7]
        have kG : kd G = kd h ++ [(7, 7)] := by rw [← eK]; show G.2.2.2 = h1.2.2.2; rw [oR]
        have gG : ∀ a b, a < (kd h).length → gr G a b = gr h a b := fun a b ha => by rw [← eG a b (by omega)]; show G.2.2.1 a b = h1.2.2.1 a b; rw [oR]
        have lG : ∀ a b, ¬ (a = 53 ∧ b = i) → a < (kd h).length → gl G a b = gl h a b := fun a b z ha => by rw [oL a b z, eL a b (by omega)]
        have ek : ∀ (a : Nat) (b : Nat × Nat), (kd h)[a]? = some b → (kd G)[a]? = some b := fun a b hb => by
          rw [kG, List.getElem?_append_left (List.getElem?_eq_some_iff.mp hb).1]; exact hb
        refine hR0.chg kG (by simp) gG (lG _ _ (by omega) (by omega)) (fun a b z => o _ _ (by omega) (by omega) (by omega) (by omega) (by omega) (by omega) (by omega)) ⟨nc, q, s, hC.one (i := i) (by omega) ek (by rw [kG, List.length_append]; omega) (fun a b z z2 => gG a b z2) (o _ _ (by omega) (by omega) (by omega) (by omega) (by omega) (by omega) (by omega)) (o _ _ (by omega) (by omega) (by omega) (by omega) (by omega) (by omega) (by omega)) (fun a b z1 z2 z3 => o _ _ (by omega) (by omega) (by omega) (by omega) (by omega) (by omega) (by omega)) (fun a j z1 z2 z3 => o _ _ (by omega) (by omega) (by omega) (by omega) (by omega) (by omega) (by omega)) (fun a b z1 z2 z3 => o _ _ (by omega) (by omega) (by omega) (by omega) (by omega) (by omega) (by omega)) (fun b z => o _ _ (by omega) (by omega) (by omega) (by omega) (by omega) (by omega) (by omega)) (fun b z => o _ _ (by omega) (by omega) (by omega) (by omega) (by omega) (by omega) (by omega)) (fun j hj => lG _ _ (by omega) (by omega)) hl hi ?_⟩
        have cq : ∀ a b, q i ≤ a → a ≤ q i + 7 → gi G a b = gi ZC.1 a b := fun a b z1 z2 => by rw [o1 a b (by omega) (by omega) (by omega) (by omega), e0 a b (by omega)]
        refine y40.set ek (fun b => gG _ _ (by omega)) (fun b _ => o _ _ (by omega) (by omega) (by omega) (by omega) (by omega) (by omega) (by omega)) (fun a z1 z2 => o _ _ (by omega) (by omega) (by omega) (by omega) (by omega) (by omega) (by omega)) (by rw [o _ _ (by omega) (by omega) (by omega) (by omega) (by omega) (by omega) (by omega), o _ _ (by omega) (by omega) (by omega) (by omega) (by omega) (by omega) (by omega)]; exact d8) ⟨m', by omega, by rw [cq _ _ (by omega) (by omega)]; exact m2', oL2⟩ (fun a ha => ?_) (fun b hb => by rw [o _ _ (by omega) (by omega) (by omega) (by omega) (by omega) (by omega) (by omega), o _ _ (by omega) (by omega) (by omega) (by omega) (by omega) (by omega) (by omega)]; exact u6 b hb) (fun p hp => by rw [o _ _ (by omega) (by omega) (by omega) (by omega) (by omega) (by omega) (by omega), o _ _ (by omega) (by omega) (by omega) (by omega) (by omega) (by omega) (by omega)]; exact u7 p hp)
        rw [cq (q i + 3) _ (by omega) (by omega), cq (q i + 4) _ (by omega) (by omega), cq (q i + 5) _ (by omega) (by omega), cq (q i + 6) _ (by omega) (by omega), cq (q i + 7) _ (by omega) (by omega), o2 54 _ (by omega) (by omega), o2 55 _ (by omega) (by omega), o2 56 _ (by omega) (by omega), o2 57 _ (by omega) (by omega), o2 58 _ (by omega) (by omega)]
        exact b5 a ha
      · refine ⟨_, j_X8_burn_why hK hX hC.2.1 hC.1 hi (by omega) y1 (r3 r (by omega)) y4.1 (r5 r (by omega)).1.1 o5 hf hw (Or.inr hy), fun v' h1 qq => ?_⟩
        obtain ⟨rfl, rfl⟩ := qq
        refine ⟨_, _, rfl, hW.1, j_X9_burn_why hW (by omega) hi hf hw hN o5 p3 p1 (by rw [hwe]; exact hy), fun v2 h2 q2 => ?_⟩
        obtain ⟨rfl, t, rfl⟩ := q2
        exact ⟨rfl, hR0.same (by omega) rfl (fun a b z => sC_o (by omega) (by omega))⟩
    · rw [Bool.not_eq_true] at hp
      exact GLU.ro hR0 (j_X8_burn_why hK hX hC.2.1 hC.1 hi (by omega) y1 (r3 r (by omega)) y4.1 (r5 r (by omega)).1.1 o5 hf hw (Or.inl hp)) (j_X9_burn_no hK (by rw [hp, Bool.false_and])) rfl
  · rw [Bool.not_eq_true] at ho
    refine GLU.ro hR0 (j_X8_burn_no hK hX hC.2.1 hC.1 (fun i hi => (hC.2.2.2.1 i hi).1) r3 ho) (j_X9_burn_no hK ?_) rfl
    have : whyOk h v r id f w = false := by unfold whyOk; rw [c12]; exact ho
    rw [this, Bool.and_false]
end ZB
