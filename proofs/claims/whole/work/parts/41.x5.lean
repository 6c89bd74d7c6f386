-- the reference at work: all orders, then burn
section X5
variable {x : JX} {h : JH} {i r a : Nat} {d : Int32} {F : JH × Nat}
theorem wk_all {o : Nat} (hr : r < 4) (hi : i < 4) (ha : a < 64) (h61 : gi h 61 r = nI o) (ho : o ≤ 80) : ∀ tc, PG tc → ∀ dd p q, POK tc dd → MS (gi h) (100 * r) tc p q → q ≤ o → ∀ s T, Kp (wkI h) 100000 s → (∀ T', (∀ k, ¬ (p ≤ k ∧ k < q) → T' k = T k) → wkA x i r a d F q (ex (mPu i a d) (mRt i a d) tc s) T') → wkA x i r a d F p s T :=
  P_ind (fun dd p q _ hM _ s T hI k => by have hM : p = q := hM; subst hM; exact k T (fun _ _ => rfl))
    (fun k n t ht ih dd p q hO hM hq s T hI kk => by
      obtain ⟨h1, h2⟩ : ((k = 0 ∧ n ≤ 30) ∨ (k = 1 ∧ 1 ≤ n ∧ n ≤ 50) ∨ (k = 2 ∧ n = 0)) ∧ POK t dd := hO
      have hM : gi h 63 (100 * r + p) = nI k ∧ gi h 64 (100 * r + p) = nI n ∧ MS (gi h) (100 * r) t (p + 1) q := hM
      have hle := (MS_le t ht _ _ hM.2.2).1
      have hI1 := lfs_kp (R := mRt i a d) (fun g v => wkI_P (h := h) i a d g v) k n s hI
      refine wk_in hI hr h61 ho (by omega) hM.1 (fun h0 => ?_) (fun h0 => ?_)
      · refine wk_leaf hI hr hi ha ho (show p < o by omega) hM.2.1 h1 (ih dd (p + 1) q h2 hM.2.2 hq _ T hI1 (fun T' hT => ?_))
        have := kk T' (fun j hj => hT j (by omega))
        rw [ex_L, if_neg h0] at this
        exact this
      · have := kk T (fun _ _ => rfl)
        rw [ex_L, if_pos h0] at this
        unfold wkA at this
        rw [if_pos h0] at this
        exact this)
    (fun n b t hb ht ihb iht dd p q hO hM hq s T hI kk => by
      obtain ⟨h1, h2, h3, h4⟩ : (1 ≤ n ∧ n ≤ 50) ∧ 0 < dd ∧ POK b (dd - 1) ∧ POK t dd := hO
      have hM : ∃ m, gi h 63 (100 * r + p) = nI 3 ∧ gi h 64 (100 * r + p) = nI n ∧ gi h 65 (100 * r + p) = nI (m + 1) ∧ MS (gi h) (100 * r) b (p + 1) m ∧ gi h 63 (100 * r + m) = nI 4 ∧ gi h 65 (100 * r + m) = nI p ∧ MS (gi h) (100 * r) t (m + 1) q := hM
      obtain ⟨m, m1, m2, m3, m4, m5, m6, m7⟩ := hM
      have l1 := (MS_le b hb _ _ m4).1
      have l2 := (MS_le t ht _ _ m7).1
      have hIb : ∀ z, Kp (wkI h) 100000 z → Kp (wkI h) 100000 (ex (mPu i a d) (mRt i a d) b z) := fun z hz => ex_kp (fun g v => wkI_P (h := h) i a d g v) b hb z hz
      have hIt : Kp (wkI h) 100000 (trs (ex (mPu i a d) (mRt i a d) b) n s) := trs_kp hIb n s hI
      by_cases h0 : s.2.2.2 = 0
      · have := kk T (fun _ _ => rfl)
        rw [ex_T, if_pos h0] at this
        exact wk_0 h0 this
      have hcont : ∀ T', (∀ k, ¬ (p ≤ k ∧ k < q) → T' k = T k) → wkA x i r a d F (m + 1) (trs (ex (mPu i a d) (mRt i a d) b) n s) T' := fun T' hT' => iht dd (m + 1) q h4 m7 hq _ T' hIt (fun T'' hT'' => by
        have := kk T'' (fun j hj => (hT'' j (by omega)).trans (hT' j hj))
        rw [ex_T, if_neg h0] at this
        exact this)
      have loop : ∀ j, 1 ≤ j → j ≤ 50 → ∀ z T1, Kp (wkI h) 100000 z → T1 p = nI j → (∀ k, ¬ (p ≤ k ∧ k < q) → T1 k = T k) → z.2.2.1 = false → trs (ex (mPu i a d) (mRt i a d) b) j z = trs (ex (mPu i a d) (mRt i a d) b) n s → wkA x i r a d F (p + 1) z T1 := by
        intro j
        induction j with
        | zero => intro q; omega
        | succ j ihj =>
          intro _ hj50 z T1 hz hTp hTk hok htr
          by_cases hz0 : z.2.2.2 = 0
          · rw [trs_0 _ _ _ (Or.inl hz0)] at htr
            have := hcont T (fun _ _ => rfl)
            rw [← htr] at this
            exact wk_0 hz0 this
          have hz2 := hIb z hz
          have htr : trs (ex (mPu i a d) (mRt i a d) b) j (ex (mPu i a d) (mRt i a d) b z) = trs (ex (mPu i a d) (mRt i a d) b) n s := by
            rw [← htr]
            show _ = (if z.2.2.2 = 0 ∨ z.2.2.1 = true then z else _)
            rw [if_neg (by rw [hok]; simp; exact hz0)]
          refine ihb (dd - 1) (p + 1) m h3 m4 (by omega) z T1 hz (fun T' hT' => ?_)
          have hT'k : ∀ v k, ¬ (p ≤ k ∧ k < q) → (fun k => if k = p then v else T' k) k = T k := fun v k hk => by
            simp only
            rw [if_neg (by omega), hT' k (by omega), hTk k hk]
          refine wk_in hz2 hr h61 ho (by omega) m5 (fun hn0 => ?_) (fun hn0 => ?_)
          · refine wk_again (o := o) (j := j + 1) hz2 hr ho (by omega) (by omega) (by omega) m6 (by rw [hT' p (by omega)]; exact hTp) (fun hh => ?_) (fun hh1 hh2 => ?_)
            · have e : trs (ex (mPu i a d) (mRt i a d) b) j (ex (mPu i a d) (mRt i a d) b z) = ex (mPu i a d) (mRt i a d) b z := by
                rcases hh with hh | hh
                · rw [show j = 0 by omega]; rfl
                · exact trs_0 _ _ _ (Or.inr hh)
              rw [← e, htr]
              exact hcont _ (hT'k _)
            · exact ihj (by omega) (by omega) _ _ hz2 (by simp) (hT'k _) hh2 htr
          · have := hcont T (fun _ _ => rfl)
            rw [← htr, trs_0 _ _ _ (Or.inl hn0)] at this
            unfold wkA at this
            rw [if_pos hn0] at this
            exact this
      refine wk_in hI hr h61 ho (by omega) m1 (fun _ => ?_) (fun q => absurd q h0)
      have hTk : ∀ k, ¬ (p ≤ k ∧ k < q) → (fun k => if k = p then nI n else T k) k = T k := fun k hk => by
        simp only
        rw [if_neg (by omega)]
      refine wk_try (o := o) hI hr ho (by omega) m2 m3 (fun hok => ?_) (fun hok => ?_)
      · have := hcont _ hTk
        rw [trs_0 _ _ _ (Or.inr hok)] at this
        exact this
      · exact loop n h1.1 h1.2 s _ hI (by simp) hTk hok rfl)
    (fun b1 b2 t hb1 hb2 ht ih1 ih2 iht dd p q hO hM hq s T hI kk => by
      obtain ⟨h1, h2, h3, h4⟩ : 0 < dd ∧ POK b1 (dd - 1) ∧ POK b2 (dd - 1) ∧ POK t dd := hO
      have hM : ∃ m1 m2, gi h 63 (100 * r + p) = nI 5 ∧ gi h 65 (100 * r + p) = nI (m1 + 1) ∧ MS (gi h) (100 * r) b1 (p + 1) m1 ∧ gi h 63 (100 * r + m1) = nI 6 ∧ gi h 65 (100 * r + m1) = nI m2 ∧ MS (gi h) (100 * r) b2 (m1 + 1) m2 ∧ MS (gi h) (100 * r) t m2 q := hM
      obtain ⟨m1, m2, g1, g2, g3, g4, g5, g6, g7⟩ := hM
      have l1 := (MS_le b1 hb1 _ _ g3).1
      have l2 := (MS_le b2 hb2 _ _ g6).1
      have l3 := (MS_le t ht _ _ g7).1
      by_cases h0 : s.2.2.2 = 0
      · have := kk T (fun _ _ => rfl)
        rw [ex_O, if_pos h0] at this
        exact wk_0 h0 this
      have hI2 : Kp (wkI h) 100000 (if s.2.2.1 = true then ex (mPu i a d) (mRt i a d) b1 s else ex (mPu i a d) (mRt i a d) b2 s) := by
        split
        · exact ex_kp (fun g v => wkI_P (h := h) i a d g v) b1 hb1 s hI
        · exact ex_kp (fun g v => wkI_P (h := h) i a d g v) b2 hb2 s hI
      have hcont : ∀ T', (∀ k, ¬ (p ≤ k ∧ k < q) → T' k = T k) → wkA x i r a d F m2 (if s.2.2.1 = true then ex (mPu i a d) (mRt i a d) b1 s else ex (mPu i a d) (mRt i a d) b2 s) T' := fun T' hT' => iht dd m2 q h4 g7 hq _ T' hI2 (fun T'' hT'' => by
        have := kk T'' (fun j hj => (hT'' j (by omega)).trans (hT' j hj))
        rw [ex_O, if_neg h0] at this
        exact this)
      refine wk_in hI hr h61 ho (by omega) g1 (fun _ => ?_) (fun q => absurd q h0)
      refine wk_ok (o := o) hI hr ho (by omega) g2 (fun hok => ?_) (fun hok => ?_)
      · rw [if_pos hok] at hI2
        refine ih1 (dd - 1) (p + 1) m1 h2 g3 (by omega) s T hI (fun T' hT' => ?_)
        have hc := hcont T' (fun k hk => hT' k (by omega))
        rw [if_pos hok] at hc
        refine wk_in hI2 hr h61 ho (by omega) g4 (fun hn0 => ?_) (fun hn0 => ?_)
        · exact wk_else (o := o) hI2 hr ho (by omega) g5 hc
        · unfold wkA at hc
          rw [if_pos hn0] at hc
          exact hc
      · rw [if_neg (by rw [hok]; decide)] at hI2
        refine ih2 (dd - 1) (m1 + 1) m2 h3 g6 (by omega) s T hI (fun T' hT' => ?_)
        have hc := hcont T' (fun k hk => hT' k (by omega))
        rw [if_neg (by rw [hok]; decide)] at hc
        exact hc)
theorem j_X9_work {e : Nat} {tc : Cond} {g : JH} {T : Nat → Int32} {L : Nat} (hI : wkI h g) (hr : r < 4) (hi : i < 4) (ha : a < 64) (hL : L ≤ 100000) (hM : MRec (gi h) r tc e) (hO : POK tc 5) : JM x yX9_work cX9_work 12 none 1 0 0 [.ref 38, .int (nI i), .int (nI r), .int (nI a), .int d] (tS g T (nI L)) (fun v g' => v = none ∧ ∃ T', g' = tS (ex (mPu i a d) (mRt i a d) tc (g, 0, false, L)).1 T' (nI (ex (mPu i a d) (mRt i a d) tc (g, 0, false, L)).2.2.2)) := by
  refine JM_of [some (.ref 38), some (.int (nI i)), some (.int (nI r)), some (.int (nI a)), some (.int d), none, none, none, none, none, none, none] (by decide) (Nat.le_of_ble_eq_true rfl) rfl ?_
  obtain ⟨hPG, he, o, hoe, h61, -, -, -, hMS⟩ := id hM
  have hK0 : Kp (wkI h) 100000 (g, 0, false, L) := ⟨hI, hL⟩
  have hKe := ex_kp (R := mRt i a d) (fun g v => wkI_P (h := h) i a d g v) tc hPG _ hK0
  refine J_bipush (pq := 2) dX9_work_0 rfl c_bipush_100 (J_iload_n (pq := 3) dX9_work_2 rfl rfl (J_imul (pq := 4) dX9_work_3 rfl (J_istore (pq := 6) dX9_work_4 rfl (Nat.le_of_ble_eq_true rfl) (Nat.le_of_ble_eq_true rfl) rfl (J_iconst (pq := 7) dX9_work_6 rfl c_iconst_0 (J_istore (pq := 9) dX9_work_7 rfl (Nat.le_of_ble_eq_true rfl) (Nat.le_of_ble_eq_true rfl) rfl (J_iconst (pq := 10) dX9_work_9 rfl c_iconst_0 (J_istore (pq := 12) dX9_work_10 rfl (Nat.le_of_ble_eq_true rfl) (Nat.le_of_ble_eq_true rfl) rfl (J_iconst (pq := 13) dX9_work_12 rfl c_iconst_0 (J_istore (pq := 15) dX9_work_13 rfl (Nat.le_of_ble_eq_true rfl) (Nat.le_of_ble_eq_true rfl) rfl (?_))))))))))
  rw [show (100 : Int32) * nI r = nI (100 * r) by rw [show (100 : Int32) = nI 100 from rfl, pk_mul]]
  refine wk_J (s := (g, 0, false, L)) (p := 0) (F := ((ex (mPu i a d) (mRt i a d) tc (g, 0, false, L)).1, (ex (mPu i a d) (mRt i a d) tc (g, 0, false, L)).2.2.2)) hK0 hr (wk_all hr hi ha h61 (by omega) tc hPG 5 0 o hO hMS (Nat.le_refl _) _ T hK0 (fun T' hT' => ?_))
  generalize hs : ex (mPu i a d) (mRt i a d) tc (g, 0, false, L) = s at *
  unfold wkA
  by_cases h0 : s.2.2.2 = 0
  · rw [if_pos h0, h0]
  · rw [if_neg h0]
    have hK' : Kin (tS s.1 T' (nI s.2.2.2)) := hKe.1.1.of2 rfl
    have hR' : MR (tS s.1 T' (nI s.2.2.2)) := hKe.1.2.1.of2 rfl
    have hb5 : vp_in (nI r) 5 := vp_in_nI (by omega) (by omega)
    have hxr : ix (nI r) = r := ixn (by omega)
    have e61 : gi (tS s.1 T' (nI s.2.2.2)) 61 r = nI o := by rw [tS_o (by decide) (by simp), hKe.1.2.2.2.1 61 r (by decide) (by decide) (by decide) (by decide), h61]
    refine J_iload (pq := 17) dX9_work_15 rfl rfl (J_aload_n (pq := 18) dX9_work_17 rfl rfl (J_getA (pq := 21) dX9_work_18 rfl f_X9_85 (by decide +kernel) (hK'.at rfl) (hR' _ _ rfl) (J_iload_n (pq := 22) dX9_work_21 rfl rfl (J_iald (pq := 23) dX9_work_22 rfl (hK'.at rfl) (by assumption) (J_icmp_ge (pq := 26) (tgt := 276) dX9_work_23 rfl rfl (fun c => ?_) (fun c => ?_))))))
    · refine J_vret dX9_work_276 rfl ?_
      exact ⟨rfl, T', rfl⟩
    · rw [hxr, e61] at c
      exact absurd (Int32.le_refl _) c
end X5
