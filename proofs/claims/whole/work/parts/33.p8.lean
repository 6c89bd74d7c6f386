-- the reference's orders as a graph
def odE (G : Nat → Nat → Int32) (b k : Nat) : List (Nat × Option Nat) :=
  if G 63 (b + k) = 0 then [(k + 1, some (ix (G 64 (b + k))))]
  else if G 63 (b + k) = 3 ∨ G 63 (b + k) = 5 then [(k + 1, none), (ix (G 65 (b + k)), none)]
  else if G 63 (b + k) = 4 then (if G 64 (b + ix (G 65 (b + k))) ≤ 1 then [(k + 1, none)] else [(k + 1, none), (ix (G 65 (b + k)) + 1, none)])
  else if G 63 (b + k) = 6 then [(ix (G 65 (b + k)), none)]
  else [(k + 1, none)]
def OV (G : Nat → Nat → Int32) (b k : Nat) : Prop := (G 63 (b + k) = 0 → ∃ n, n ≤ 30 ∧ G 64 (b + k) = nI n) ∧ ((G 63 (b + k) = 3 ∨ G 63 (b + k) = 4 ∨ G 63 (b + k) = 5 ∨ G 63 (b + k) = 6) → ∃ t, t < 100 ∧ G 65 (b + k) = nI t)
section OD
variable {G : Nat → Nat → Int32} {b k : Nat}
theorem odE_0 {n : Nat} (h : G 63 (b + k) = nI 0) (h2 : G 64 (b + k) = nI n) (hn : n ≤ 30) : odE G b k = [(k + 1, some n)] ∧ OV G b k := by
  unfold odE OV
  rw [h, h2, ixn (by omega)]
  exact ⟨rfl, fun _ => ⟨n, hn, rfl⟩, fun q => by rcases q with q | q | q | q <;> exact absurd q (by decide)⟩
theorem odE_12 {w : Nat} (h : G 63 (b + k) = nI w) (hw : w = 1 ∨ w = 2) : odE G b k = [(k + 1, none)] ∧ OV G b k := by
  unfold odE OV
  rw [h]
  rcases hw with rfl | rfl
  · exact ⟨rfl, fun q => absurd q (by decide), fun q => by rcases q with q | q | q | q <;> exact absurd q (by decide)⟩
  · exact ⟨rfl, fun q => absurd q (by decide), fun q => by rcases q with q | q | q | q <;> exact absurd q (by decide)⟩
theorem odE_35 {w t : Nat} (h : G 63 (b + k) = nI w) (hw : w = 3 ∨ w = 5) (h2 : G 65 (b + k) = nI t) (ht : t < 100) : odE G b k = [(k + 1, none), (t, none)] ∧ OV G b k := by
  unfold odE OV
  rw [h, h2, ixn (by omega)]
  rcases hw with rfl | rfl
  · exact ⟨rfl, fun q => absurd q (by decide), fun _ => ⟨t, ht, rfl⟩⟩
  · exact ⟨rfl, fun q => absurd q (by decide), fun _ => ⟨t, ht, rfl⟩⟩
theorem odE_4 {t n : Nat} (h : G 63 (b + k) = nI 4) (h2 : G 65 (b + k) = nI t) (ht : t < 100) (h3 : G 64 (b + t) = nI n) (hn : n ≤ 50) : odE G b k = (if n ≤ 1 then [(k + 1, none)] else [(k + 1, none), (t + 1, none)]) ∧ OV G b k := by
  unfold odE OV
  rw [h, h2, ixn (by omega), h3, show (1 : Int32) = nI 1 from rfl]
  refine ⟨?_, fun q => absurd q (by decide), fun _ => ⟨t, ht, rfl⟩⟩
  rw [if_neg (by decide), if_neg (by decide), if_pos (by decide)]
  by_cases h1 : n ≤ 1
  · rw [if_pos ((nI_leI (by omega) (by omega)).2 h1), if_pos h1]
  · rw [if_neg (fun q => h1 ((nI_leI (by omega) (by omega)).1 q)), if_neg h1]
theorem odE_6 {t : Nat} (h : G 63 (b + k) = nI 6) (h2 : G 65 (b + k) = nI t) (ht : t < 100) : odE G b k = [(t, none)] ∧ OV G b k := by
  unfold odE OV
  rw [h, h2, ixn (by omega)]
  exact ⟨rfl, fun q => absurd q (by decide), fun _ => ⟨t, ht, rfl⟩⟩
end OD
/-- an edge's volts stay below -/
def EB (M : Nat → Nat) (i j k : Nat) (e : Nat × Option Nat) : Prop := i < e.1 ∧ e.1 ≤ j ∧ e.2.getD (M k) ≤ M e.1
theorem volts_le {G : Nat → Nat → Int32} {b : Nat} : ∀ c, PG c → ∀ d i j, POK c d → MS G b c i j → j < 100 → ∀ v, ∃ M : Nat → Nat, M i = v ∧ M j = tv c v ∧ ∀ k, i ≤ k → k < j → OV G b k ∧ (∀ e, e ∈ odE G b k → EB M i j k e) ∧ (G 63 (b + k) = nI 1 → M k + 1 ≤ tq c v) :=
  P_ind
    (fun d i j _ h _ v => by
      have h : i = j := h
      exact ⟨fun _ => v, rfl, rfl, fun k h1 h2 => by omega⟩)
    (fun kk n r hr ih d i j hO h hj v => by
      have h : G 63 (b + i) = nI kk ∧ G 64 (b + i) = nI n ∧ MS G b r (i + 1) j := h
      obtain ⟨hO1, hO2⟩ : ((kk = 0 ∧ n ≤ 30) ∨ (kk = 1 ∧ 1 ≤ n ∧ n ≤ 50) ∨ (kk = 2 ∧ n = 0)) ∧ POK r d := hO
      obtain ⟨M, m1, m2, m3⟩ := ih d (i + 1) j hO2 h.2.2 hj (if kk = 0 then n else v)
      have hle := (MS_le r hr _ _ h.2.2).1
      obtain ⟨M', f0, f1⟩ : ∃ M' : Nat → Nat, M' i = v ∧ ∀ k, k ≠ i → M' k = M k := ⟨fun k => if k = i then v else M k, if_pos rfl, fun k hk => if_neg hk⟩
      refine ⟨M', f0, ?_, fun k h1 h2 => ?_⟩
      · rw [f1 j (by omega), m2, tv_L]
      · by_cases hk : k = i
        · subst hk
          have hEq : odE G b k = [(k + 1, if kk = 0 then some n else none)] ∧ OV G b k := by
            rcases hO1 with ⟨q1, q2⟩ | ⟨q1, q2⟩ | ⟨q1, q2⟩
            · rw [if_pos q1]; exact odE_0 (by rw [h.1, q1]) h.2.1 q2
            · rw [if_neg (by omega)]; exact odE_12 h.1 (by omega)
            · rw [if_neg (by omega)]; exact odE_12 h.1 (by omega)
          refine ⟨hEq.2, fun e he => ?_, fun q => ?_⟩
          · rw [hEq.1, List.mem_singleton] at he
            subst he
            refine ⟨by simp only; omega, by simp only; omega, ?_⟩
            simp only
            rw [f1 (k + 1) (by omega), m1, f0]
            split <;> simp
          · rw [f0]
            rw [h.1, nI_eq (by omega) (by omega)] at q
            rw [tq_L, if_pos q]; omega
        · obtain ⟨w1, w2, w3⟩ := m3 k (by omega) h2
          refine ⟨w1, fun e he => ?_, fun q => ?_⟩
          · obtain ⟨u1, u2, u3⟩ := w2 e he
            refine ⟨by omega, u2, ?_⟩
            rw [f1 k hk, f1 e.1 (by omega)]; exact u3
          · have := w3 q
            rw [f1 k hk, tq_L]; omega)
    (fun n q r hq hr ihq ihr d i j hO h hj v => by
      have h : ∃ m, G 63 (b + i) = nI 3 ∧ G 64 (b + i) = nI n ∧ G 65 (b + i) = nI (m + 1) ∧ MS G b q (i + 1) m ∧ G 63 (b + m) = nI 4 ∧ G 65 (b + m) = nI i ∧ MS G b r (m + 1) j := h
      obtain ⟨m, e1, e2, e3, h1, e4, e5, h2⟩ := h
      obtain ⟨hO1, hO2, hO3, hO4⟩ : (1 ≤ n ∧ n ≤ 50) ∧ 0 < d ∧ POK q (d - 1) ∧ POK r d := hO
      have l1 := (MS_le q hq _ _ h1).1
      have l2 := (MS_le r hr _ _ h2).1
      obtain ⟨A, a1, a2, a3⟩ := ihq (d - 1) (i + 1) m hO3 h1 (by omega) (if n ≤ 1 then v else max v (tv q v))
      obtain ⟨B, b1, b2, b3⟩ := ihr d (m + 1) j hO4 h2 hj (max v (tv q v))
      have hE := odE_35 (w := 3) e1 (Or.inl rfl) e3 (by omega)
      have hE4 := odE_4 e4 e5 (by omega) e2 hO1.2
      have hid := tv_idem hq v
      have hA : A m ≤ max v (tv q v) := by rw [a2]; split <;> omega
      obtain ⟨M', f0, fA, fB⟩ : ∃ M' : Nat → Nat, M' i = v ∧ (∀ k, k ≠ i → k ≤ m → M' k = A k) ∧ (∀ k, i < k → m < k → M' k = B k) := ⟨fun k => if k = i then v else if k ≤ m then A k else B k, if_pos rfl, fun k hk hm => by simp only; rw [if_neg hk, if_pos hm], fun k hk hm => by simp only; rw [if_neg (by omega), if_neg (by omega)]⟩
      refine ⟨M', f0, ?_, fun k g1 g2 => ?_⟩
      · rw [fB j (by omega) (by omega), b2, tv_T]
      · by_cases hk : k = i
        · subst hk
          refine ⟨hE.2, fun e he => ?_, fun p => ?_⟩
          · rw [hE.1] at he
            simp only [List.mem_cons, List.not_mem_nil, or_false] at he
            rcases he with rfl | rfl
            · refine ⟨by simp only; omega, by simp only; omega, ?_⟩
              simp only [Option.getD_none]
              rw [f0, fA (k + 1) (by omega) (by omega), a1]
              split <;> omega
            · refine ⟨by simp only; omega, by simp only; omega, ?_⟩
              simp only [Option.getD_none]
              rw [f0, fB (m + 1) (by omega) (by omega), b1]
              omega
          · rw [e1] at p; exact absurd p (by decide)
        · by_cases hkm : k = m
          · subst hkm
            refine ⟨hE4.2, fun e he => ?_, fun p => ?_⟩
            · rw [hE4.1] at he
              have hc : (e = (k + 1, none)) ∨ (¬ n ≤ 1 ∧ e = (i + 1, none)) := by
                by_cases h1 : n ≤ 1
                · rw [if_pos h1, List.mem_singleton] at he; exact Or.inl he
                · rw [if_neg h1] at he
                  simp only [List.mem_cons, List.not_mem_nil, or_false] at he
                  exact he.imp id (fun q => ⟨h1, q⟩)
              rcases hc with rfl | ⟨hn1, rfl⟩
              · refine ⟨by simp only; omega, by simp only; omega, ?_⟩
                simp only [Option.getD_none]
                rw [fA k hk (by omega), fB (k + 1) (by omega) (by omega), b1]
                exact hA
              · refine ⟨by simp only; omega, by simp only; omega, ?_⟩
                simp only [Option.getD_none]
                rw [fA k hk (by omega), fA (i + 1) (by omega) (by omega), a1, if_neg hn1]
                exact hA
            · rw [e4] at p; exact absurd p (by decide)
          · by_cases hlt : k < m
            · obtain ⟨w1, w2, w3⟩ := a3 k (by omega) hlt
              refine ⟨w1, fun e he => ?_, fun p => ?_⟩
              · obtain ⟨u1, u2, u3⟩ := w2 e he
                refine ⟨by omega, by omega, ?_⟩
                rw [fA k hk (by omega), fA e.1 (by omega) u2]; exact u3
              · have := w3 p
                rw [fA k hk (by omega), tq_T]; omega
            · obtain ⟨w1, w2, w3⟩ := b3 k (by omega) g2
              refine ⟨w1, fun e he => ?_, fun p => ?_⟩
              · obtain ⟨u1, u2, u3⟩ := w2 e he
                refine ⟨by omega, by omega, ?_⟩
                rw [fB k (by omega) (by omega), fB e.1 (by omega) (by omega)]; exact u3
              · have := w3 p
                rw [fB k (by omega) (by omega), tq_T]; omega)
    (fun q1 q2 r hq1 hq2 hr ih1 ih2 ihr d i j hO h hj v => by
      have h : ∃ m1 m2, G 63 (b + i) = nI 5 ∧ G 65 (b + i) = nI (m1 + 1) ∧ MS G b q1 (i + 1) m1 ∧ G 63 (b + m1) = nI 6 ∧ G 65 (b + m1) = nI m2 ∧ MS G b q2 (m1 + 1) m2 ∧ MS G b r m2 j := h
      obtain ⟨m1, m2, e1, e2, g1, e3, e4, g2, g3⟩ := h
      obtain ⟨hO2, hO3, hO4, hO5⟩ : 0 < d ∧ POK q1 (d - 1) ∧ POK q2 (d - 1) ∧ POK r d := hO
      have l1 := (MS_le q1 hq1 _ _ g1).1
      have l2 := (MS_le q2 hq2 _ _ g2).1
      have l3 := (MS_le r hr _ _ g3).1
      obtain ⟨A, a1, a2, a3⟩ := ih1 (d - 1) (i + 1) m1 hO3 g1 (by omega) v
      obtain ⟨B, b1, b2, b3⟩ := ih2 (d - 1) (m1 + 1) m2 hO4 g2 (by omega) v
      obtain ⟨C, c1, c2, c3⟩ := ihr d m2 j hO5 g3 hj (max (tv q1 v) (tv q2 v))
      have hE := odE_35 (w := 5) e1 (Or.inr rfl) e2 (by omega)
      have hE6 := odE_6 e3 e4 (by omega)
      obtain ⟨M', f0, fA, fB, fC⟩ : ∃ M' : Nat → Nat, M' i = v ∧ (∀ k, k ≠ i → k ≤ m1 → M' k = A k) ∧ (∀ k, i < k → m1 < k → k < m2 → M' k = B k) ∧ (∀ k, i < k → m1 < k → m2 ≤ k → M' k = C k) := ⟨fun k => if k = i then v else if k ≤ m1 then A k else if k < m2 then B k else C k, if_pos rfl, fun k hk hm => by simp only; rw [if_neg hk, if_pos hm], fun k hk hm hm2 => by simp only; rw [if_neg (by omega), if_neg (by omega), if_pos hm2], fun k hk hm hm2 => by simp only; rw [if_neg (by omega), if_neg (by omega), if_neg (by omega)]⟩
      have hB0 : v ≤ M' (m1 + 1) := by
        by_cases hlt : m1 + 1 < m2
        · rw [fB (m1 + 1) (by omega) (by omega) hlt, b1]; omega
        · have hmm : m1 + 1 = m2 := by omega
          have : B m2 = v := by rw [← hmm, b1]
          rw [fC (m1 + 1) (by omega) (by omega) (by omega), hmm, c1, ← b2, this]; omega
      refine ⟨M', f0, ?_, fun k y1 y2 => ?_⟩
      · rw [fC j (by omega) (by omega) (by omega), c2, tv_O]
      · by_cases hk : k = i
        · subst hk
          refine ⟨hE.2, fun e he => ?_, fun p => ?_⟩
          · rw [hE.1] at he
            simp only [List.mem_cons, List.not_mem_nil, or_false] at he
            rcases he with rfl | rfl
            · refine ⟨by simp only; omega, by simp only; omega, ?_⟩
              simp only [Option.getD_none]
              rw [f0, fA (k + 1) (by omega) (by omega), a1]
              omega
            · refine ⟨by simp only; omega, by simp only; omega, ?_⟩
              simp only [Option.getD_none]
              rw [f0]
              exact hB0
          · rw [e1] at p; exact absurd p (by decide)
        · by_cases hkm : k = m1
          · subst hkm
            refine ⟨hE6.2, fun e he => ?_, fun p => ?_⟩
            · rw [hE6.1, List.mem_singleton] at he
              subst he
              refine ⟨by simp only; omega, by simp only; omega, ?_⟩
              simp only [Option.getD_none]
              rw [fA k hk (by omega), fC m2 (by omega) (by omega) (by omega), c1, a2]
              omega
            · rw [e3] at p; exact absurd p (by decide)
          · by_cases hlt : k < m1
            · obtain ⟨w1, w2, w3⟩ := a3 k (by omega) hlt
              refine ⟨w1, fun e he => ?_, fun p => ?_⟩
              · obtain ⟨u1, u2, u3⟩ := w2 e he
                refine ⟨by omega, by omega, ?_⟩
                rw [fA k hk (by omega), fA e.1 (by omega) u2]; exact u3
              · have := w3 p
                rw [fA k hk (by omega), tq_O]; omega
            · by_cases hlt2 : k < m2
              · obtain ⟨w1, w2, w3⟩ := b3 k (by omega) hlt2
                refine ⟨w1, fun e he => ?_, fun p => ?_⟩
                · obtain ⟨u1, u2, u3⟩ := w2 e he
                  refine ⟨by omega, by omega, ?_⟩
                  rw [fB k (by omega) (by omega) hlt2]
                  by_cases hend : e.1 = m2
                  · rw [fC e.1 (by omega) (by omega) (by omega), hend, c1]
                    rw [hend, b2] at u3
                    omega
                  · rw [fB e.1 (by omega) (by omega) (by omega)]; exact u3
                · have := w3 p
                  rw [fB k (by omega) (by omega) hlt2, tq_O]; omega
              · obtain ⟨w1, w2, w3⟩ := c3 k (by omega) y2
                refine ⟨w1, fun e he => ?_, fun p => ?_⟩
                · obtain ⟨u1, u2, u3⟩ := w2 e he
                  refine ⟨by omega, by omega, ?_⟩
                  rw [fC k (by omega) (by omega) (by omega), fC e.1 (by omega) (by omega) (by omega)]; exact u3
                · have := w3 p
                  rw [fC k (by omega) (by omega) (by omega), tq_O]; omega)
/-- what has come lets flow no more -/
def ClE (C : Nat → Int32) (k : Nat) (e : Nat × Option Nat) : Prop := (e.2 = none → ∀ u, bt (C k) u = true → bt (C e.1) u = true) ∧ (∀ n, e.2 = some n → bt (C e.1) n = true)
theorem volts_ge {G : Nat → Nat → Int32} {b : Nat} {C : Nat → Int32} : ∀ c, PG c → ∀ d i j, POK c d → MS G b c i j → j < 100 → (∀ k, i ≤ k → k < j → C k ≠ 0 → ∀ e, e ∈ odE G b k → ClE C k e) → ∀ v, bt (C i) v = true → bt (C j) (tv c v) = true ∧ (tq c v = 0 ∨ ∃ k u, i ≤ k ∧ k < j ∧ G 63 (b + k) = nI 1 ∧ tq c v = u + 1 ∧ bt (C k) u = true) :=
  P_ind
    (fun d i j _ h _ _ v hv => by
      have h : i = j := h
      subst h
      exact ⟨hv, Or.inl rfl⟩)
    (fun kk n r hr ih d i j hO h hj hC v hv => by
      have h : G 63 (b + i) = nI kk ∧ G 64 (b + i) = nI n ∧ MS G b r (i + 1) j := h
      obtain ⟨hO1, hO2⟩ : ((kk = 0 ∧ n ≤ 30) ∨ (kk = 1 ∧ 1 ≤ n ∧ n ≤ 50) ∨ (kk = 2 ∧ n = 0)) ∧ POK r d := hO
      have hle := (MS_le r hr _ _ h.2.2).1
      have hcl := hC i (by omega) (by omega) (bt_ne hv)
      have hv' : bt (C (i + 1)) (if kk = 0 then n else v) = true := by
        by_cases h0 : kk = 0
        · rw [if_pos h0]
          have hEq := odE_0 (by rw [h.1, h0]) h.2.1 (show n ≤ 30 by omega)
          rw [hEq.1] at hcl
          exact (hcl _ (List.mem_singleton.2 rfl)).2 n rfl
        · rw [if_neg h0]
          have hEq := odE_12 h.1 (show kk = 1 ∨ kk = 2 by omega)
          rw [hEq.1] at hcl
          exact (hcl _ (List.mem_singleton.2 rfl)).1 rfl v hv
      obtain ⟨r1, r2⟩ := ih d (i + 1) j hO2 h.2.2 hj (fun k a1 a2 => hC k (by omega) a2) _ hv'
      refine ⟨r1, ?_⟩
      rw [tq_L]
      generalize (if kk = 0 then n else v) = v' at *
      by_cases h1 : kk = 1
      · rw [if_pos h1]
        by_cases hm : tq r v' ≤ v + 1
        · exact Or.inr ⟨i, v, by omega, by omega, by rw [h.1, h1], by omega, hv⟩
        · rcases r2 with r2 | ⟨k, u, u1, u2, u3, u4, u5⟩
          · omega
          · exact Or.inr ⟨k, u, by omega, u2, u3, by omega, u5⟩
      · rw [if_neg h1]
        rcases r2 with r2 | ⟨k, u, u1, u2, u3, u4, u5⟩
        · exact Or.inl (by omega)
        · exact Or.inr ⟨k, u, by omega, u2, u3, by omega, u5⟩)
    (fun n q r hq hr ihq ihr d i j hO h hj hC v hv => by
      have h : ∃ m, G 63 (b + i) = nI 3 ∧ G 64 (b + i) = nI n ∧ G 65 (b + i) = nI (m + 1) ∧ MS G b q (i + 1) m ∧ G 63 (b + m) = nI 4 ∧ G 65 (b + m) = nI i ∧ MS G b r (m + 1) j := h
      obtain ⟨m, e1, e2, e3, h1, e4, e5, h2⟩ := h
      obtain ⟨hO1, hO2, hO3, hO4⟩ : (1 ≤ n ∧ n ≤ 50) ∧ 0 < d ∧ POK q (d - 1) ∧ POK r d := hO
      have l1 := (MS_le q hq _ _ h1).1
      have l2 := (MS_le r hr _ _ h2).1
      have hE := odE_35 (w := 3) e1 (Or.inl rfl) e3 (by omega)
      have hE4 := odE_4 e4 e5 (by omega) e2 hO1.2
      have hcl := hC i (by omega) (by omega) (bt_ne hv)
      rw [hE.1] at hcl
      have v1 : bt (C (i + 1)) v = true := (hcl (i + 1, none) (by simp)).1 rfl v hv
      have v2 : bt (C (m + 1)) v = true := (hcl (m + 1, none) (by simp)).1 rfl v hv
      have hCq : ∀ k, i + 1 ≤ k → k < m → C k ≠ 0 → ∀ e, e ∈ odE G b k → ClE C k e := fun k a1 a2 => hC k (by omega) (by omega)
      obtain ⟨s1, -⟩ := ihq (d - 1) (i + 1) m hO3 h1 (by omega) hCq v v1
      have hcm := hC m (by omega) (by omega) (bt_ne s1)
      rw [hE4.1] at hcm
      have v3 : bt (C (m + 1)) (tv q v) = true := (hcm (m + 1, none) (by split <;> simp)).1 rfl _ s1
      have v4 : bt (C (m + 1)) (max v (tv q v)) = true := by
        by_cases hle : v ≤ tv q v
        · rw [Nat.max_eq_right hle]; exact v3
        · rw [Nat.max_eq_left (by omega)]; exact v2
      have v5 : bt (C (i + 1)) (if n ≤ 1 then v else max v (tv q v)) = true := by
        by_cases hn : n ≤ 1
        · rw [if_pos hn]; exact v1
        · rw [if_neg hn] at hcm ⊢
          have v6 : bt (C (i + 1)) (tv q v) = true := (hcm (i + 1, none) (by simp)).1 rfl _ s1
          by_cases hle : v ≤ tv q v
          · rw [Nat.max_eq_right hle]; exact v6
          · rw [Nat.max_eq_left (by omega)]; exact v1
      obtain ⟨-, t2⟩ := ihq (d - 1) (i + 1) m hO3 h1 (by omega) hCq _ v5
      obtain ⟨r1, r2⟩ := ihr d (m + 1) j hO4 h2 hj (fun k a1 a2 => hC k (by omega) a2) _ v4
      refine ⟨r1, ?_⟩
      rw [tq_T]
      generalize (if n ≤ 1 then v else max v (tv q v)) = w1 at *
      generalize max v (tv q v) = w2 at *
      by_cases hle : tq q w1 ≤ tq r w2
      · rw [Nat.max_eq_right hle]
        rcases r2 with r2 | ⟨k, u, u1, u2, u3, u4, u5⟩
        · exact Or.inl r2
        · exact Or.inr ⟨k, u, by omega, u2, u3, u4, u5⟩
      · rw [Nat.max_eq_left (by omega)]
        rcases t2 with t2 | ⟨k, u, u1, u2, u3, u4, u5⟩
        · exact Or.inl t2
        · exact Or.inr ⟨k, u, by omega, by omega, u3, u4, u5⟩)
    (fun q1 q2 r hq1 hq2 hr ih1 ih2 ihr d i j hO h hj hC v hv => by
      have h : ∃ m1 m2, G 63 (b + i) = nI 5 ∧ G 65 (b + i) = nI (m1 + 1) ∧ MS G b q1 (i + 1) m1 ∧ G 63 (b + m1) = nI 6 ∧ G 65 (b + m1) = nI m2 ∧ MS G b q2 (m1 + 1) m2 ∧ MS G b r m2 j := h
      obtain ⟨m1, m2, e1, e2, g1, e3, e4, g2, g3⟩ := h
      obtain ⟨hO2, hO3, hO4, hO5⟩ : 0 < d ∧ POK q1 (d - 1) ∧ POK q2 (d - 1) ∧ POK r d := hO
      have l1 := (MS_le q1 hq1 _ _ g1).1
      have l2 := (MS_le q2 hq2 _ _ g2).1
      have l3 := (MS_le r hr _ _ g3).1
      have hE := odE_35 (w := 5) e1 (Or.inr rfl) e2 (by omega)
      have hE6 := odE_6 e3 e4 (by omega)
      have hcl := hC i (by omega) (by omega) (bt_ne hv)
      rw [hE.1] at hcl
      have v1 : bt (C (i + 1)) v = true := (hcl (i + 1, none) (by simp)).1 rfl v hv
      have v2 : bt (C (m1 + 1)) v = true := (hcl (m1 + 1, none) (by simp)).1 rfl v hv
      obtain ⟨s1, s2⟩ := ih1 (d - 1) (i + 1) m1 hO3 g1 (by omega) (fun k a1 a2 => hC k (by omega) (by omega)) v v1
      obtain ⟨t1, t2⟩ := ih2 (d - 1) (m1 + 1) m2 hO4 g2 (by omega) (fun k a1 a2 => hC k (by omega) (by omega)) v v2
      have hcm := hC m1 (by omega) (by omega) (bt_ne s1)
      rw [hE6.1] at hcm
      have v3 : bt (C m2) (tv q1 v) = true := (hcm (m2, none) (by simp)).1 rfl _ s1
      have v4 : bt (C m2) (max (tv q1 v) (tv q2 v)) = true := by
        by_cases hle : tv q1 v ≤ tv q2 v
        · rw [Nat.max_eq_right hle]; exact t1
        · rw [Nat.max_eq_left (by omega)]; exact v3
      obtain ⟨r1, r2⟩ := ihr d m2 j hO5 g3 hj (fun k a1 a2 => hC k (by omega) a2) _ v4
      refine ⟨r1, ?_⟩
      rw [tq_O]
      generalize max (tv q1 v) (tv q2 v) = w2 at *
      by_cases hle : max (tq q1 v) (tq q2 v) ≤ tq r w2
      · rw [Nat.max_eq_right hle]
        rcases r2 with r2 | ⟨k, u, u1, u2, u3, u4, u5⟩
        · exact Or.inl r2
        · exact Or.inr ⟨k, u, by omega, u2, u3, u4, u5⟩
      · rw [Nat.max_eq_left (by omega)]
        by_cases hl2 : tq q1 v ≤ tq q2 v
        · rw [Nat.max_eq_right hl2]
          rcases t2 with t2 | ⟨k, u, u1, u2, u3, u4, u5⟩
          · exact Or.inl t2
          · exact Or.inr ⟨k, u, by omega, by omega, u3, u4, u5⟩
        · rw [Nat.max_eq_left (by omega)]
          rcases s2 with s2 | ⟨k, u, u1, u2, u3, u4, u5⟩
          · exact Or.inl s2
          · exact Or.inr ⟨k, u, by omega, by omega, u3, u4, u5⟩)
