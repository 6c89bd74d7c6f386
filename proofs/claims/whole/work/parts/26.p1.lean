-- recipes as trees (the library's Cond serves as the tree): end, a plain step, a try, an ok; each with what follows
abbrev pN : Cond := .tt
abbrev pL (k n : Nat) (r : Cond) : Cond := .or (.and (.count k) (.count n)) r
abbrev pT (n : Nat) (b r : Cond) : Cond := .and (.and (.count n) b) r
abbrev pO (a b r : Cond) : Cond := .and (.or a b) r
def pfold {α : Type} (z : α) (fL : Nat → Nat → α → α) (fT : Nat → α → α → α) (fO : α → α → α → α) : Cond → α
  | .or (.and (.count k) (.count n)) r => fL k n (pfold z fL fT fO r)
  | .and (.and (.count n) b) r => fT n (pfold z fL fT fO b) (pfold z fL fT fO r)
  | .and (.or a b) r => fO (pfold z fL fT fO a) (pfold z fL fT fO b) (pfold z fL fT fO r)
  | _ => z
section PF
variable {α : Type} (z : α) (fL : Nat → Nat → α → α) (fT : Nat → α → α → α) (fO : α → α → α → α)
theorem pf_N : pfold z fL fT fO pN = z := rfl
theorem pf_L (k n : Nat) (r : Cond) : pfold z fL fT fO (pL k n r) = fL k n (pfold z fL fT fO r) := rfl
theorem pf_T (n : Nat) (b r : Cond) : pfold z fL fT fO (pT n b r) = fT n (pfold z fL fT fO b) (pfold z fL fT fO r) := rfl
theorem pf_O (a b r : Cond) : pfold z fL fT fO (pO a b r) = fO (pfold z fL fT fO a) (pfold z fL fT fO b) (pfold z fL fT fO r) := rfl
end PF
/-- a tree of these kinds alone -/
def PG : Cond → Prop
  | .or (.and (.count _) (.count _)) r => PG r
  | .and (.and (.count _) b) r => PG b ∧ PG r
  | .and (.or a b) r => PG a ∧ PG b ∧ PG r
  | .tt => True
  | _ => False
theorem P_ind {m : Cond → Prop} (h0 : m pN) (hL : ∀ k n r, PG r → m r → m (pL k n r)) (hT : ∀ n b r, PG b → PG r → m b → m r → m (pT n b r)) (hO : ∀ a b r, PG a → PG b → PG r → m a → m b → m r → m (pO a b r)) : ∀ c, PG c → m c := by
  intro c
  have key : ∀ k (c : Cond), SizeOf.sizeOf c < k → PG c → m c := by
    intro k
    induction k with
    | zero => intro c h; omega
    | succ k ih =>
      intro c hk hc
      unfold PG at hc
      split at hc
      · rename_i a b r
        exact hL a b r hc (ih r (by simp at hk; omega) hc)
      · rename_i n b r
        exact hT n b r hc.1 hc.2 (ih b (by simp at hk; omega) hc.1) (ih r (by simp at hk; omega) hc.2)
      · rename_i a b r
        exact hO a b r hc.1 hc.2.1 hc.2.2 (ih a (by simp at hk; omega) hc.1) (ih b (by simp at hk; omega) hc.2.1) (ih r (by simp at hk; omega) hc.2.2)
      · exact h0
      · exact hc.elim
  exact key (SizeOf.sizeOf c + 1) c (by omega)
/-- one after the other -/
def papp : Cond → Cond → Cond
  | .or (.and (.count k) (.count n)) r, d => pL k n (papp r d)
  | .and (.and (.count n) b) r, d => pT n b (papp r d)
  | .and (.or a b) r, d => pO a b (papp r d)
  | _, d => d
theorem papp_N (d : Cond) : papp pN d = d := rfl
theorem papp_L (k n : Nat) (r d : Cond) : papp (pL k n r) d = pL k n (papp r d) := rfl
theorem papp_T (n : Nat) (b r d : Cond) : papp (pT n b r) d = pT n b (papp r d) := rfl
theorem papp_O (a b r d : Cond) : papp (pO a b r) d = pO a b (papp r d) := rfl
theorem papp_PG {d : Cond} (hd : PG d) : ∀ c, PG c → PG (papp c d) :=
  P_ind hd (fun k n r hr ih => ih) (fun n b r hb hr ihb ihr => ⟨hb, ihr⟩) (fun a b r ha hb hr iha ihb ihr => ⟨ha, hb, ihr⟩)
/-- the number of steps; the most pulses; the most steps worked -/
def psz : Cond → Nat := pfold 0 (fun _ _ r => 1 + r) (fun _ b r => 1 + b + r) (fun a b r => 1 + a + b + r)
def pP : Cond → Nat := pfold 0 (fun k n r => (if k = 1 then n else 0) + r) (fun n b r => n * b + r) (fun a b r => max a b + r)
def pW : Cond → Nat := pfold 0 (fun _ _ r => 1 + r) (fun n b r => 1 + n * b + r) (fun a b r => 1 + max a b + r)
theorem psz_app (d : Cond) : ∀ c, PG c → psz (papp c d) = psz c + psz d :=
  P_ind (by rw [papp_N]; simp [psz, pf_N]) (fun k n r hr ih => by rw [papp_L]; show 1 + psz (papp r d) = 1 + psz r + psz d; omega) (fun n b r hb hr ihb ihr => by rw [papp_T]; show 1 + psz b + psz (papp r d) = 1 + psz b + psz r + psz d; omega) (fun a b r ha hb hr iha ihb ihr => by rw [papp_O]; show 1 + psz a + psz b + psz (papp r d) = 1 + psz a + psz b + psz r + psz d; omega)
theorem pP_app (d : Cond) : ∀ c, PG c → pP (papp c d) = pP c + pP d :=
  P_ind (by rw [papp_N]; simp [pP, pf_N]) (fun k n r hr ih => by rw [papp_L]; show (if k = 1 then n else 0) + pP (papp r d) = (if k = 1 then n else 0) + pP r + pP d; omega) (fun n b r hb hr ihb ihr => by rw [papp_T]; show n * pP b + pP (papp r d) = n * pP b + pP r + pP d; omega) (fun a b r ha hb hr iha ihb ihr => by rw [papp_O]; show max (pP a) (pP b) + pP (papp r d) = max (pP a) (pP b) + pP r + pP d; omega)
theorem pW_app (d : Cond) : ∀ c, PG c → pW (papp c d) = pW c + pW d :=
  P_ind (by rw [papp_N]; simp [pW, pf_N]) (fun k n r hr ih => by rw [papp_L]; show 1 + pW (papp r d) = 1 + pW r + pW d; omega) (fun n b r hb hr ihb ihr => by rw [papp_T]; show 1 + n * pW b + pW (papp r d) = 1 + n * pW b + pW r + pW d; omega) (fun a b r ha hb hr iha ihb ihr => by rw [papp_O]; show 1 + max (pW a) (pW b) + pW (papp r d) = 1 + max (pW a) (pW b) + pW r + pW d; omega)
/-- the reference's orders, from b on in its rows, hold a tree between i and j -/
def MS (G : Nat → Nat → Int32) (b : Nat) : Cond → Nat → Nat → Prop := pfold (fun i j => i = j)
  (fun k n r i j => G 63 (b + i) = nI k ∧ G 64 (b + i) = nI n ∧ r (i + 1) j)
  (fun n q r i j => ∃ m, G 63 (b + i) = nI 3 ∧ G 64 (b + i) = nI n ∧ G 65 (b + i) = nI (m + 1) ∧ q (i + 1) m ∧ G 63 (b + m) = nI 4 ∧ G 65 (b + m) = nI i ∧ r (m + 1) j)
  (fun q1 q2 r i j => ∃ m1 m2, G 63 (b + i) = nI 5 ∧ G 65 (b + i) = nI (m1 + 1) ∧ q1 (i + 1) m1 ∧ G 63 (b + m1) = nI 6 ∧ G 65 (b + m1) = nI m2 ∧ q2 (m1 + 1) m2 ∧ r m2 j)
theorem MS_le {G : Nat → Nat → Int32} {b : Nat} : ∀ c, PG c → ∀ i j, MS G b c i j → i + psz c ≤ j ∧ j + psz c ≤ i + 3 * psz c :=
  P_ind (fun i j h => by have h : i = j := h; simp [psz, pf_N]; omega)
    (fun k n r hr ih i j h => by
      have h : _ ∧ _ ∧ MS G b r (i + 1) j := h
      have := ih _ _ h.2.2
      show i + (1 + psz r) ≤ j ∧ j + (1 + psz r) ≤ i + 3 * (1 + psz r)
      omega)
    (fun n q r hq hr ihq ihr i j h => by
      have h : ∃ m, _ ∧ _ ∧ _ ∧ MS G b q (i + 1) m ∧ _ ∧ _ ∧ MS G b r (m + 1) j := h
      obtain ⟨m, -, -, -, h1, -, -, h2⟩ := h
      have := ihq _ _ h1
      have := ihr _ _ h2
      show i + (1 + psz q + psz r) ≤ j ∧ j + (1 + psz q + psz r) ≤ i + 3 * (1 + psz q + psz r)
      omega)
    (fun q1 q2 r h1 h2 hr ih1 ih2 ihr i j h => by
      have h : ∃ m1 m2, _ ∧ _ ∧ MS G b q1 (i + 1) m1 ∧ _ ∧ _ ∧ MS G b q2 (m1 + 1) m2 ∧ MS G b r m2 j := h
      obtain ⟨m1, m2, -, -, g1, -, -, g2, g3⟩ := h
      have := ih1 _ _ g1
      have := ih2 _ _ g2
      have := ihr _ _ g3
      show i + (1 + psz q1 + psz q2 + psz r) ≤ j ∧ j + (1 + psz q1 + psz q2 + psz r) ≤ i + 3 * (1 + psz q1 + psz q2 + psz r)
      omega)
theorem MS_congr {G G' : Nat → Nat → Int32} {b b' : Nat} : ∀ c, PG c → ∀ i j, (∀ k, i ≤ k → k < j → G' 63 (b' + k) = G 63 (b + k) ∧ G' 64 (b' + k) = G 64 (b + k) ∧ G' 65 (b' + k) = G 65 (b + k)) → MS G b c i j → MS G' b' c i j :=
  P_ind (fun i j _ h => h)
    (fun k n r hr ih i j hc h => by
      have h : _ ∧ _ ∧ MS G b r (i + 1) j := h
      have := (MS_le r hr _ _ h.2.2).1
      have h0 := hc i (by omega) (by omega)
      exact ⟨h0.1.trans h.1, h0.2.1.trans h.2.1, ih _ _ (fun k a b => hc k (by omega) b) h.2.2⟩)
    (fun n q r hq hr ihq ihr i j hc h => by
      have h : ∃ m, _ ∧ _ ∧ _ ∧ MS G b q (i + 1) m ∧ _ ∧ _ ∧ MS G b r (m + 1) j := h
      obtain ⟨m, e1, e2, e3, h1, e4, e5, h2⟩ := h
      have := (MS_le q hq _ _ h1).1
      have := (MS_le r hr _ _ h2).1
      have h0 := hc i (by omega) (by omega)
      have hm := hc m (by omega) (by omega)
      exact ⟨m, h0.1.trans e1, h0.2.1.trans e2, h0.2.2.trans e3, ihq _ _ (fun k a b => hc k (by omega) (by omega)) h1, hm.1.trans e4, hm.2.2.trans e5, ihr _ _ (fun k a b => hc k (by omega) (by omega)) h2⟩)
    (fun q1 q2 r h1 h2 hr ih1 ih2 ihr i j hc h => by
      have h : ∃ m1 m2, _ ∧ _ ∧ MS G b q1 (i + 1) m1 ∧ _ ∧ _ ∧ MS G b q2 (m1 + 1) m2 ∧ MS G b r m2 j := h
      obtain ⟨m1, m2, e1, e2, g1, e3, e4, g2, g3⟩ := h
      have := (MS_le q1 h1 _ _ g1).1
      have := (MS_le q2 h2 _ _ g2).1
      have := (MS_le r hr _ _ g3).1
      have h0 := hc i (by omega) (by omega)
      have hm := hc m1 (by omega) (by omega)
      exact ⟨m1, m2, h0.1.trans e1, h0.2.2.trans e2, ih1 _ _ (fun k a b => hc k (by omega) (by omega)) g1, hm.1.trans e3, hm.2.2.trans e4, ih2 _ _ (fun k a b => hc k (by omega) (by omega)) g2, ihr _ _ (fun k a b => hc k (by omega) (by omega)) g3⟩)
theorem MS_app {G : Nat → Nat → Int32} {b : Nat} {d : Cond} : ∀ c, PG c → ∀ i m j, MS G b c i m → MS G b d m j → MS G b (papp c d) i j :=
  P_ind (fun i m j h hd => by have h : i = m := h; subst h; exact hd)
    (fun k n r hr ih i m j h hd => by
      have h : _ ∧ _ ∧ MS G b r (i + 1) m := h
      exact ⟨h.1, h.2.1, ih _ _ _ h.2.2 hd⟩)
    (fun n q r hq hr ihq ihr i m j h hd => by
      have h : ∃ m1, _ ∧ _ ∧ _ ∧ MS G b q (i + 1) m1 ∧ _ ∧ _ ∧ MS G b r (m1 + 1) m := h
      obtain ⟨m1, e1, e2, e3, h1, e4, e5, h2⟩ := h
      exact ⟨m1, e1, e2, e3, h1, e4, e5, ihr _ _ _ h2 hd⟩)
    (fun q1 q2 r h1 h2 hr ih1 ih2 ihr i m j h hd => by
      have h : ∃ m1 m2, _ ∧ _ ∧ MS G b q1 (i + 1) m1 ∧ _ ∧ _ ∧ MS G b q2 (m1 + 1) m2 ∧ MS G b r m2 m := h
      obtain ⟨m1, m2, e1, e2, g1, e3, e4, g2, g3⟩ := h
      exact ⟨m1, m2, e1, e2, g1, e3, e4, g2, ihr _ _ _ g3 hd⟩)
-- the reading of a recipe
abbrev Fr : Type := Cond × Nat × Nat × Cond
def pstep (t : Nat → Int32) (n p : Nat) (fs : List Fr) (cur : Cond) (e : Nat) : (Nat × Nat) ⊕ (Nat × List Fr × Cond × Nat) :=
  if tkC t n p = 4 then
    (match fs with
    | [] => .inl (1, tkQ t n p)
    | (acc, part, num, a) :: fs' =>
      if part = 0 then .inr (tkE t n p, fs', papp acc (pT num cur pN), e)
      else if part = 1 then
        (if tkC t n (tkE t n p) = 11 then (if tkC t n (tkE t n (tkE t n p)) = 3 then .inr (tkE t n (tkE t n (tkE t n p)), (acc, 2, 0, cur) :: fs', pN, e) else .inl (1, tkQ t n (tkE t n (tkE t n p)))) else .inl (1, tkQ t n (tkE t n p)))
      else .inr (tkE t n p, fs', papp acc (pO a cur pN), e))
  else if 6 ≤ tkC t n p ∧ tkC t n p ≤ 10 then
    (if e = 40 ∨ (8 < tkC t n p ∧ fs.length = 5) then .inl (3, tkQ t n p)
    else if tkC t n p = 8 then (if tkC t n (tkE t n p) = 2 then .inr (tkE t n (tkE t n p), fs, papp cur (pL 2 0 pN), e + 1) else .inl (1, tkQ t n (tkE t n p)))
    else if tkC t n p = 10 then (if tkC t n (tkE t n p) = 3 then .inr (tkE t n (tkE t n p), (cur, 1, 0, pN) :: fs, pN, e + 1) else .inl (1, tkQ t n (tkE t n p)))
    else if tkC t n (tkE t n p) = 1 then
      (if (tkC t n p = 6 ∧ dval t (tkQ t n (tkE t n p)) (tkE t n (tkE t n p) - tkQ t n (tkE t n p)) ≤ 30) ∨ (¬ tkC t n p = 6 ∧ 1 ≤ dval t (tkQ t n (tkE t n p)) (tkE t n (tkE t n p) - tkQ t n (tkE t n p)) ∧ dval t (tkQ t n (tkE t n p)) (tkE t n (tkE t n p) - tkQ t n (tkE t n p)) ≤ 50) then
        (if tkC t n p = 9 then (if tkC t n (tkE t n (tkE t n p)) = 3 then .inr (tkE t n (tkE t n (tkE t n p)), (cur, 0, dval t (tkQ t n (tkE t n p)) (tkE t n (tkE t n p) - tkQ t n (tkE t n p)), pN) :: fs, pN, e + 1) else .inl (1, tkQ t n (tkE t n (tkE t n p))))
        else (if tkC t n (tkE t n (tkE t n p)) = 2 then .inr (tkE t n (tkE t n (tkE t n p)), fs, papp cur (pL (tkC t n p - 6) (dval t (tkQ t n (tkE t n p)) (tkE t n (tkE t n p) - tkQ t n (tkE t n p))) pN), e + 1) else .inl (1, tkQ t n (tkE t n (tkE t n p)))))
      else .inl (2, tkQ t n (tkE t n p)))
    else .inl (1, tkQ t n (tkE t n p)))
  else .inl (1, tkQ t n p)
/-- the rest of a recipe: its fault, the place, the tree, its steps -/
def prs (t : Nat → Int32) (n : Nat) : Nat → Nat → List Fr → Cond → Nat → Nat × Nat × Cond × Nat
  | 0, _, _, cur, e => (1, 0, cur, e)
  | f + 1, p, fs, cur, e =>
    if tkC t n p = 0 then (match fs with | [] => (0, 0, cur, e) | _ => (1, tkQ t n p, cur, e))
    else (match pstep t n p fs cur e with
      | .inl r => (r.1, r.2, cur, e)
      | .inr s => prs t n f s.1 s.2.1 s.2.2.1 s.2.2.2)
def recS (t : Nat → Int32) (n : Nat) : Nat × Nat × Cond × Nat := if n ≤ 200 then prs t n (n + 1) 0 [] pN 0 else (1, 200, pN, 0)
theorem tkE_b {t : Nat → Int32} {n p : Nat} (hp : p ≤ n) : p ≤ tkE t n p ∧ tkE t n p ≤ n ∧ (tkC t n p ≠ 0 → p < tkE t n p) ∧ tkQ t n p ≤ n ∧ (tkC t n p = 1 → ∀ j, j < tkE t n p - tkQ t n p → isDg (t (tkQ t n p + j)) = true) := by
  have hq := rn_b (f := blk t) (n := n) (p := p) hp
  have hq' : rn (blk t) n p = tkQ t n p := rfl
  rw [hq'] at hq
  unfold tkE tkC
  by_cases hn : tkQ t n p < n
  · simp only [if_pos hn]
    by_cases hd : isDg (t (tkQ t n p)) = true
    · have hr := rn_b (f := tDg t) (n := n) (p := tkQ t n p) hq.2.1
      have hs := rn_s (f := tDg t) (n := n) (p := tkQ t n p) ⟨hn, hd⟩
      have hr2 := rn_b (f := tDg t) (n := n) (p := tkQ t n p + 1) (by omega)
      rw [← hs] at hr2
      simp only [hd, if_true]
      exact ⟨by omega, by omega, fun _ => by omega, by omega, fun _ j hj => hr.2.2.2 _ (by omega) (by omega)⟩
    · simp only [hd, Bool.false_eq_true, if_false]
      by_cases hl : isLt (t (tkQ t n p)) = true
      · have hs := rn_s (f := tLt t) (n := n) (p := tkQ t n p) ⟨hn, hl⟩
        have hr2 := rn_b (f := tLt t) (n := n) (p := tkQ t n p + 1) (by omega)
        rw [← hs] at hr2
        simp only [hl, if_true]
        refine ⟨by omega, by omega, fun _ => by omega, by omega, fun h1 => ?_⟩
        exfalso
        revert h1
        unfold wcode
        repeat' split
        all_goals decide
      · simp only [hl, Bool.false_eq_true, if_false]
        refine ⟨by omega, by omega, fun _ => by omega, by omega, fun h1 => ?_⟩
        exfalso
        revert h1
        repeat' split
        all_goals decide
  · simp only [if_neg hn]
    exact ⟨by omega, by omega, fun q => absurd rfl q, by omega, fun h1 => by cases h1⟩
