-- a recipe at work on a byte: what is pulsed and what is tested are given; the state is (what is pulsed, volts, verified, pulses left)
section EX
variable {σ τ : Type}
def pul (P : σ → Nat → σ) : Nat → σ × Nat × Bool × Nat → σ × Nat × Bool × Nat
  | 0, s => s
  | n + 1, s => if s.2.2.2 = 0 then s else pul P n (P s.1 s.2.1, s.2.1, s.2.2.1, s.2.2.2 - 1)
def trs (b : σ × Nat × Bool × Nat → σ × Nat × Bool × Nat) : Nat → σ × Nat × Bool × Nat → σ × Nat × Bool × Nat
  | 0, s => s
  | n + 1, s => if s.2.2.2 = 0 ∨ s.2.2.1 = true then s else trs b n (b s)
def lfs (P : σ → Nat → σ) (R : σ → Bool) (k n : Nat) (s : σ × Nat × Bool × Nat) : σ × Nat × Bool × Nat := if k = 0 then (s.1, n, s.2.2.1, s.2.2.2) else if k = 1 then pul P n s else (s.1, s.2.1, R s.1, s.2.2.2)
def ex (P : σ → Nat → σ) (R : σ → Bool) : Cond → σ × Nat × Bool × Nat → σ × Nat × Bool × Nat := pfold (fun s => s)
  (fun k n r s => if s.2.2.2 = 0 then s else r (lfs P R k n s))
  (fun n b r s => if s.2.2.2 = 0 then s else r (trs b n s))
  (fun a b r s => if s.2.2.2 = 0 then s else r (if s.2.2.1 = true then a s else b s))
variable {P : σ → Nat → σ} {R : σ → Bool}
theorem ex_N (s : σ × Nat × Bool × Nat) : ex P R pN s = s := rfl
theorem ex_L (k n : Nat) (r : Cond) (s : σ × Nat × Bool × Nat) : ex P R (pL k n r) s = if s.2.2.2 = 0 then s else ex P R r (lfs P R k n s) := rfl
theorem ex_T (n : Nat) (b r : Cond) (s : σ × Nat × Bool × Nat) : ex P R (pT n b r) s = if s.2.2.2 = 0 then s else ex P R r (trs (ex P R b) n s) := rfl
theorem ex_O (a b r : Cond) (s : σ × Nat × Bool × Nat) : ex P R (pO a b r) s = if s.2.2.2 = 0 then s else ex P R r (if s.2.2.1 = true then ex P R a s else ex P R b s) := rfl
theorem ex_0 : ∀ c, PG c → ∀ s : σ × Nat × Bool × Nat, s.2.2.2 = 0 → ex P R c s = s :=
  P_ind (fun s _ => rfl) (fun k n r _ _ s h => by rw [ex_L, if_pos h]) (fun n b r _ _ _ _ s h => by rw [ex_T, if_pos h]) (fun a b r _ _ _ _ _ _ s h => by rw [ex_O, if_pos h])
theorem pul_0 (n : Nat) (s : σ × Nat × Bool × Nat) (h : s.2.2.2 = 0) : pul P n s = s := by
  cases n with
  | zero => rfl
  | succ n => show (if s.2.2.2 = 0 then s else _) = s; rw [if_pos h]
theorem trs_0 (b : σ × Nat × Bool × Nat → σ × Nat × Bool × Nat) (n : Nat) (s : σ × Nat × Bool × Nat) (h : s.2.2.2 = 0 ∨ s.2.2.1 = true) : trs b n s = s := by
  cases n with
  | zero => rfl
  | succ n => show (if s.2.2.2 = 0 ∨ s.2.2.1 = true then s else _) = s; rw [if_pos h]
/-- two of them side by side -/
def Sm (Rl : σ → τ → Prop) (s : σ × Nat × Bool × Nat) (t : τ × Nat × Bool × Nat) : Prop := Rl s.1 t.1 ∧ s.2 = t.2
variable {P2 : τ → Nat → τ} {R2 : τ → Bool} {Rl : σ → τ → Prop}
theorem pul_sim (hP : ∀ s t v, Rl s t → Rl (P s v) (P2 t v)) : ∀ n (s : σ × Nat × Bool × Nat) (t : τ × Nat × Bool × Nat), Sm Rl s t → Sm Rl (pul P n s) (pul P2 n t)
  | 0, _, _, h => h
  | n + 1, s, t, h => by
    show Sm Rl (if s.2.2.2 = 0 then s else _) (if t.2.2.2 = 0 then t else _)
    rw [h.2]
    by_cases h0 : t.2.2.2 = 0
    · rw [if_pos h0, if_pos h0]; exact h
    · rw [if_neg h0, if_neg h0]
      exact pul_sim hP n _ _ ⟨hP _ _ _ h.1, rfl⟩
theorem trs_sim {b : σ × Nat × Bool × Nat → σ × Nat × Bool × Nat} {b2 : τ × Nat × Bool × Nat → τ × Nat × Bool × Nat} (hb : ∀ s t, Sm Rl s t → Sm Rl (b s) (b2 t)) : ∀ n (s : σ × Nat × Bool × Nat) (t : τ × Nat × Bool × Nat), Sm Rl s t → Sm Rl (trs b n s) (trs b2 n t)
  | 0, _, _, h => h
  | n + 1, s, t, h => by
    show Sm Rl (if s.2.2.2 = 0 ∨ s.2.2.1 = true then s else _) (if t.2.2.2 = 0 ∨ t.2.2.1 = true then t else _)
    rw [h.2]
    by_cases h0 : t.2.2.2 = 0 ∨ t.2.2.1 = true
    · rw [if_pos h0, if_pos h0]; exact h
    · rw [if_neg h0, if_neg h0]
      exact trs_sim hb n _ _ (hb _ _ h)
theorem lfs_sim (hP : ∀ s t v, Rl s t → Rl (P s v) (P2 t v)) (hR : ∀ s t, Rl s t → R s = R2 t) (k n : Nat) (s : σ × Nat × Bool × Nat) (t : τ × Nat × Bool × Nat) (h : Sm Rl s t) : Sm Rl (lfs P R k n s) (lfs P2 R2 k n t) := by
  unfold lfs
  by_cases h0 : k = 0
  · rw [if_pos h0, if_pos h0, h.2]; exact ⟨h.1, rfl⟩
  · rw [if_neg h0, if_neg h0]
    by_cases h1 : k = 1
    · rw [if_pos h1, if_pos h1]; exact pul_sim hP n _ _ h
    · rw [if_neg h1, if_neg h1, h.2, hR _ _ h.1]; exact ⟨h.1, rfl⟩
theorem ex_sim (hP : ∀ s t v, Rl s t → Rl (P s v) (P2 t v)) (hR : ∀ s t, Rl s t → R s = R2 t) : ∀ c, PG c → ∀ (s : σ × Nat × Bool × Nat) (t : τ × Nat × Bool × Nat), Sm Rl s t → Sm Rl (ex P R c s) (ex P2 R2 c t) :=
  P_ind (fun s t h => h)
    (fun k n r hr ih s t h => by
      rw [ex_L, ex_L]
      have e : s.2.2.2 = t.2.2.2 := by rw [h.2]
      rw [e]
      by_cases h0 : t.2.2.2 = 0
      · rw [if_pos h0, if_pos h0]; exact h
      · rw [if_neg h0, if_neg h0]; exact ih _ _ (lfs_sim hP hR _ _ _ _ h))
    (fun n b r hb hr ihb ihr s t h => by
      rw [ex_T, ex_T]
      have e : s.2.2.2 = t.2.2.2 := by rw [h.2]
      rw [e]
      by_cases h0 : t.2.2.2 = 0
      · rw [if_pos h0, if_pos h0]; exact h
      · rw [if_neg h0, if_neg h0]; exact ihr _ _ (trs_sim ihb _ _ _ h))
    (fun a b r ha hb hr iha ihb ihr s t h => by
      rw [ex_O, ex_O]
      have e : s.2.2.2 = t.2.2.2 := by rw [h.2]
      have e2 : s.2.2.1 = t.2.2.1 := by rw [h.2]
      rw [e, e2]
      by_cases h0 : t.2.2.2 = 0
      · rw [if_pos h0, if_pos h0]; exact h
      · rw [if_neg h0, if_neg h0]
        by_cases h1 : t.2.2.1 = true
        · rw [if_pos h1, if_pos h1]; exact ihr _ _ (iha _ _ h)
        · rw [if_neg h1, if_neg h1]; exact ihr _ _ (ihb _ _ h))
/-- what a pulse keeps, with the pulses that were left, the work keeps -/
def Kp (I : σ → Prop) (L : Nat) (s : σ × Nat × Bool × Nat) : Prop := I s.1 ∧ s.2.2.2 ≤ L
variable {I : σ → Prop} {L : Nat}
theorem pul_kp (hP : ∀ s v, I s → I (P s v)) : ∀ n (s : σ × Nat × Bool × Nat), Kp I L s → Kp I L (pul P n s)
  | 0, _, h => h
  | n + 1, s, h => by
    show Kp I L (if s.2.2.2 = 0 then s else _)
    by_cases h0 : s.2.2.2 = 0
    · rw [if_pos h0]; exact h
    · rw [if_neg h0]
      exact pul_kp hP n _ ⟨hP _ _ h.1, by have := h.2; simp only; omega⟩
theorem trs_kp {b : σ × Nat × Bool × Nat → σ × Nat × Bool × Nat} (hb : ∀ s, Kp I L s → Kp I L (b s)) : ∀ n (s : σ × Nat × Bool × Nat), Kp I L s → Kp I L (trs b n s)
  | 0, _, h => h
  | n + 1, s, h => by
    show Kp I L (if s.2.2.2 = 0 ∨ s.2.2.1 = true then s else _)
    by_cases h0 : s.2.2.2 = 0 ∨ s.2.2.1 = true
    · rw [if_pos h0]; exact h
    · rw [if_neg h0]; exact trs_kp hb n _ (hb _ h)
theorem lfs_kp (hP : ∀ s v, I s → I (P s v)) (k n : Nat) (s : σ × Nat × Bool × Nat) (h : Kp I L s) : Kp I L (lfs P R k n s) := by
  unfold lfs
  by_cases h0 : k = 0
  · rw [if_pos h0]; exact h
  · rw [if_neg h0]
    by_cases h1 : k = 1
    · rw [if_pos h1]; exact pul_kp hP n _ h
    · rw [if_neg h1]; exact h
theorem ex_kp (hP : ∀ s v, I s → I (P s v)) : ∀ c, PG c → ∀ (s : σ × Nat × Bool × Nat), Kp I L s → Kp I L (ex P R c s) :=
  P_ind (fun s h => h)
    (fun k n r hr ih s h => by
      rw [ex_L]
      by_cases h0 : s.2.2.2 = 0
      · rw [if_pos h0]; exact h
      · rw [if_neg h0]; exact ih _ (lfs_kp hP _ _ _ h))
    (fun n b r hb hr ihb ihr s h => by
      rw [ex_T]
      by_cases h0 : s.2.2.2 = 0
      · rw [if_pos h0]; exact h
      · rw [if_neg h0]; exact ihr _ (trs_kp ihb _ _ h))
    (fun a b r ha hb hr iha ihb ihr s h => by
      rw [ex_O]
      by_cases h0 : s.2.2.2 = 0
      · rw [if_pos h0]; exact h
      · rw [if_neg h0]
        by_cases h1 : s.2.2.1 = true
        · rw [if_pos h1]; exact ihr _ (iha _ h)
        · rw [if_neg h1]; exact ihr _ (ihb _ h))
/-- one byte after the other -/
def brn (P : Nat → σ → Nat → σ) (R : Nat → σ → Bool) (c : Cond) (s : σ × Nat) : Nat → σ × Nat
  | 0 => s
  | k + 1 => if R k (brn P R c s k).1 = true then brn P R c s k else ((ex (P k) (R k) c ((brn P R c s k).1, 0, false, (brn P R c s k).2)).1, (ex (P k) (R k) c ((brn P R c s k).1, 0, false, (brn P R c s k).2)).2.2.2)
end EX
theorem brn_sim {σ τ : Type} {P : Nat → σ → Nat → σ} {R : Nat → σ → Bool} {P2 : Nat → τ → Nat → τ} {R2 : Nat → τ → Bool} {Rl : σ → τ → Prop} {c : Cond} (hc : PG c) {s : σ × Nat} {t : τ × Nat} {n : Nat} (hP : ∀ k s t v, k < n → Rl s t → Rl (P k s v) (P2 k t v)) (hR : ∀ k s t, k < n → Rl s t → R k s = R2 k t) (h : Rl s.1 t.1 ∧ s.2 = t.2) : ∀ k, k ≤ n → Rl (brn P R c s k).1 (brn P2 R2 c t k).1 ∧ (brn P R c s k).2 = (brn P2 R2 c t k).2
  | 0, _ => h
  | k + 1, hk => by
    have ih := brn_sim hc hP hR h k (by omega)
    unfold brn
    rw [hR k _ _ (by omega) ih.1]
    by_cases q : R2 k (brn P2 R2 c t k).1 = true
    · rw [if_pos q, if_pos q]; exact ih
    · rw [if_neg q, if_neg q]
      have := ex_sim (Rl := Rl) (fun s t v => hP k s t v (by omega)) (fun s t => hR k s t (by omega)) c hc ((brn P R c s k).1, 0, false, (brn P R c s k).2) ((brn P2 R2 c t k).1, 0, false, (brn P2 R2 c t k).2) ⟨ih.1, by simp only; rw [ih.2]⟩
      exact ⟨this.1, by simp only; rw [this.2]⟩
theorem brn_kp {σ : Type} {P : Nat → σ → Nat → σ} {R : Nat → σ → Bool} {I : σ → Prop} {c : Cond} (hc : PG c) {s : σ × Nat} {n : Nat} (hP : ∀ k s v, k < n → I s → I (P k s v)) (h : I s.1) : ∀ k, k ≤ n → I (brn P R c s k).1 ∧ (brn P R c s k).2 ≤ s.2
  | 0, _ => ⟨h, Nat.le_refl _⟩
  | k + 1, hk => by
    have ih := brn_kp (R := R) hc hP h k (by omega)
    unfold brn
    by_cases q : R k (brn P R c s k).1 = true
    · rw [if_pos q]; exact ih
    · rw [if_neg q]
      exact ex_kp (R := R k) (I := I) (L := s.2) (fun s v => hP k s v (by omega)) c hc ((brn P R c s k).1, 0, false, (brn P R c s k).2) ⟨ih.1, ih.2⟩
theorem brn_s {σ : Type} (P : Nat → σ → Nat → σ) (R : Nat → σ → Bool) (c : Cond) (s : σ × Nat) (k : Nat) : brn P R c s (k + 1) = if R k (brn P R c s k).1 = true then brn P R c s k else ((ex (P k) (R k) c ((brn P R c s k).1, 0, false, (brn P R c s k).2)).1, (ex (P k) (R k) c ((brn P R c s k).1, 0, false, (brn P R c s k).2)).2.2.2) := rfl
theorem brn_0 {σ : Type} {P : Nat → σ → Nat → σ} {R : Nat → σ → Bool} {c : Cond} (hc : PG c) {s : σ × Nat} {k : Nat} (h : (brn P R c s k).2 = 0) : ∀ j, brn P R c s (k + j) = brn P R c s k
  | 0 => rfl
  | j + 1 => by
    have ih := brn_0 hc h j
    show brn P R c s (k + j + 1) = _
    rw [brn_s, ih]
    by_cases q : R (k + j) (brn P R c s k).1 = true
    · rw [if_pos q]
    · rw [if_neg q, ex_0 c hc _ h]
