-- two works side by side, with the pulses that are left
section SB
variable {σ τ : Type} {P : σ → Nat → σ} {R : σ → Bool} {P2 : τ → Nat → τ} {R2 : τ → Bool} {Rl : σ → τ → Nat → Prop}
def Sq (Rl : σ → τ → Nat → Prop) (s : σ × Nat × Bool × Nat) (t : τ × Nat × Bool × Nat) : Prop := Rl s.1 t.1 t.2.2.2 ∧ s.2 = t.2
theorem pul_sq (hP : ∀ s t v n, Rl s t (n + 1) → Rl (P s v) (P2 t v) n) : ∀ n (s : σ × Nat × Bool × Nat) (t : τ × Nat × Bool × Nat), Sq Rl s t → Sq Rl (pul P n s) (pul P2 n t)
  | 0, _, _, h => h
  | n + 1, s, t, h => by
    show Sq Rl (if s.2.2.2 = 0 then s else _) (if t.2.2.2 = 0 then t else _)
    rw [h.2]
    by_cases h0 : t.2.2.2 = 0
    · rw [if_pos h0, if_pos h0]; exact h
    · rw [if_neg h0, if_neg h0]
      refine pul_sq hP n _ _ ⟨hP _ _ _ _ ?_, rfl⟩
      have := h.1
      rw [show t.2.2.2 - 1 + 1 = t.2.2.2 by omega]; exact this
theorem trs_sq {b : σ × Nat × Bool × Nat → σ × Nat × Bool × Nat} {b2 : τ × Nat × Bool × Nat → τ × Nat × Bool × Nat} (hb : ∀ s t, Sq Rl s t → Sq Rl (b s) (b2 t)) : ∀ n (s : σ × Nat × Bool × Nat) (t : τ × Nat × Bool × Nat), Sq Rl s t → Sq Rl (trs b n s) (trs b2 n t)
  | 0, _, _, h => h
  | n + 1, s, t, h => by
    show Sq Rl (if s.2.2.2 = 0 ∨ s.2.2.1 = true then s else _) (if t.2.2.2 = 0 ∨ t.2.2.1 = true then t else _)
    rw [h.2]
    by_cases h0 : t.2.2.2 = 0 ∨ t.2.2.1 = true
    · rw [if_pos h0, if_pos h0]; exact h
    · rw [if_neg h0, if_neg h0]
      exact trs_sq hb n _ _ (hb _ _ h)
theorem lfs_sq (hP : ∀ s t v n, Rl s t (n + 1) → Rl (P s v) (P2 t v) n) (hR : ∀ s t n, Rl s t n → R s = R2 t) (k n : Nat) (s : σ × Nat × Bool × Nat) (t : τ × Nat × Bool × Nat) (h : Sq Rl s t) : Sq Rl (lfs P R k n s) (lfs P2 R2 k n t) := by
  unfold lfs
  by_cases h0 : k = 0
  · rw [if_pos h0, if_pos h0, h.2]; exact ⟨h.1, rfl⟩
  · rw [if_neg h0, if_neg h0]
    by_cases h1 : k = 1
    · rw [if_pos h1, if_pos h1]; exact pul_sq hP n _ _ h
    · rw [if_neg h1, if_neg h1, h.2, hR _ _ _ h.1]; exact ⟨h.1, rfl⟩
theorem ex_sq (hP : ∀ s t v n, Rl s t (n + 1) → Rl (P s v) (P2 t v) n) (hR : ∀ s t n, Rl s t n → R s = R2 t) : ∀ c, PG c → ∀ (s : σ × Nat × Bool × Nat) (t : τ × Nat × Bool × Nat), Sq Rl s t → Sq Rl (ex P R c s) (ex P2 R2 c t) :=
  P_ind (fun s t h => h)
    (fun k n r hr ih s t h => by
      rw [ex_L, ex_L]
      have e : s.2.2.2 = t.2.2.2 := by rw [h.2]
      rw [e]
      by_cases h0 : t.2.2.2 = 0
      · rw [if_pos h0, if_pos h0]; exact h
      · rw [if_neg h0, if_neg h0]; exact ih _ _ (lfs_sq hP hR _ _ _ _ h))
    (fun n b r hb hr ihb ihr s t h => by
      rw [ex_T, ex_T]
      have e : s.2.2.2 = t.2.2.2 := by rw [h.2]
      rw [e]
      by_cases h0 : t.2.2.2 = 0
      · rw [if_pos h0, if_pos h0]; exact h
      · rw [if_neg h0, if_neg h0]; exact ihr _ _ (trs_sq ihb _ _ _ h))
    (fun a b r ha hb hr iha ihb ihr s t h => by
      rw [ex_O, ex_O]
      have e : s.2.2.2 = t.2.2.2 := by rw [h.2]
      have e2 : s.2.2.1 = t.2.2.1 := by rw [h.2]
      rw [e, e2]
      by_cases h0 : t.2.2.2 = 0
      · rw [if_pos h0, if_pos h0]; exact h
      · rw [if_neg h0, if_neg h0]
        by_cases h1 : t.2.2.1 = true
        · rw [if_pos h1, if_pos h1]; exact ihr _ _ (iha _ _ h)
        · rw [if_neg h1, if_neg h1]; exact ihr _ _ (ihb _ _ h))
end SB
theorem brn_sq {σ τ : Type} {P : Nat → σ → Nat → σ} {R : Nat → σ → Bool} {P2 : Nat → τ → Nat → τ} {R2 : Nat → τ → Bool} {Rl : σ → τ → Nat → Prop} {c : Cond} (hc : PG c) {s : σ × Nat} {t : τ × Nat} {n : Nat} (hP : ∀ k s t v m, k < n → Rl s t (m + 1) → Rl (P k s v) (P2 k t v) m) (hR : ∀ k s t m, k < n → Rl s t m → R k s = R2 k t) (h : Rl s.1 t.1 t.2 ∧ s.2 = t.2) : ∀ k, k ≤ n → Rl (brn P R c s k).1 (brn P2 R2 c t k).1 (brn P2 R2 c t k).2 ∧ (brn P R c s k).2 = (brn P2 R2 c t k).2
  | 0, _ => h
  | k + 1, hk => by
    have ih := brn_sq hc hP hR h k (by omega)
    unfold brn
    rw [hR k _ _ _ (by omega) ih.1]
    by_cases q : R2 k (brn P2 R2 c t k).1 = true
    · rw [if_pos q, if_pos q]; exact ih
    · rw [if_neg q, if_neg q]
      have := ex_sq (Rl := Rl) (fun s t v n => hP k s t v n (by omega)) (fun s t n => hR k s t n (by omega)) c hc ((brn P R c s k).1, 0, false, (brn P R c s k).2) ((brn P2 R2 c t k).1, 0, false, (brn P2 R2 c t k).2) ⟨ih.1, by simp only; rw [ih.2]⟩
      exact ⟨this.1, by simp only; rw [this.2]⟩
-- a pulse, cell by cell
def xPn (g : JH) (q a : Nat) (dd : Int32) : Int32 := if gi g (q + 7) a = dd then gi g (q + 6) a + 1 else 1
def xP2 (g : JH) (q a : Nat) (dd : Int32) : JH := si (si (si g q 16 (gi g q 16 + 1)) (q + 6) a (xPn g q a dd)) (q + 7) a dd
def mPn (g : JH) (i a : Nat) (dd : Int32) : Int32 := if gi g 58 (64 * i + a) = dd then gi g 57 (64 * i + a) + 1 else 1
def mP2 (g : JH) (i a : Nat) (dd : Int32) : JH := si (si (sl g 53 i (gl g 53 i + 1)) 57 (64 * i + a) (mPn g i a dd)) 58 (64 * i + a) dd
section PU
variable {g k : JH} {q i a : Nat} {dd v : Int32}
theorem xP_eq : xPulse g q a dd v = if gi g q 3 ≤ v then (if gi g (q + 5) a + gi g q 6 ≤ xPn g q a dd then si (if gi g (q + 5) a ≤ xPn g q a dd then si (xP2 g q a dd) (q + 3) a (gi g (q + 3) a &&& dd) else xP2 g q a dd) (q + 4) a (gi g (q + 4) a &&& dd) else (if gi g (q + 5) a ≤ xPn g q a dd then si (xP2 g q a dd) (q + 3) a (gi g (q + 3) a &&& dd) else xP2 g q a dd)) else si g q 16 (gi g q 16 + 1) := rfl
theorem mP_eq : mPulse g i a dd v = if gi g 47 i ≤ v then (if gi g 56 (64 * i + a) + gi g 50 i ≤ mPn g i a dd then si (if gi g 56 (64 * i + a) ≤ mPn g i a dd then si (mP2 g i a dd) 54 (64 * i + a) (gi g 54 (64 * i + a) &&& dd) else mP2 g i a dd) 55 (64 * i + a) (gi g 55 (64 * i + a) &&& dd) else (if gi g 56 (64 * i + a) ≤ mPn g i a dd then si (mP2 g i a dd) 54 (64 * i + a) (gi g 54 (64 * i + a) &&& dd) else mP2 g i a dd)) else sl g 53 i (gl g 53 i + 1) := rfl
theorem xP_gi (p b : Nat) : gi (xPulse g q a dd v) p b = if gi g q 3 ≤ v ∧ gi g (q + 5) a + gi g q 6 ≤ xPn g q a dd ∧ p = q + 4 ∧ b = a then gi g (q + 4) a &&& dd else if gi g q 3 ≤ v ∧ gi g (q + 5) a ≤ xPn g q a dd ∧ p = q + 3 ∧ b = a then gi g (q + 3) a &&& dd else if gi g q 3 ≤ v ∧ p = q + 7 ∧ b = a then dd else if gi g q 3 ≤ v ∧ p = q + 6 ∧ b = a then xPn g q a dd else if p = q ∧ b = 16 then gi g q 16 + 1 else gi g p b := by
  rw [xP_eq]
  by_cases c1 : gi g q 3 ≤ v <;> by_cases c2 : gi g (q + 5) a + gi g q 6 ≤ xPn g q a dd <;> by_cases c3 : gi g (q + 5) a ≤ xPn g q a dd <;> simp only [c1, c2, c3, if_true, if_false, true_and, false_and, gi_si, xP2]
theorem mP_gi (p b : Nat) : gi (mPulse g i a dd v) p b = if gi g 47 i ≤ v ∧ gi g 56 (64 * i + a) + gi g 50 i ≤ mPn g i a dd ∧ p = 55 ∧ b = 64 * i + a then gi g 55 (64 * i + a) &&& dd else if gi g 47 i ≤ v ∧ gi g 56 (64 * i + a) ≤ mPn g i a dd ∧ p = 54 ∧ b = 64 * i + a then gi g 54 (64 * i + a) &&& dd else if gi g 47 i ≤ v ∧ p = 58 ∧ b = 64 * i + a then dd else if gi g 47 i ≤ v ∧ p = 57 ∧ b = 64 * i + a then mPn g i a dd else gi g p b := by
  rw [mP_eq]
  by_cases c1 : gi g 47 i ≤ v <;> by_cases c2 : gi g 56 (64 * i + a) + gi g 50 i ≤ mPn g i a dd <;> by_cases c3 : gi g 56 (64 * i + a) ≤ mPn g i a dd <;> simp only [c1, c2, c3, if_true, if_false, true_and, false_and, gi_si, gi_sl, mP2]
theorem xP_s : (xPulse g q a dd v).2 = g.2 := by rw [xP_eq]; repeat' split
                                                 all_goals rfl
theorem mP_s : (mPulse g i a dd v).2 = (sl g 53 i (gl g 53 i + 1)).2 := by rw [mP_eq]; repeat' split
                                                                           all_goals rfl
/-- the two chips, and all else as it was -/
def BR (h0 k0 : JH) (q i s M : Nat) (g k : JH) (n : Nat) : Prop := pI q h0 g ∧ k.2.2 = k0.2.2 ∧ (∀ a b, ¬ (54 ≤ a ∧ a ≤ 58 ∧ a ≠ 56 ∧ 64 * i ≤ b ∧ b < 64 * i + 64) → gi k a b = gi k0 a b) ∧ (∀ a b, ¬ (a = 53 ∧ b = i) → gl k a b = gl k0 a b) ∧ (∀ a, a < 8 * s → gi g (q + 3) a = gi k 54 (64 * i + a) ∧ gi g (q + 4) a = gi k 55 (64 * i + a) ∧ gi g (q + 5) a = gi k 56 (64 * i + a) ∧ gi g (q + 6) a = gi k 57 (64 * i + a) ∧ gi g (q + 7) a = gi k 58 (64 * i + a) ∧ byt (gi k 54 (64 * i + a)) ∧ byt (gi k 55 (64 * i + a))) ∧ ∃ m, m + n ≤ M ∧ gi g q 16 = nI m ∧ gl k 53 i = lN m
theorem byt_and {c d : Int32} (hc : byt c) (hd : byt d) : byt (c &&& d) := by
  obtain ⟨y, hy, rfl⟩ := hd
  have e : nI y = nI y &&& 255 := by
    obtain ⟨k, hk, e⟩ := b255 (nI y)
    have : ∀ y : Fin 256, nI y.val = nI y.val &&& 255 := by decide +kernel
    exact this ⟨y, hy⟩
  rw [e, ← Int32.and_assoc]
  exact b255 _
theorem BR.step {h0 k0 : JH} {s M n : Nat} (hB : BR h0 k0 q i s M g k (n + 1)) (h3 : gi h0 q 3 = gi k0 47 i) (h6 : gi h0 q 6 = gi k0 50 i) (hs : s ≤ 8) (hq : 76 ≤ q) (ha : a < 8 * s) (hd : byt dd) : BR h0 k0 q i s M (xPulse g q a dd v) (mPulse k i a dd v) n := by
  obtain ⟨b1, b2, b3, b4, b5, m, m1, m2, m3⟩ := hB
  have e3 : gi g q 3 = gi k 47 i := by rw [b1.2 _ _ (by omega) (by omega), b3 _ _ (by omega)]; exact h3
  have e6 : gi g q 6 = gi k 50 i := by rw [b1.2 _ _ (by omega) (by omega), b3 _ _ (by omega)]; exact h6
  obtain ⟨z3, z4, z5, z6, z7, y3, y4⟩ := b5 a ha
  have en : xPn g q a dd = mPn k i a dd := by unfold xPn mPn; rw [z6, z7]
  have hms := mP_s (g := k) (i := i) (a := a) (dd := dd) (v := v)
  refine ⟨b1.pulse a dd v, ?_, fun p b hp => ?_, fun p b hp => ?_, fun a' ha' => ?_, m + 1, by omega, ?_, ?_⟩
  · show (mPulse k i a dd v).2.2 = _; rw [hms]; exact b2
  · rw [mP_gi, if_neg (by omega), if_neg (by omega), if_neg (by omega), if_neg (by omega)]; exact b3 p b hp
  · show (mPulse k i a dd v).2.1 p b = _
    rw [hms]
    show gl (sl k 53 i (gl k 53 i + 1)) p b = _
    rw [gl_sl, if_neg hp]; exact b4 p b hp
  · obtain ⟨w3, w4, w5, w6, w7, u3, u4⟩ := b5 a' ha'
    have E3 : gi (mPulse k i a dd v) 54 (64 * i + a') = if gi k 47 i ≤ v ∧ gi k 56 (64 * i + a) ≤ mPn k i a dd ∧ a' = a then gi k 54 (64 * i + a) &&& dd else gi k 54 (64 * i + a') := by
      rw [mP_gi, if_neg (by omega)]
      by_cases c : gi k 47 i ≤ v ∧ gi k 56 (64 * i + a) ≤ mPn k i a dd ∧ a' = a
      · rw [if_pos c, if_pos ⟨c.1, c.2.1, rfl, by omega⟩]
      · rw [if_neg c, if_neg (fun z => c ⟨z.1, z.2.1, by omega⟩), if_neg (by omega), if_neg (by omega)]
    have E4 : gi (mPulse k i a dd v) 55 (64 * i + a') = if gi k 47 i ≤ v ∧ gi k 56 (64 * i + a) + gi k 50 i ≤ mPn k i a dd ∧ a' = a then gi k 55 (64 * i + a) &&& dd else gi k 55 (64 * i + a') := by
      rw [mP_gi]
      by_cases c : gi k 47 i ≤ v ∧ gi k 56 (64 * i + a) + gi k 50 i ≤ mPn k i a dd ∧ a' = a
      · rw [if_pos c, if_pos ⟨c.1, c.2.1, rfl, by omega⟩]
      · rw [if_neg c, if_neg (fun z => c ⟨z.1, z.2.1, by omega⟩), if_neg (by omega), if_neg (by omega), if_neg (by omega)]
    have E5 : gi (mPulse k i a dd v) 56 (64 * i + a') = gi k 56 (64 * i + a') := by
      rw [mP_gi, if_neg (by omega), if_neg (by omega), if_neg (by omega), if_neg (by omega)]
    have E6 : gi (mPulse k i a dd v) 57 (64 * i + a') = if gi k 47 i ≤ v ∧ a' = a then mPn k i a dd else gi k 57 (64 * i + a') := by
      rw [mP_gi, if_neg (by omega), if_neg (by omega), if_neg (by omega)]
      by_cases c : gi k 47 i ≤ v ∧ a' = a
      · rw [if_pos c, if_pos ⟨c.1, rfl, by omega⟩]
      · rw [if_neg c, if_neg (fun z => c ⟨z.1, by omega⟩)]
    have E7 : gi (mPulse k i a dd v) 58 (64 * i + a') = if gi k 47 i ≤ v ∧ a' = a then dd else gi k 58 (64 * i + a') := by
      rw [mP_gi, if_neg (by omega), if_neg (by omega)]
      by_cases c : gi k 47 i ≤ v ∧ a' = a
      · rw [if_pos c, if_pos ⟨c.1, rfl, by omega⟩]
      · rw [if_neg c, if_neg (fun z => c ⟨z.1, by omega⟩), if_neg (by omega)]
    have F3 : gi (xPulse g q a dd v) (q + 3) a' = if gi k 47 i ≤ v ∧ gi k 56 (64 * i + a) ≤ mPn k i a dd ∧ a' = a then gi k 54 (64 * i + a) &&& dd else gi k 54 (64 * i + a') := by
      rw [xP_gi, e3, e6, en, z3, z4, z5, if_neg (by omega)]
      by_cases c : gi k 47 i ≤ v ∧ gi k 56 (64 * i + a) ≤ mPn k i a dd ∧ a' = a
      · rw [if_pos c, if_pos ⟨c.1, c.2.1, rfl, c.2.2⟩]
      · rw [if_neg c, if_neg (fun z => c ⟨z.1, z.2.1, z.2.2.2⟩), if_neg (by omega), if_neg (by omega), if_neg (by omega)]; exact w3
    have F4 : gi (xPulse g q a dd v) (q + 4) a' = if gi k 47 i ≤ v ∧ gi k 56 (64 * i + a) + gi k 50 i ≤ mPn k i a dd ∧ a' = a then gi k 55 (64 * i + a) &&& dd else gi k 55 (64 * i + a') := by
      rw [xP_gi, e3, e6, en, z3, z4, z5]
      by_cases c : gi k 47 i ≤ v ∧ gi k 56 (64 * i + a) + gi k 50 i ≤ mPn k i a dd ∧ a' = a
      · rw [if_pos c, if_pos ⟨c.1, c.2.1, rfl, c.2.2⟩]
      · rw [if_neg c, if_neg (fun z => c ⟨z.1, z.2.1, z.2.2.2⟩), if_neg (by omega), if_neg (by omega), if_neg (by omega), if_neg (by omega)]; exact w4
    have F5 : gi (xPulse g q a dd v) (q + 5) a' = gi k 56 (64 * i + a') := by
      rw [xP_gi, if_neg (by omega), if_neg (by omega), if_neg (by omega), if_neg (by omega), if_neg (by omega)]; exact w5
    have F6 : gi (xPulse g q a dd v) (q + 6) a' = if gi k 47 i ≤ v ∧ a' = a then mPn k i a dd else gi k 57 (64 * i + a') := by
      rw [xP_gi, e3, e6, en, z3, z4, z5, if_neg (by omega), if_neg (by omega), if_neg (by omega)]
      by_cases c : gi k 47 i ≤ v ∧ a' = a
      · rw [if_pos c, if_pos ⟨c.1, rfl, c.2⟩]
      · rw [if_neg c, if_neg (fun z => c ⟨z.1, z.2.2⟩), if_neg (by omega)]; exact w6
    have F7 : gi (xPulse g q a dd v) (q + 7) a' = if gi k 47 i ≤ v ∧ a' = a then dd else gi k 58 (64 * i + a') := by
      rw [xP_gi, e3, e6, en, z3, z4, z5, if_neg (by omega), if_neg (by omega)]
      by_cases c : gi k 47 i ≤ v ∧ a' = a
      · rw [if_pos c, if_pos ⟨c.1, rfl, c.2⟩]
      · rw [if_neg c, if_neg (fun z => c ⟨z.1, z.2.2⟩), if_neg (by omega), if_neg (by omega)]; exact w7
    refine ⟨F3.trans E3.symm, F4.trans E4.symm, F5.trans E5.symm, F6.trans E6.symm, F7.trans E7.symm, ?_, ?_⟩
    · rw [E3]; split
      · exact byt_and y3 hd
      · exact u3
    · rw [E4]; split
      · exact byt_and y4 hd
      · exact u4
  · rw [xP_gi, if_neg (by omega), if_neg (by omega), if_neg (by omega), if_neg (by omega), if_pos ⟨rfl, rfl⟩, m2, nI_1]
  · show (mPulse k i a dd v).2.1 53 i = _
    rw [hms]
    show gl (sl k 53 i (gl k 53 i + 1)) 53 i = _
    rw [gl_sl, if_pos ⟨rfl, rfl⟩, m3, lN_1]
end PU
