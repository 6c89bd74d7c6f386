-- the volts of a recipe on all ways
def tvq : Cond → Nat → Nat × Nat := pfold (fun v => (v, 0)) (fun k n r v => ((r (if k = 0 then n else v)).1, max (if k = 1 then v + 1 else 0) (r (if k = 0 then n else v)).2))
  (fun n b r v => ((r (max v (b v).1)).1, max (b (if n ≤ 1 then v else max v (b v).1)).2 (r (max v (b v).1)).2))
  (fun a b r v => ((r (max (a v).1 (b v).1)).1, max (max (a v).2 (b v).2) (r (max (a v).1 (b v).1)).2))
/-- the most volts behind; the most at a pulse, and one more -/
def tv (c : Cond) (v : Nat) : Nat := (tvq c v).1
def tq (c : Cond) (v : Nat) : Nat := (tvq c v).2
theorem tv_N (v : Nat) : tv pN v = v := rfl
theorem tq_N (v : Nat) : tq pN v = 0 := rfl
theorem tv_L (k n : Nat) (r : Cond) (v : Nat) : tv (pL k n r) v = tv r (if k = 0 then n else v) := rfl
theorem tq_L (k n : Nat) (r : Cond) (v : Nat) : tq (pL k n r) v = max (if k = 1 then v + 1 else 0) (tq r (if k = 0 then n else v)) := rfl
theorem tv_T (n : Nat) (b r : Cond) (v : Nat) : tv (pT n b r) v = tv r (max v (tv b v)) := rfl
theorem tq_T (n : Nat) (b r : Cond) (v : Nat) : tq (pT n b r) v = max (tq b (if n ≤ 1 then v else max v (tv b v))) (tq r (max v (tv b v))) := rfl
theorem tv_O (a b r : Cond) (v : Nat) : tv (pO a b r) v = tv r (max (tv a v) (tv b v)) := rfl
theorem tq_O (a b r : Cond) (v : Nat) : tq (pO a b r) v = max (max (tq a v) (tq b v)) (tq r (max (tv a v) (tv b v))) := rfl
theorem tv_or : ∀ c, PG c → (∃ K, ∀ v, tv c v = K) ∨ (∃ K, ∀ v, tv c v = max v K) :=
  P_ind (Or.inr ⟨0, fun v => by rw [tv_N]; omega⟩)
    (fun k n r hr ih => by
      by_cases hk : k = 0
      · exact Or.inl ⟨tv r n, fun v => by rw [tv_L, if_pos hk]⟩
      · rcases ih with ⟨K, h⟩ | ⟨K, h⟩
        · exact Or.inl ⟨K, fun v => by rw [tv_L, if_neg hk, h]⟩
        · exact Or.inr ⟨K, fun v => by rw [tv_L, if_neg hk, h]⟩)
    (fun n b r hb hr ihb ihr => by
      rcases ihr with ⟨K, h⟩ | ⟨K, h⟩
      · exact Or.inl ⟨K, fun v => by rw [tv_T, h]⟩
      · rcases ihb with ⟨L, h2⟩ | ⟨L, h2⟩
        · exact Or.inr ⟨max L K, fun v => by rw [tv_T, h, h2]; omega⟩
        · exact Or.inr ⟨max L K, fun v => by rw [tv_T, h, h2]; omega⟩)
    (fun a b r ha hb hr iha ihb ihr => by
      rcases ihr with ⟨K, h⟩ | ⟨K, h⟩
      · exact Or.inl ⟨K, fun v => by rw [tv_O, h]⟩
      · rcases iha with ⟨A, h1⟩ | ⟨A, h1⟩ <;> rcases ihb with ⟨B, h2⟩ | ⟨B, h2⟩
        · exact Or.inl ⟨max (max A B) K, fun v => by rw [tv_O, h, h1, h2]⟩
        all_goals exact Or.inr ⟨max (max A B) K, fun v => by rw [tv_O, h, h1, h2]; omega⟩)
theorem tv_mono {c : Cond} (hc : PG c) {v w : Nat} (h : v ≤ w) : tv c v ≤ tv c w := by
  rcases tv_or c hc with ⟨K, q⟩ | ⟨K, q⟩
  · rw [q, q]; omega
  · rw [q, q]; omega
theorem tv_idem {c : Cond} (hc : PG c) (v : Nat) : tv c (max v (tv c v)) ≤ max v (tv c v) := by
  rcases tv_or c hc with ⟨K, q⟩ | ⟨K, q⟩
  · simp only [q]; omega
  · simp only [q]; omega
theorem tq_mono : ∀ c, PG c → ∀ v w, v ≤ w → tq c v ≤ tq c w :=
  P_ind (fun v w h => by rw [tq_N, tq_N]; omega)
    (fun k n r hr ih v w h => by
      rw [tq_L, tq_L]
      have := ih (if k = 0 then n else v) (if k = 0 then n else w) (by split <;> omega)
      by_cases hk : k = 1
      · rw [if_pos hk, if_pos hk]; omega
      · rw [if_neg hk, if_neg hk]; omega)
    (fun n b r hb hr ihb ihr v w h => by
      rw [tq_T, tq_T]
      have h1 := tv_mono hb h
      have h2 := ihr (max v (tv b v)) (max w (tv b w)) (by omega)
      have h3 := ihb (if n ≤ 1 then v else max v (tv b v)) (if n ≤ 1 then w else max w (tv b w)) (by split <;> omega)
      omega)
    (fun a b r ha hb hr iha ihb ihr v w h => by
      rw [tq_O, tq_O]
      have h1 := tv_mono ha h
      have h2 := tv_mono hb h
      have h3 := iha v w h
      have h4 := ihb v w h
      have h5 := ihr (max (tv a v) (tv b v)) (max (tv a w) (tv b w)) (by omega)
      omega)
/-- the numbers of a tree lie in their bounds, and so does its depth -/
def POK : Cond → Nat → Prop := pfold (fun _ => True) (fun k n r d => ((k = 0 ∧ n ≤ 30) ∨ (k = 1 ∧ 1 ≤ n ∧ n ≤ 50) ∨ (k = 2 ∧ n = 0)) ∧ r d) (fun n b r d => (1 ≤ n ∧ n ≤ 50) ∧ 0 < d ∧ b (d - 1) ∧ r d) (fun a b r d => 0 < d ∧ a (d - 1) ∧ b (d - 1) ∧ r d)
theorem POK_app {d : Cond} {k : Nat} (hd : POK d k) : ∀ c, PG c → POK c k → POK (papp c d) k :=
  P_ind (fun _ => hd) (fun _ _ r _ ih h => ⟨h.1, ih h.2⟩) (fun _ b r _ _ _ ih h => ⟨h.1, h.2.1, h.2.2.1, ih h.2.2.2⟩) (fun a b r _ _ _ _ _ ih h => ⟨h.1, h.2.1, h.2.2.1, ih h.2.2.2⟩)
def FOK : List Fr → Prop
  | [] => True
  | (acc, part, num, a) :: fs => FOK fs ∧ PG acc ∧ PG a ∧ POK acc (5 - fs.length) ∧ POK a (5 - fs.length - 1) ∧ fs.length < 5 ∧ part ≤ 2 ∧ (part = 0 → 1 ≤ num ∧ num ≤ 50)
def fsz : List Fr → Nat
  | [] => 0
  | (acc, part, _, a) :: fs => psz acc + 1 + (if part = 2 then psz a else 0) + fsz fs
theorem pstep_ok {t : Nat → Int32} {n p e : Nat} {fs : List Fr} {cur : Cond} {s : Nat × List Fr × Cond × Nat} (h : pstep t n p fs cur e = .inr s) (hF : FOK fs) (hc : PG cur) (hk : POK cur (5 - fs.length)) (hl : fs.length ≤ 5) (he : e ≤ 40) (hz : fsz fs + psz cur = e) : FOK s.2.1 ∧ PG s.2.2.1 ∧ POK s.2.2.1 (5 - s.2.1.length) ∧ s.2.1.length ≤ 5 ∧ s.2.2.2 ≤ 40 ∧ fsz s.2.1 + psz s.2.2.1 = s.2.2.2 := by
  unfold pstep at h
  split at h
  · split at h
    · cases h
    · rename_i acc part num a fs'
      obtain ⟨f1, f2, f3, f4, f5, f6, f8, f7⟩ := hF
      have e1 : (5 : Nat) - (fs'.length + 1) = 5 - fs'.length - 1 := by omega
      simp only [List.length_cons, e1] at hk hl
      have hz : psz acc + 1 + (if part = 2 then psz a else 0) + fsz fs' + psz cur = e := hz
      split at h
      · rename_i hp0
        cases h
        refine ⟨f1, papp_PG (d := pT num cur pN) ⟨hc, trivial⟩ acc f2, POK_app (d := pT num cur pN) ⟨f7 hp0, by omega, hk, trivial⟩ acc f2 f4, by simp only; omega, he, ?_⟩
        simp only
        rw [psz_app _ acc f2]
        show fsz fs' + (psz acc + (1 + psz cur + 0)) = e
        rw [if_neg (by omega)] at hz
        omega
      · split at h
        · rename_i hp0 hp1
          split at h
          · split at h
            · cases h
              refine ⟨⟨f1, f2, hc, f4, hk, f6, by omega, fun q => by omega⟩, trivial, trivial, by simp; omega, he, ?_⟩
              rw [if_neg (by omega)] at hz
              show psz acc + 1 + (if (2 : Nat) = 2 then psz cur else 0) + fsz fs' + 0 = e
              rw [if_pos rfl]
              omega
            · cases h
          · cases h
        · rename_i hp0 hp1
          cases h
          refine ⟨f1, papp_PG (d := pO a cur pN) ⟨f3, hc, trivial⟩ acc f2, POK_app (d := pO a cur pN) ⟨by omega, f5, hk, trivial⟩ acc f2 f4, by simp only; omega, he, ?_⟩
          simp only
          rw [psz_app _ acc f2]
          show fsz fs' + (psz acc + (1 + psz a + psz cur + 0)) = e
          rw [if_pos (by omega)] at hz
          omega
  · split at h
    · rename_i hC4 hC
      split at h
      · cases h
      · rename_i hb
        have hcut : ¬ (e = 40) ∧ ¬ (8 < tkC t n p ∧ fs.length = 5) := ⟨fun q => hb (Or.inl q), fun q => hb (Or.inr q)⟩
        split at h
        · split at h
          · cases h
            refine ⟨hF, papp_PG (d := pL 2 0 pN) trivial cur hc, POK_app (d := pL 2 0 pN) ⟨Or.inr (Or.inr ⟨rfl, rfl⟩), trivial⟩ cur hc hk, hl, by simp only; omega, ?_⟩
            simp only
            rw [psz_app _ cur hc]
            show fsz fs + (psz cur + (1 + 0)) = e + 1
            omega
          · cases h
        · split at h
          · split at h
            · cases h
              refine ⟨⟨hF, hc, trivial, hk, trivial, by omega, by omega, fun q => by omega⟩, trivial, trivial, by simp; omega, by simp only; omega, ?_⟩
              show psz cur + 1 + (if (1 : Nat) = 2 then 0 else 0) + fsz fs + 0 = e + 1
              rw [if_neg (by omega)]
              omega
            · cases h
          · split at h
            · split at h
              · rename_i hr
                split at h
                · rename_i h9
                  split at h
                  · cases h
                    refine ⟨⟨hF, hc, trivial, hk, trivial, by omega, by omega, fun q => by omega⟩, trivial, trivial, by simp; omega, by simp only; omega, ?_⟩
                    show psz cur + 1 + (if (0 : Nat) = 2 then 0 else 0) + fsz fs + 0 = e + 1
                    rw [if_neg (by omega)]
                    omega
                  · cases h
                · split at h
                  · cases h
                    refine ⟨hF, papp_PG (d := pL _ _ pN) trivial cur hc, POK_app (d := pL _ _ pN) ⟨?_, trivial⟩ cur hc hk, hl, by simp only; omega, ?_⟩
                    · omega
                    · simp only
                      rw [psz_app _ cur hc]
                      show fsz fs + (psz cur + (1 + 0)) = e + 1
                      omega
                  · cases h
              · cases h
            · cases h
    · cases h
theorem prs_ok {t : Nat → Int32} {n : Nat} : ∀ f p fs cur e, FOK fs → PG cur → POK cur (5 - fs.length) → fs.length ≤ 5 → e ≤ 40 → fsz fs + psz cur = e → (prs t n f p fs cur e).1 = 0 → PG (prs t n f p fs cur e).2.2.1 ∧ POK (prs t n f p fs cur e).2.2.1 5 ∧ (prs t n f p fs cur e).2.2.2 ≤ 40 ∧ psz (prs t n f p fs cur e).2.2.1 = (prs t n f p fs cur e).2.2.2
  | 0, p, fs, cur, e, _, _, _, _, _, _, h => by cases h
  | f + 1, p, fs, cur, e, h1, h2, h3, h4, h5, h6, h => by
    unfold prs at h ⊢
    by_cases hC : tkC t n p = 0
    · rw [if_pos hC] at h ⊢
      rcases fs with _ | ⟨fr, fs⟩
      · exact ⟨h2, h3, h5, by simp only [fsz] at h6; simp only; omega⟩
      · cases h
    · rw [if_neg hC] at h ⊢
      cases hps : pstep t n p fs cur e with
      | inl q =>
        rw [hps] at h
        simp only at h
        exfalso
        have : q.1 ≠ 0 := by
          unfold pstep at hps
          repeat' split at hps
          all_goals cases hps
          all_goals simp
        exact this h
      | inr s =>
        rw [hps] at h
        obtain ⟨a1, a2, a3, a4, a5, a6⟩ := pstep_ok hps h1 h2 h3 h4 h5 h6
        exact prs_ok f _ _ _ _ a1 a2 a3 a4 a5 a6 h
theorem recS_ok {t : Nat → Int32} {n : Nat} (h : (recS t n).1 = 0) : PG (recS t n).2.2.1 ∧ POK (recS t n).2.2.1 5 ∧ (recS t n).2.2.2 ≤ 40 ∧ psz (recS t n).2.2.1 = (recS t n).2.2.2 := by
  unfold recS at h ⊢
  split at h
  · rename_i hn
    rw [if_pos hn]
    exact prs_ok _ _ _ _ _ trivial trivial trivial (by simp) (by omega) rfl h
  · cases h
-- bits
def bt (v : Int32) (b : Nat) : Bool := v.toBitVec.getLsbD b
theorem bt_or (u v : Int32) (b : Nat) : bt (u ||| v) b = (bt u b || bt v b) := by
  show (u ||| v).toBitVec.getLsbD b = _
  rw [Int32.toBitVec_or, BitVec.getLsbD_or]; rfl
theorem i32_ext {u v : Int32} (h : ∀ b, b < 32 → bt u b = bt v b) : u = v := Int32.toBitVec_inj.1 (BitVec.eq_of_getLsbD_eq h)
theorem bt_ge {v : Int32} {b : Nat} (h : 32 ≤ b) : bt v b = false := BitVec.getLsbD_of_ge _ _ h
theorem bt_in {s c : Int32} : s &&& (c ^^^ (-1)) = 0 ↔ ∀ b, bt s b = true → bt c b = true := by
  have key : ∀ b, b < 32 → bt (s &&& (c ^^^ (-1))) b = (bt s b && !(bt c b)) := fun b hb => by
    show (s &&& (c ^^^ (-1))).toBitVec.getLsbD b = _
    rw [Int32.toBitVec_and, BitVec.getLsbD_and, Int32.toBitVec_xor, BitVec.getLsbD_xor, show (-1 : Int32).toBitVec = BitVec.allOnes 32 from by decide, BitVec.getLsbD_allOnes]
    simp [hb, bt]
  constructor
  · intro h b hb
    by_cases h32 : b < 32
    · have := key b h32
      rw [h, hb] at this
      have h0 : bt 0 b = false := by show (0 : Int32).toBitVec.getLsbD b = false; rw [show (0 : Int32).toBitVec = 0#32 from rfl]; simp
      rw [h0] at this
      cases hc : bt c b with
      | true => rfl
      | false => rw [hc] at this; cases this
    · rw [bt_ge (by omega)] at hb; cases hb
  · intro h
    refine i32_ext fun b hb => ?_
    rw [key b hb]
    have h0 : bt 0 b = false := by show (0 : Int32).toBitVec.getLsbD b = false; rw [show (0 : Int32).toBitVec = 0#32 from rfl]; simp
    rw [h0]
    cases hs : bt s b with
    | false => rfl
    | true => rw [h b hs]; rfl
theorem bt_1 (b : Nat) : bt 1 b = decide (b = 0) := by
  show (1 : Int32).toBitVec.getLsbD b = _
  rw [show (1 : Int32).toBitVec = 1#32 from rfl, BitVec.getLsbD_one]
  simp
theorem sh_tp : ∀ l : Fin 32, ((1 : Int32) <<< (nI l.val &&& 31)).toBitVec = BitVec.twoPow 32 l.val := by decide
theorem bt_sh {n : Nat} (hn : n < 32) (b : Nat) : bt ((1 : Int32) <<< (nI n &&& 31)) b = decide (b = n) := by
  show ((1 : Int32) <<< (nI n &&& 31)).toBitVec.getLsbD b = _
  rw [sh_tp ⟨n, hn⟩, BitVec.getLsbD_twoPow]
  by_cases h : b = n
  · subst h; simp [hn]
  · simp [h]; omega
theorem sh_nI : ∀ l : Fin 32, ((nI l.val &&& 31).toBitVec.smod 32).toNat = l.val := by decide
theorem bt_shr {v : Int32} {n : Nat} (hn : n < 32) : (v >>> (nI n &&& 31)) &&& 1 = 1 ↔ bt v n = true := by
  have h1 : ((v >>> (nI n &&& 31)) &&& 1).toBitVec = BitVec.setWidth 32 (BitVec.ofBool ((v >>> (nI n &&& 31)).toBitVec.getLsbD 0)) := by
    rw [Int32.toBitVec_and, show (1 : Int32).toBitVec = 1#32 from rfl, BitVec.and_one_eq_setWidth_ofBool_getLsbD]
  have h2 : (v >>> (nI n &&& 31)).toBitVec.getLsbD 0 = bt v n := by
    rw [Int32.toBitVec_shiftRight, BitVec.sshiftRight_eq', sh_nI ⟨n, hn⟩, BitVec.getLsbD_sshiftRight]
    simp [hn, bt]
  rw [h2] at h1
  rw [← Int32.toBitVec_inj, h1]
  cases bt v n <;> decide
theorem bt_ne {v : Int32} {b : Nat} (h : bt v b = true) : v ≠ 0 := fun q => by
  rw [q] at h
  have h0 : bt 0 b = false := by show (0 : Int32).toBitVec.getLsbD b = false; rw [show (0 : Int32).toBitVec = 0#32 from rfl]; simp
  rw [h0] at h; cases h
