-- the reference's reading of a recipe: a step
/-- the present token is that from p on -/
def TK (h : JH) (t : Nat → Int32) (n p : Nat) : Prop := gi h 38 37 = nI (tkE t n p) ∧ gi h 38 38 = nI (tkQ t n p) ∧ gi h 38 39 = nI (tkC t n p) ∧ (tkC t n p = 1 → gi h 38 40 = nI (dcap t (tkQ t n p) (tkE t n p - tkQ t n p)))
theorem mTok_o {h : JH} {t : Nat → Int32} {n p a b : Nat} (hc : ¬ (a = 38 ∧ 37 ≤ b ∧ b ≤ 40)) : gi (mTok h t n p) a b = gi h a b := by
  unfold mTok
  split
  · rw [gi_si, if_neg (fun q => hc ⟨q.1, by omega⟩), gi_si, if_neg (fun q => hc ⟨q.1, by omega⟩), gi_si, if_neg (fun q => hc ⟨q.1, by omega⟩), gi_si, if_neg (fun q => hc ⟨q.1, by omega⟩)]
  · rw [gi_si, if_neg (fun q => hc ⟨q.1, by omega⟩), gi_si, if_neg (fun q => hc ⟨q.1, by omega⟩), gi_si, if_neg (fun q => hc ⟨q.1, by omega⟩)]
theorem mTok_2 {h : JH} {t : Nat → Int32} {n p : Nat} : (mTok h t n p).2 = h.2 := by unfold mTok; split <;> rfl
theorem mTok_T {h : JH} {t : Nat → Int32} {n p : Nat} : TK (mTok h t n p) t n p := by
  unfold TK mTok
  by_cases h1 : tkC t n p = 1
  · simp [if_pos h1, gi_si, h1]
    rfl
  · simp [if_neg h1, gi_si, h1]
theorem tkC_lt (t : Nat → Int32) (n p : Nat) : tkC t n p < 12 := by
  unfold tkC wcode
  repeat' split
  all_goals decide
/-- what the reading of a recipe changes -/
def RF (h g : JH) : Prop := g.2 = h.2 ∧ ∀ a b, ¬ (a = 38 ∧ 37 ≤ b ∧ b ≤ 51) → ¬ ((a = 63 ∨ a = 64 ∨ a = 65) ∧ 400 ≤ b) → ¬ (68 ≤ a ∧ a ≤ 73) → gi g a b = gi h a b
theorem RF.rf (h : JH) : RF h h := ⟨rfl, fun _ _ _ _ _ => rfl⟩
theorem RF.tr {h g k : JH} (h1 : RF h g) (h2 : RF g k) : RF h k := ⟨h2.1.trans h1.1, fun a b x y z => (h2.2 a b x y z).trans (h1.2 a b x y z)⟩
theorem RF.tok (h : JH) (t : Nat → Int32) (n p : Nat) : RF h (mTok h t n p) := ⟨mTok_2, fun a b x _ _ => mTok_o (fun q => x ⟨q.1, by omega⟩)⟩
theorem RF.f38 (h : JH) (k : Nat) (v : Int32) (hk : 37 ≤ k ∧ k ≤ 51) : RF h (si h 38 k v) := ⟨rfl, fun a b x _ _ => by rw [gi_si, if_neg (fun q => x ⟨q.1, by omega⟩)]⟩
theorem RF.ord (h : JH) (o : Nat) (w n p : Int32) : RF h (mOrd h o w n p) := ⟨rfl, fun a b x y z => by
  unfold mOrd
  rw [gi_si, if_neg (fun q => x ⟨q.1, by omega⟩), gi_si, if_neg (fun q => y ⟨Or.inr (Or.inr q.1), by omega⟩), gi_si, if_neg (fun q => y ⟨Or.inr (Or.inl q.1), by omega⟩), gi_si, if_neg (fun q => y ⟨Or.inl q.1, by omega⟩)]⟩
theorem RF.beg (h : JH) (L o : Nat) (a1 a2 a3 : Int32) : RF h (mBeg h L o a1 a2 a3) := ⟨rfl, fun a b x y z => by
  unfold mBeg
  rw [gi_si, if_neg (fun q => x ⟨q.1, by omega⟩), gi_si, if_neg (fun q => x ⟨q.1, by omega⟩), gi_si, if_neg (fun q => x ⟨q.1, by omega⟩), gi_si, if_neg (fun q => z (by omega)), gi_si, if_neg (fun q => z (by omega)), gi_si, if_neg (fun q => z (by omega)), gi_si, if_neg (fun q => z (by omega))]⟩
theorem RF.clo (h : JH) (L a1 a2 : Nat) : RF h (mClo h L a1 a2) := ⟨rfl, fun a b x y z => by
  unfold mClo
  rw [gi_si, if_neg (fun q => x ⟨q.1, by omega⟩), gi_si, if_neg (fun q => x ⟨q.1, by omega⟩), gi_si, if_neg (fun q => x ⟨q.1, by omega⟩)]⟩
/-- the frames that still want an order -/
def fwant : List Fr → Nat
  | [] => 0
  | f :: fs => (if f.2.1 = 2 then 0 else 1) + fwant fs
/-- the reference in the midst of a recipe -/
def PI (h : JH) (t : Nat → Int32) (n p : Nat) (fs : List Fr) (cur : Cond) (e o : Nat) : Prop :=
  Kin h ∧ MR h ∧ gi h 38 2 = nI n ∧ gi h 40 = t ∧ p ≤ n ∧ TK h t n p ∧ gi h 38 47 = nI fs.length ∧ gi h 38 48 = nI (cap (pP cur)) ∧ gi h 38 49 = nI (cap (pW cur)) ∧ gi h 38 50 = nI o ∧ gi h 38 51 = nI e ∧ MZ (gi h) fs cur o ∧ fs.length ≤ 5 ∧ e ≤ 40 ∧ o + fwant fs ≤ 2 * e
def tby (t : Nat → Int32) : Prop := ∀ j, j < 400 → 0 ≤ (t j).toInt ∧ (t j).toInt < 256
section P3
variable {x : JX} {h : JH}
theorem j_X9_nx {t : Nat → Int32} {n p : Nat} (hK : Kin h) (hR : MR h) (hn : gi h 38 2 = nI n) (hn4 : n ≤ 200) (ht : gi h 40 = t) (hby : tby t) (hp : p ≤ n) (hat : gi h 38 37 = nI (tkE t n p)) : JF x yX9_nextToken cX9_nextToken 4 none 2 0 0 [.ref 38] h none (mTok h t n (tkE t n p)) := j_X9_nextToken hK hR hn hn4 ht hby hat (tkE_b hp).2.1
theorem j_X9_semicolon {t : Nat → Int32} {n p : Nat} (hK : Kin h) (hR : MR h) (hn : gi h 38 2 = nI n) (hn4 : n ≤ 200) (ht : gi h 40 = t) (hby : tby t) (hp : p ≤ n) (hT : TK h t n p) : JF x yX9_semicolon cX9_semicolon 1 (some .int) 3 0 0 [.ref 38] h (some (.int (if tkC t n p = 2 then 0 else 1))) (if tkC t n p = 2 then mTok h t n (tkE t n p) else h) := by
  refine JM_of [some (.ref 38)] (by decide) (Nat.le_of_ble_eq_true rfl) rfl ?_
  have hlt := tkC_lt t n p
  refine J_aload_n (pq := 1) dX9_semicolon_0 rfl rfl (J_getI (pq := 4) dX9_semicolon_1 rfl f_X9_236 jsI (hK.at rfl) (J_iconst (pq := 5) dX9_semicolon_4 rfl c_iconst_2 (J_icmp_eq (pq := 8) (tgt := 10) dX9_semicolon_5 rfl rfl (fun c => ?_) (fun c => ?_))))
  · rw [hT.2.2.1, show (2 : Int32) = nI 2 from rfl, nI_eq (by omega) (by omega)] at c
    rw [if_pos c, if_pos c]
    refine J_aload_n (pq := 11) dX9_semicolon_10 rfl rfl (J_virtF (pq := 14) dX9_semicolon_11 rfl (j_X9_nx hK hR hn hn4 ht hby hp hT.1) rfl tg_X9_nextToken l_X9_272 vi_X9_nextToken (hK.at rfl) ⟨by decide, rfl⟩ (Nat.le_of_ble_eq_true rfl) (Nat.zero_le _) (Nat.zero_le _) (Nat.le_of_ble_eq_true rfl) (J_iconst (pq := 15) dX9_semicolon_14 rfl c_iconst_0 (J_iret dX9_semicolon_15 rfl rfl ?_)))
    exact ⟨rfl, rfl⟩
  · rw [hT.2.2.1, show (2 : Int32) = nI 2 from rfl, nI_eq (by omega) (by omega)] at c
    rw [if_neg c, if_neg c]
    refine J_iconst (pq := 9) dX9_semicolon_8 rfl c_iconst_1 (J_iret dX9_semicolon_9 rfl rfl ?_)
    exact ⟨rfl, rfl⟩
/-- the end of a step or a brace -/
def StP (t : Nat → Int32) (n : Nat) (r : (Nat × Nat) ⊕ (Nat × List Fr × Cond × Nat)) (h : JH) (v : Option Value) (g : JH) : Prop :=
  RF h g ∧ match r with
  | .inl q => v = some (.int (nI q.1)) ∧ gi g 38 38 = nI q.2 ∧ q.1 ≠ 0 ∧ q.1 < 10
  | .inr s => v = some (.int 0) ∧ ∃ o, PI g t n s.1 s.2.1 s.2.2.1 s.2.2.2 o
theorem MZ_same {G G' : Nat → Nat → Int32} {fs : List Fr} {cur : Cond} {o : Nat} (h : MZ G fs cur o) (hc : ∀ a b, (a = 63 ∨ a = 64 ∨ a = 65 ∨ (68 ≤ a ∧ a ≤ 73)) → G' a b = G a b) : MZ G' fs cur o := MZ_congr fs (fun k _ => ⟨hc 63 _ (by simp), hc 64 _ (by simp), hc 65 _ (by simp)⟩) (fun u _ q h1 h2 => hc q u (by omega)) h
theorem mOrd_o {o : Nat} {w n p : Int32} {a b : Nat} (h1 : ¬ ((a = 63 ∨ a = 64 ∨ a = 65) ∧ b = 400 + o)) (h2 : ¬ (a = 38 ∧ b = 50)) : gi (mOrd h o w n p) a b = gi h a b := by
  unfold mOrd
  rw [gi_si, if_neg h2, gi_si, if_neg (fun q => h1 ⟨by omega, q.2⟩), gi_si, if_neg (fun q => h1 ⟨by omega, q.2⟩), gi_si, if_neg (fun q => h1 ⟨by omega, q.2⟩)]
theorem mOrd_63 {o : Nat} {w n p : Int32} : gi (mOrd h o w n p) 63 (400 + o) = w := by simp [mOrd, gi_si]
theorem mOrd_64 {o : Nat} {w n p : Int32} : gi (mOrd h o w n p) 64 (400 + o) = n := by simp [mOrd, gi_si]
theorem mOrd_65 {o : Nat} {w n p : Int32} : gi (mOrd h o w n p) 65 (400 + o) = p := by simp [mOrd, gi_si]
theorem mOrd_50 {o : Nat} {w n p : Int32} : gi (mOrd h o w n p) 38 50 = nI (o + 1) := by simp [mOrd, gi_si]
/-- a plain step's order behind the present orders -/
theorem MZ_ord {fs : List Fr} {cur : Cond} {o k m : Nat} {w v p : Int32} {g : JH} (hz : MZ (gi h) fs cur o) (hw : w = nI k) (hv : v = nI m) (hg : ∀ a b, (a = 63 ∨ a = 64 ∨ a = 65 ∨ (68 ≤ a ∧ a ≤ 73)) → gi g a b = gi (mOrd h o w v p) a b) : MZ (gi g) fs (papp cur (pL k m pN)) (o + 1) := by
  refine MZ_leaf hz (fun j hj => ⟨?_, ?_, ?_⟩) (fun u hu q h1 h2 => ?_) ?_ ?_
  · rw [hg 63 _ (by simp), mOrd_o (by omega) (by simp)]
  · rw [hg 64 _ (by simp), mOrd_o (by omega) (by simp)]
  · rw [hg 65 _ (by simp), mOrd_o (by omega) (by simp)]
  · rw [hg q u (by omega), mOrd_o (by omega) (by omega)]
  · rw [hg 63 _ (by simp), mOrd_63, hw]
  · rw [hg 64 _ (by simp), mOrd_64, hv]
end P3
