-- recipes: tokens
theorem JH_ext {h g : JH} (h2 : h.2 = g.2) (h1 : ∀ a b, gi h a b = gi g a b) : h = g := Prod.ext (funext fun a => funext fun b => h1 a b) h2
theorem si_self {h : JH} {o k : Nat} {v : Int32} (hv : gi h o k = v) : si h o k v = h := JH_ext rfl (fun a b => by
  rw [gi_si]
  split
  · rename_i hc; rw [hc.1, hc.2]; exact hv.symm
  · rfl)
theorem si_si (h : JH) (o k : Nat) (v w : Int32) : si (si h o k v) o k w = si h o k w := JH_ext rfl (fun a b => by
  rw [gi_si, gi_si, gi_si]
  split <;> rfl)
theorem si_comm (h : JH) {o k o' k' : Nat} (v w : Int32) (hne : ¬ (o = o' ∧ k = k')) : si (si h o k v) o' k' w = si (si h o' k' w) o k v := JH_ext rfl (fun a b => by
  simp only [gi_si]
  by_cases h1 : a = o' ∧ b = k'
  · rw [if_pos h1, if_neg (fun q => hne ⟨q.1.symm.trans h1.1, q.2.symm.trans h1.2⟩), if_pos h1]
  · rw [if_neg h1, if_neg h1])
/-- the first place from p on, below n, where f fails -/
def rnf (f : Nat → Bool) (n : Nat) : Nat → Nat → Nat
  | 0, p => p
  | k + 1, p => if p < n ∧ f p = true then rnf f n k (p + 1) else p
def rn (f : Nat → Bool) (n p : Nat) : Nat := rnf f n (n - p) p
theorem rn_s {f : Nat → Bool} {n p : Nat} (h : p < n ∧ f p = true) : rn f n p = rn f n (p + 1) := by
  unfold rn
  rw [show n - p = (n - (p + 1)) + 1 by omega, rnf, if_pos h]
theorem rn_e {f : Nat → Bool} {n p : Nat} (h : ¬ (p < n ∧ f p = true)) : rn f n p = p := by
  unfold rn
  cases hf : n - p with
  | zero => rfl
  | succ k => rw [rnf, if_neg h]
theorem rnf_b (f : Nat → Bool) (n : Nat) : ∀ k p, k = n - p → p ≤ n → p ≤ rnf f n k p ∧ rnf f n k p ≤ n ∧ ¬ (rnf f n k p < n ∧ f (rnf f n k p) = true) ∧ ∀ j, p ≤ j → j < rnf f n k p → f j = true
  | 0, p, hk, hp => ⟨Nat.le_refl _, hp, by rw [rnf]; omega, fun j h1 h2 => by rw [rnf] at h2; omega⟩
  | k + 1, p, hk, hp => by
    rw [rnf]
    by_cases hc : p < n ∧ f p = true
    · rw [if_pos hc]
      have := rnf_b f n k (p + 1) (by omega) (by omega)
      refine ⟨by omega, this.2.1, this.2.2.1, fun j h1 h2 => ?_⟩
      by_cases hj : j = p
      · rw [hj]; exact hc.2
      · exact this.2.2.2 j (by omega) h2
    · rw [if_neg hc]
      exact ⟨by omega, hp, hc, fun j h1 h2 => by omega⟩
theorem rn_b {f : Nat → Bool} {n p : Nat} (hp : p ≤ n) : p ≤ rn f n p ∧ rn f n p ≤ n ∧ ¬ (rn f n p < n ∧ f (rn f n p) = true) ∧ ∀ j, p ≤ j → j < rn f n p → f j = true := rnf_b f n _ p rfl hp
def blk (t : Nat → Int32) (j : Nat) : Bool := decide (t j = 32) || decide (t j = 10)
def isDg (v : Int32) : Bool := isin v 48 57
def isLt (v : Int32) : Bool := isin v 97 122 || isin v 65 90
def tDg (t : Nat → Int32) (j : Nat) : Bool := isDg (t j)
def tLt (t : Nat → Int32) (j : Nat) : Bool := isLt (t j)
/-- the letters from q on are these -/
def isw (t : Nat → Int32) (q r : Nat) (s : List Int32) : Bool := decide (r - q = s.length) && decide (∀ i, i < s.length → t (q + i) = s.getD i 0)
def wcode (t : Nat → Int32) (q r : Nat) : Nat :=
  if isw t q r [118, 111, 108, 116] then 6 else if isw t q r [112, 117, 108, 115, 101] then 7 else if isw t q r [118, 101, 114, 105, 102, 121] then 8 else if isw t q r [116, 114, 121] then 9 else if isw t q r [111, 107] then 10 else if isw t q r [101, 108, 115, 101] then 11 else 5
/-- the token from p on: where it begins, its code, where it stops -/
def tkQ (t : Nat → Int32) (n p : Nat) : Nat := rn (blk t) n p
def tkC (t : Nat → Int32) (n p : Nat) : Nat :=
  if tkQ t n p < n then (if isDg (t (tkQ t n p)) then 1 else if isLt (t (tkQ t n p)) then wcode t (tkQ t n p) (rn (tLt t) n (tkQ t n p)) else if t (tkQ t n p) = 59 then 2 else if t (tkQ t n p) = 123 then 3 else if t (tkQ t n p) = 125 then 4 else 5) else 0
def tkE (t : Nat → Int32) (n p : Nat) : Nat :=
  if tkQ t n p < n then (if isDg (t (tkQ t n p)) then rn (tDg t) n (tkQ t n p) else if isLt (t (tkQ t n p)) then rn (tLt t) n (tkQ t n p) else tkQ t n p + 1) else tkQ t n p
/-- the number that k digits from a on tell, and what the reference keeps of it -/
def dval (t : Nat → Int32) (a : Nat) : Nat → Nat
  | 0 => 0
  | k + 1 => 10 * dval t a k + ((t (a + k)).toInt.toNat - 48)
def dcap (t : Nat → Int32) (a : Nat) : Nat → Nat
  | 0 => 0
  | k + 1 => if dcap t a k < 100000 then 10 * dcap t a k + ((t (a + k)).toInt.toNat - 48) else dcap t a k
theorem dcap_or (t : Nat → Int32) (a : Nat) : ∀ k, dcap t a k = dval t a k ∨ (100000 ≤ dcap t a k ∧ 100000 ≤ dval t a k)
  | 0 => Or.inl rfl
  | k + 1 => by
    rw [dcap, dval]
    rcases dcap_or t a k with h | ⟨h1, h2⟩
    · rw [h]
      split
      · exact Or.inl rfl
      · exact Or.inr ⟨by omega, by omega⟩
    · rw [if_neg (by omega)]
      exact Or.inr ⟨h1, by omega⟩
theorem dcap_lt (t : Nat → Int32) (a : Nat) (hd : ∀ j, isDg (t (a + j)) = true ∨ True) : ∀ k, (∀ j, j < k → isDg (t (a + j)) = true) → dcap t a k < 1000010
  | 0, _ => by simp [dcap]
  | k + 1, h => by
    have ih := dcap_lt t a hd k (fun j hj => h j (by omega))
    have := h k (by omega)
    unfold isDg at this
    rw [isin_t] at this
    simp at this
    rw [dcap]
    split <;> omega
/-- k bytes from q on, packed -/
def pck (t : Nat → Int32) (q : Nat) : Nat → Nat
  | 0 => 0
  | k + 1 => pck t q k * 256 + (t (q + k)).toInt.toNat
def pkL : List Nat → Nat := fun l => l.foldl (fun a b => a * 256 + b) 0
def wcN (W : Nat) : Int32 := if W = 1987013748 then 6 else if W = 483006378853 then 7 else if W = 130178083284601 then 8 else if W = 7631481 then 9 else if W = 28523 then 10 else if W = 1701606245 then 11 else 5
-- BEGIN pasted: the kit's rows on bits of longs
theorem wb_tb (n : Nat) : (lN n).toBitVec = BitVec.ofNat 64 n := rfl
theorem wb_inj {a b : Int64} (h : a.toBitVec = b.toBitVec) : a = b := Int64.toBitVec_inj.mp h
theorem wb_tn {n : Nat} (h : n < 2 ^ 64) : (lN n).toBitVec.toNat = n := by rw [wb_tb, BitVec.toNat_ofNat, Nat.mod_eq_of_lt h]
theorem wb_of (x : Int64) : ∃ n, n < 2 ^ 64 ∧ x = lN n := ⟨x.toBitVec.toNat, x.toBitVec.isLt, wb_inj (by rw [wb_tb]; simp)⟩
theorem wb_of32 (x : Int32) : ∃ n, n < 2 ^ 32 ∧ x = nI n := ⟨x.toBitVec.toNat, x.toBitVec.isLt, Int32.toBitVec_inj.mp (by show _ = BitVec.ofNat 32 _; simp)⟩
theorem wb_c : ∀ k, k < 64 → ((nI k).toInt64 &&& 63) = lN k := by decide +kernel
theorem wb_cu : ∀ k, k < 64 → ((nI k).toInt64.toUInt64 &&& Int64.toUInt64 63) = UInt64.ofNat k := by decide +kernel
theorem wb_sm : ∀ k, k < 64 → (BitVec.ofNat 64 k).smod 64 = BitVec.ofNat 64 k := by decide +kernel
theorem wb_pw {a b : Nat} (h : a ≤ b) : 2 ^ b = 2 ^ a * 2 ^ (b - a) := by rw [← Nat.pow_add]; congr 1; omega
theorem wb_lt2 {a b : Nat} (h : a < b) : 2 ^ a < 2 ^ b := Nat.pow_lt_pow_right (by decide) h
theorem wb_mod (n : Nat) : lN n = lN (n % 2 ^ 64) := wb_inj (by rw [wb_tb, wb_tb]; apply BitVec.eq_of_toNat_eq; rw [BitVec.toNat_ofNat, BitVec.toNat_ofNat, Nat.mod_mod])
theorem wb_shr {n k : Nat} (hn : n < 2 ^ 64) (hk : k < 64) : ((lN n).toUInt64 >>> ((nI k).toInt64.toUInt64 &&& Int64.toUInt64 63)).toInt64 = lN (n / 2 ^ k) := by
  rw [wb_cu k hk]
  apply wb_inj
  apply BitVec.eq_of_toNat_eq
  show ((lN n).toUInt64 >>> UInt64.ofNat k).toNat = (BitVec.ofNat 64 _).toNat
  have h1 : (UInt64.ofNat k).toNat = k := by
    show (BitVec.ofNat 64 k).toNat = k
    rw [BitVec.toNat_ofNat, Nat.mod_eq_of_lt (by omega)]
  have h2 : (lN n).toUInt64.toNat = n := wb_tn hn
  rw [UInt64.toNat_shiftRight, h1, h2, Nat.mod_eq_of_lt hk, Nat.shiftRight_eq_div_pow, BitVec.toNat_ofNat, Nat.mod_eq_of_lt (Nat.lt_of_le_of_lt (Nat.div_le_self _ _) hn)]
theorem wb_shl (n : Nat) {k : Nat} (hk : k < 64) : lN n <<< ((nI k).toInt64 &&& 63) = lN (n * 2 ^ k) := by
  rw [wb_c k hk]
  apply wb_inj
  rw [Int64.toBitVec_shiftLeft, wb_tb, wb_tb, wb_tb, wb_sm k hk]
  apply BitVec.eq_of_toNat_eq
  rw [BitVec.shiftLeft_eq', BitVec.toNat_shiftLeft, BitVec.toNat_ofNat, BitVec.toNat_ofNat, BitVec.toNat_ofNat, Nat.mod_eq_of_lt (show k < 2 ^ 64 by omega), Nat.shiftLeft_eq, Nat.mul_mod, Nat.mod_mod, ← Nat.mul_mod]
theorem wb_and {a b : Nat} (ha : a < 2 ^ 64) (hb : b < 2 ^ 64) : lN a &&& lN b = lN (a &&& b) := by
  apply wb_inj
  rw [Int64.toBitVec_and, wb_tb, wb_tb, wb_tb]
  apply BitVec.eq_of_toNat_eq
  rw [BitVec.toNat_and, BitVec.toNat_ofNat, BitVec.toNat_ofNat, BitVec.toNat_ofNat, Nat.mod_eq_of_lt ha, Nat.mod_eq_of_lt hb, Nat.mod_eq_of_lt (Nat.and_lt_two_pow _ hb)]
theorem wb_or {a b : Nat} (ha : a < 2 ^ 64) (hb : b < 2 ^ 64) : lN a ||| lN b = lN (a ||| b) := by
  apply wb_inj
  rw [Int64.toBitVec_or, wb_tb, wb_tb, wb_tb]
  apply BitVec.eq_of_toNat_eq
  rw [BitVec.toNat_or, BitVec.toNat_ofNat, BitVec.toNat_ofNat, BitVec.toNat_ofNat, Nat.mod_eq_of_lt ha, Nat.mod_eq_of_lt hb, Nat.mod_eq_of_lt (Nat.or_lt_two_pow ha hb)]
-- END pasted
theorem lN_pack {W b : Nat} (hW : W < 2 ^ 48) (hb : b < 256) : (lN W <<< ((8 : Int32).toInt64 &&& 63)) ||| (nI b).toInt64 = lN (W * 256 + b) := by
  have e1 : lN W <<< ((8 : Int32).toInt64 &&& 63) = lN (W * 2 ^ 8) := wb_shl W (k := 8) (by omega)
  rw [e1, nI_l (by omega), wb_or (by omega) (by omega)]
  congr 1
  have := Nat.shiftLeft_add_eq_or_of_lt (b := b) (i := 8) (by omega) W
  rw [Nat.shiftLeft_eq] at this
  omega
section T1
variable {x : JX} {h : JH}
theorem j_X9_see {k n : Nat} (hK : Kin h) (hR : MR h) (hn : gi h 38 2 = nI n) (hn4 : n ≤ 400) (hk : k ≤ 400) : JF x yX9_see cX9_see 2 (some .int) 0 0 0 [.ref 38, .int (nI k)] h (some (.int (if k < n then gi h 40 k else -1))) h := by
  refine JM_of [some (.ref 38), some (.int (nI k))] (by decide) (Nat.le_of_ble_eq_true rfl) rfl ?_
  refine J_iload_n (pq := 1) dX9_see_0 rfl rfl (J_aload_n (pq := 2) dX9_see_1 rfl rfl (J_getI (pq := 5) dX9_see_2 rfl f_X9_130 jsI (hK.at rfl) (J_icmp_ge (pq := 8) (tgt := 17) dX9_see_5 rfl rfl (fun c => ?_) (fun c => ?_))))
  · rw [hn, nI_leI (by omega) (by omega)] at c
    refine J_iconst (pq := 18) dX9_see_17 rfl c_iconst_m1 (J_iret dX9_see_18 rfl rfl ?_)
    exact ⟨by rw [if_neg (by omega)], rfl⟩
  · rw [hn, nI_leI (by omega) (by omega)] at c
    have hb : vp_in (nI k) 400 := vp_in_nI (by omega) (by omega)
    have hx : ix (nI k) = k := ixn (by omega)
    refine J_aload_n (pq := 9) dX9_see_8 rfl rfl (J_getA (pq := 12) dX9_see_9 rfl f_X9_13 (by decide +kernel) (hK.at rfl) (hR _ _ rfl) (J_iload_n (pq := 13) dX9_see_12 rfl rfl (J_iald (pq := 14) dX9_see_13 rfl (hK.at rfl) (by assumption) (J_goto (tgt := 18) dX9_see_14 rfl (J_iret dX9_see_18 rfl rfl ?_)))))
    exact ⟨by rw [hx, if_pos (by omega)], rfl⟩
theorem j_X9_isLetter {v : Int32} : JF x yX9_isLetter cX9_isLetter 1 (some .boolean) 1 0 0 [.int v] h (some (.int (bi (isLt v)))) h := by
  refine JM_of [some (.int v)] (by decide) (Nat.le_of_ble_eq_true rfl) rfl ?_
  unfold isLt
  refine J_iload_n (pq := 1) dX9_isLetter_0 rfl rfl (J_bipush (pq := 3) dX9_isLetter_1 rfl c_bipush_97 (J_bipush (pq := 5) dX9_isLetter_3 rfl c_bipush_122 (J_statF (pq := 8) dX9_isLetter_5 rfl (j_X9_isIn) rfl tg_X9_isIn l_X9_137 st_X9_isIn (Nat.le_of_ble_eq_true rfl) (Nat.zero_le _) (Nat.zero_le _) (Nat.le_of_ble_eq_true rfl) (J_if_ne (pq := 11) (tgt := 22) dX9_isLetter_8 rfl rfl (fun c => ?_) (fun c => ?_)))))
  · rw [bi_0, Bool.not_eq_false] at c
    refine J_iconst (pq := 23) dX9_isLetter_22 rfl c_iconst_1 (J_goto (tgt := 27) dX9_isLetter_23 rfl (J_iret dX9_isLetter_27 rfl (by first | rfl | exact bi_nar _) ?_))
    exact ⟨by rw [c]; rfl, rfl⟩
  · rw [bi_0] at c
    have c1 := c
    refine J_iload_n (pq := 12) dX9_isLetter_11 rfl rfl (J_bipush (pq := 14) dX9_isLetter_12 rfl c_bipush_65 (J_bipush (pq := 16) dX9_isLetter_14 rfl c_bipush_90 (J_statF (pq := 19) dX9_isLetter_16 rfl (j_X9_isIn) rfl tg_X9_isIn l_X9_137 st_X9_isIn (Nat.le_of_ble_eq_true rfl) (Nat.zero_le _) (Nat.zero_le _) (Nat.le_of_ble_eq_true rfl) (J_if_eq (pq := 22) (tgt := 26) dX9_isLetter_19 rfl rfl (fun c => ?_) (fun c => ?_)))))
    · rw [bi_0] at c
      refine J_iconst (pq := 27) dX9_isLetter_26 rfl c_iconst_0 (J_iret dX9_isLetter_27 rfl (by first | rfl | exact bi_nar _) ?_)
      exact ⟨by rw [c1, c]; rfl, rfl⟩
    · rw [bi_0, Bool.not_eq_false] at c
      refine J_iconst (pq := 23) dX9_isLetter_22 rfl c_iconst_1 (J_goto (tgt := 27) dX9_isLetter_23 rfl (J_iret dX9_isLetter_27 rfl (by first | rfl | exact bi_nar _) ?_))
      exact ⟨by rw [c1, c]; rfl, rfl⟩
theorem j_X9_isDigit {v : Int32} : JF x yX9_isDigit cX9_isDigit 1 (some .boolean) 1 0 0 [.int v] h (some (.int (bi (isDg v)))) h := by
  refine JM_of [some (.int v)] (by decide) (Nat.le_of_ble_eq_true rfl) rfl ?_
  refine J_iload_n (pq := 1) dX9_isDigit_0 rfl rfl (J_bipush (pq := 3) dX9_isDigit_1 rfl c_bipush_48 (J_bipush (pq := 5) dX9_isDigit_3 rfl c_bipush_57 (J_statF (pq := 8) dX9_isDigit_5 rfl (j_X9_isIn) rfl tg_X9_isIn l_X9_137 st_X9_isIn (Nat.le_of_ble_eq_true rfl) (Nat.zero_le _) (Nat.zero_le _) (Nat.le_of_ble_eq_true rfl) (J_iret dX9_isDigit_8 rfl (by first | rfl | exact bi_nar _) ?_))))
  exact ⟨rfl, rfl⟩
theorem j_X9_add {w : Int64} {a b : Int32} : JF x yX9_add cX9_add 4 (some .long) 0 0 0 [.long w, .int a, .int b] h (some (.long (((w <<< ((8 : Int32).toInt64 &&& 63)) ||| a.toInt64) <<< ((8 : Int32).toInt64 &&& 63) ||| b.toInt64))) h := by
  refine JM_of [some (.long w), none, some (.int a), some (.int b)] (by decide) (Nat.le_of_ble_eq_true rfl) rfl ?_
  refine J_lload_n (pq := 1) dX9_add_0 rfl rfl (J_bipush (pq := 3) dX9_add_1 rfl c_bipush_8 (J_lshl (pq := 4) dX9_add_3 rfl (J_iload_n (pq := 5) dX9_add_4 rfl rfl (J_i2l (pq := 6) dX9_add_5 rfl (J_lor (pq := 7) dX9_add_6 rfl (J_bipush (pq := 9) dX9_add_7 rfl c_bipush_8 (J_lshl (pq := 10) dX9_add_9 rfl (J_iload_n (pq := 11) dX9_add_10 rfl rfl (J_i2l (pq := 12) dX9_add_11 rfl (J_lor (pq := 13) dX9_add_12 rfl (J_lret dX9_add_13 rfl ?_)))))))))))
  exact ⟨rfl, rfl⟩
theorem lg0 {a b : Int64} : lg_cmp a b = 0 ↔ a = b := by
  unfold lg_cmp
  constructor
  · intro hq
    split at hq
    · exact absurd hq (by decide)
    · split at hq
      · assumption
      · exact absurd hq (by decide)
  · rintro rfl
    simp
theorem j_X9_wordOf {W : Nat} (hW : W < 2 ^ 56) : JF x yX9_wordOf cX9_wordOf 2 (some .int) 1 0 0 [.long (lN W)] h (some (.int (wcN W))) h := by
  refine JM_of [some (.long (lN W)), none] (by decide) (Nat.le_of_ble_eq_true rfl) rfl ?_
  have key : ∀ (C : Nat) (v : Int64), C < 2 ^ 56 → v = lN C → (lg_cmp (lN W) v = 0 ↔ W = C) := by
    intro C v hC hv
    rw [lg0, hv]
    constructor
    · intro e
      have h1 : (lN W).toInt = W := by unfold lN; rw [Int64.toInt_ofNat_of_lt (by omega)]
      have h2 : (lN C).toInt = C := by unfold lN; rw [Int64.toInt_ofNat_of_lt (by omega)]
      rw [e, h2] at h1
      omega
    · rintro rfl; rfl
  refine J_lload_n (pq := 1) dX9_wordOf_0 rfl rfl (J_lconst (v := 0) (pq := 2) dX9_wordOf_1 rfl rfl (J_bipush (pq := 4) dX9_wordOf_2 rfl c_bipush_118 (J_bipush (pq := 6) dX9_wordOf_4 rfl c_bipush_111 (J_statF (pq := 9) dX9_wordOf_6 rfl (j_X9_add) rfl tg_X9_add l_X9_219 st_X9_add (Nat.le_of_ble_eq_true rfl) (Nat.zero_le _) (Nat.zero_le _) (Nat.le_of_ble_eq_true rfl) (J_bipush (pq := 11) dX9_wordOf_9 rfl c_bipush_108 (J_bipush (pq := 13) dX9_wordOf_11 rfl c_bipush_116 (J_statF (pq := 16) dX9_wordOf_13 rfl (j_X9_add) rfl tg_X9_add l_X9_219 st_X9_add (Nat.le_of_ble_eq_true rfl) (Nat.zero_le _) (Nat.zero_le _) (Nat.le_of_ble_eq_true rfl) (J_lcmp (pq := 17) dX9_wordOf_16 rfl (J_if_ne (pq := 20) (tgt := 23) dX9_wordOf_17 rfl rfl (fun c => ?_) (fun c => ?_))))))))))
  · rw [key 1987013748 _ (by decide) (by decide)] at c
    have c1 := c
    refine J_lload_n (pq := 24) dX9_wordOf_23 rfl rfl (J_ldc2 (pq := 27) dX9_wordOf_24 rfl k_X9_223 (J_bipush (pq := 29) dX9_wordOf_27 rfl c_bipush_117 (J_bipush (pq := 31) dX9_wordOf_29 rfl c_bipush_108 (J_statF (pq := 34) dX9_wordOf_31 rfl (j_X9_add) rfl tg_X9_add l_X9_219 st_X9_add (Nat.le_of_ble_eq_true rfl) (Nat.zero_le _) (Nat.zero_le _) (Nat.le_of_ble_eq_true rfl) (J_bipush (pq := 36) dX9_wordOf_34 rfl c_bipush_115 (J_bipush (pq := 38) dX9_wordOf_36 rfl c_bipush_101 (J_statF (pq := 41) dX9_wordOf_38 rfl (j_X9_add) rfl tg_X9_add l_X9_219 st_X9_add (Nat.le_of_ble_eq_true rfl) (Nat.zero_le _) (Nat.zero_le _) (Nat.le_of_ble_eq_true rfl) (J_lcmp (pq := 42) dX9_wordOf_41 rfl (J_if_ne (pq := 45) (tgt := 48) dX9_wordOf_42 rfl rfl (fun c => ?_) (fun c => ?_))))))))))
    · rw [key 483006378853 _ (by decide) (by decide)] at c
      have c2 := c
      refine J_lload_n (pq := 49) dX9_wordOf_48 rfl rfl (J_lconst (v := 0) (pq := 50) dX9_wordOf_49 rfl rfl (J_bipush (pq := 52) dX9_wordOf_50 rfl c_bipush_118 (J_bipush (pq := 54) dX9_wordOf_52 rfl c_bipush_101 (J_statF (pq := 57) dX9_wordOf_54 rfl (j_X9_add) rfl tg_X9_add l_X9_219 st_X9_add (Nat.le_of_ble_eq_true rfl) (Nat.zero_le _) (Nat.zero_le _) (Nat.le_of_ble_eq_true rfl) (J_bipush (pq := 59) dX9_wordOf_57 rfl c_bipush_114 (J_bipush (pq := 61) dX9_wordOf_59 rfl c_bipush_105 (J_statF (pq := 64) dX9_wordOf_61 rfl (j_X9_add) rfl tg_X9_add l_X9_219 st_X9_add (Nat.le_of_ble_eq_true rfl) (Nat.zero_le _) (Nat.zero_le _) (Nat.le_of_ble_eq_true rfl) (J_bipush (pq := 66) dX9_wordOf_64 rfl c_bipush_102 (J_bipush (pq := 68) dX9_wordOf_66 rfl c_bipush_121 (J_statF (pq := 71) dX9_wordOf_68 rfl (j_X9_add) rfl tg_X9_add l_X9_219 st_X9_add (Nat.le_of_ble_eq_true rfl) (Nat.zero_le _) (Nat.zero_le _) (Nat.le_of_ble_eq_true rfl) (J_lcmp (pq := 72) dX9_wordOf_71 rfl (J_if_ne (pq := 75) (tgt := 78) dX9_wordOf_72 rfl rfl (fun c => ?_) (fun c => ?_)))))))))))))
      · rw [key 130178083284601 _ (by decide) (by decide)] at c
        have c3 := c
        refine J_lload_n (pq := 79) dX9_wordOf_78 rfl rfl (J_ldc2 (pq := 82) dX9_wordOf_79 rfl k_X9_225 (J_bipush (pq := 84) dX9_wordOf_82 rfl c_bipush_114 (J_bipush (pq := 86) dX9_wordOf_84 rfl c_bipush_121 (J_statF (pq := 89) dX9_wordOf_86 rfl (j_X9_add) rfl tg_X9_add l_X9_219 st_X9_add (Nat.le_of_ble_eq_true rfl) (Nat.zero_le _) (Nat.zero_le _) (Nat.le_of_ble_eq_true rfl) (J_lcmp (pq := 90) dX9_wordOf_89 rfl (J_if_ne (pq := 93) (tgt := 96) dX9_wordOf_90 rfl rfl (fun c => ?_) (fun c => ?_)))))))
        · rw [key 7631481 _ (by decide) (by decide)] at c
          have c4 := c
          refine J_lload_n (pq := 97) dX9_wordOf_96 rfl rfl (J_lconst (v := 0) (pq := 98) dX9_wordOf_97 rfl rfl (J_bipush (pq := 100) dX9_wordOf_98 rfl c_bipush_111 (J_bipush (pq := 102) dX9_wordOf_100 rfl c_bipush_107 (J_statF (pq := 105) dX9_wordOf_102 rfl (j_X9_add) rfl tg_X9_add l_X9_219 st_X9_add (Nat.le_of_ble_eq_true rfl) (Nat.zero_le _) (Nat.zero_le _) (Nat.le_of_ble_eq_true rfl) (J_lcmp (pq := 106) dX9_wordOf_105 rfl (J_if_ne (pq := 109) (tgt := 112) dX9_wordOf_106 rfl rfl (fun c => ?_) (fun c => ?_)))))))
          · rw [key 28523 _ (by decide) (by decide)] at c
            have c5 := c
            refine J_lload_n (pq := 113) dX9_wordOf_112 rfl rfl (J_lconst (v := 0) (pq := 114) dX9_wordOf_113 rfl rfl (J_bipush (pq := 116) dX9_wordOf_114 rfl c_bipush_101 (J_bipush (pq := 118) dX9_wordOf_116 rfl c_bipush_108 (J_statF (pq := 121) dX9_wordOf_118 rfl (j_X9_add) rfl tg_X9_add l_X9_219 st_X9_add (Nat.le_of_ble_eq_true rfl) (Nat.zero_le _) (Nat.zero_le _) (Nat.le_of_ble_eq_true rfl) (J_bipush (pq := 123) dX9_wordOf_121 rfl c_bipush_115 (J_bipush (pq := 125) dX9_wordOf_123 rfl c_bipush_101 (J_statF (pq := 128) dX9_wordOf_125 rfl (j_X9_add) rfl tg_X9_add l_X9_219 st_X9_add (Nat.le_of_ble_eq_true rfl) (Nat.zero_le _) (Nat.zero_le _) (Nat.le_of_ble_eq_true rfl) (J_lcmp (pq := 129) dX9_wordOf_128 rfl (J_if_ne (pq := 132) (tgt := 137) dX9_wordOf_129 rfl rfl (fun c => ?_) (fun c => ?_))))))))))
            · rw [key 1701606245 _ (by decide) (by decide)] at c
              refine J_iconst (pq := 138) dX9_wordOf_137 rfl c_iconst_5 (J_iret dX9_wordOf_138 rfl rfl ?_)
              exact ⟨by unfold wcN; rw [if_neg c1, if_neg c2, if_neg c3, if_neg c4, if_neg c5, if_neg c], rfl⟩
            · rw [key 1701606245 _ (by decide) (by decide)] at c
              refine J_bipush (pq := 134) dX9_wordOf_132 rfl c_bipush_11 (J_goto (tgt := 138) dX9_wordOf_134 rfl (J_iret dX9_wordOf_138 rfl rfl ?_))
              exact ⟨by unfold wcN; rw [if_neg c1, if_neg c2, if_neg c3, if_neg c4, if_neg c5, if_pos c], rfl⟩
          · rw [key 28523 _ (by decide) (by decide)] at c
            refine J_bipush (pq := 111) dX9_wordOf_109 rfl c_bipush_10 (J_iret dX9_wordOf_111 rfl rfl ?_)
            exact ⟨by unfold wcN; rw [if_neg c1, if_neg c2, if_neg c3, if_neg c4, if_pos c], rfl⟩
        · rw [key 7631481 _ (by decide) (by decide)] at c
          refine J_bipush (pq := 95) dX9_wordOf_93 rfl c_bipush_9 (J_iret dX9_wordOf_95 rfl rfl ?_)
          exact ⟨by unfold wcN; rw [if_neg c1, if_neg c2, if_neg c3, if_pos c], rfl⟩
      · rw [key 130178083284601 _ (by decide) (by decide)] at c
        refine J_bipush (pq := 77) dX9_wordOf_75 rfl c_bipush_8 (J_iret dX9_wordOf_77 rfl rfl ?_)
        exact ⟨by unfold wcN; rw [if_neg c1, if_neg c2, if_pos c], rfl⟩
    · rw [key 483006378853 _ (by decide) (by decide)] at c
      refine J_bipush (pq := 47) dX9_wordOf_45 rfl c_bipush_7 (J_iret dX9_wordOf_47 rfl rfl ?_)
      exact ⟨by unfold wcN; rw [if_neg c1, if_pos c], rfl⟩
  · rw [key 1987013748 _ (by decide) (by decide)] at c
    refine J_bipush (pq := 22) dX9_wordOf_20 rfl c_bipush_6 (J_iret dX9_wordOf_22 rfl rfl ?_)
    exact ⟨by unfold wcN; rw [if_pos c], rfl⟩
theorem pkL_c (l : List Nat) (a : Nat) : pkL (l ++ [a]) = pkL l * 256 + a := by simp [pkL, List.foldl_append]
theorem pkL_inj : ∀ (n : Nat) (l m : List Nat), l.length ≤ n → (∀ b ∈ l, 65 ≤ b ∧ b < 128) → (∀ b ∈ m, 65 ≤ b ∧ b < 128) → pkL l = pkL m → l = m
  | n, l, m, hn, hl, hm, he => by
    rcases List.eq_nil_or_concat l with rfl | ⟨l', a, rfl⟩
    · rcases List.eq_nil_or_concat m with rfl | ⟨m', b, rfl⟩
      · rfl
      · rw [List.concat_eq_append] at he hm
        rw [pkL_c] at he
        have := hm b (by simp)
        simp [pkL] at he
        omega
    · rcases List.eq_nil_or_concat m with rfl | ⟨m', b, rfl⟩
      · rw [List.concat_eq_append] at he hl
        rw [pkL_c] at he
        have := hl a (by simp)
        simp [pkL] at he
        omega
      · rw [List.concat_eq_append] at he hl hn
        rw [List.concat_eq_append] at he hm
        rw [pkL_c, pkL_c] at he
        have ha := hl a (by simp)
        have hb := hm b (by simp)
        have e1 : a = b := by omega
        have e2 : pkL l' = pkL m' := by omega
        cases n with
        | zero => simp at hn
        | succ n =>
          have := pkL_inj n l' m' (by simp at hn; omega) (fun b hb => hl b (by simp [hb])) (fun b hb => hm b (by simp [hb])) e2
          rw [e1, this]
theorem pck_L (t : Nat → Int32) (q : Nat) : ∀ k, pck t q k = pkL ((List.range k).map (fun j => (t (q + j)).toInt.toNat))
  | 0 => rfl
  | k + 1 => by rw [pck, pck_L t q k, List.range_succ, List.map_append, List.map_singleton, pkL_c]
theorem isw_pck {t : Nat → Int32} {q k : Nat} (hl : ∀ j, j < k → 65 ≤ (t (q + j)).toInt ∧ (t (q + j)).toInt < 128) (s : List Nat) (hs : ∀ b ∈ s, 65 ≤ b ∧ b < 128) : isw t q (q + k) (s.map nI) = true ↔ pck t q k = pkL s := by
  have hb : ∀ j, j < k → ∀ m, m < 200 → (t (q + j) = nI m ↔ (t (q + j)).toInt.toNat = m) := by
    intro j hj m hm
    have := hl j hj
    rw [ti_eq, nI_toInt (by omega)]
    omega
  unfold isw
  rw [Bool.and_eq_true, decide_eq_true_eq, decide_eq_true_eq, pck_L]
  constructor
  · rintro ⟨h1, h2⟩
    congr 1
    rw [List.length_map] at h1 h2
    apply List.ext_getElem
    · simp; omega
    · intro i h3 h4
      simp at h3
      have := h2 i (by omega)
      rw [List.getD_eq_getElem?_getD, List.getElem?_map, List.getElem?_eq_getElem h4] at this
      simp at this
      have h5 := hs s[i] (List.getElem_mem h4)
      simp
      exact (hb i (by omega) s[i] (by omega)).mp this
  · intro he
    have := pkL_inj _ _ _ (Nat.le_refl _) (fun b hb0 => by
      obtain ⟨j, hj, rfl⟩ := List.mem_map.mp hb0
      have := hl j (List.mem_range.mp hj)
      omega) hs he
    subst this
    refine ⟨by simp, fun i hi => ?_⟩
    simp at hi
    rw [List.getD_eq_getElem?_getD, List.getElem?_map, List.getElem?_map, List.getElem?_range hi]
    have := hl i hi
    simp
    exact (hb i hi (t (q + i)).toInt.toNat (by omega)).mpr rfl
/-- letters packed -/
theorem wc_ok {t : Nat → Int32} {q k : Nat} (hl : ∀ j, j < k → 65 ≤ (t (q + j)).toInt ∧ (t (q + j)).toInt < 128) : wcN (pck t q k) = nI (wcode t q (q + k)) := by
  have w1 : isw t q (q + k) [118, 111, 108, 116] = true ↔ pck t q k = 1987013748 := isw_pck hl [118, 111, 108, 116] (by decide)
  have w2 : isw t q (q + k) [112, 117, 108, 115, 101] = true ↔ pck t q k = 483006378853 := isw_pck hl [112, 117, 108, 115, 101] (by decide)
  have w3 : isw t q (q + k) [118, 101, 114, 105, 102, 121] = true ↔ pck t q k = 130178083284601 := isw_pck hl [118, 101, 114, 105, 102, 121] (by decide)
  have w4 : isw t q (q + k) [116, 114, 121] = true ↔ pck t q k = 7631481 := isw_pck hl [116, 114, 121] (by decide)
  have w5 : isw t q (q + k) [111, 107] = true ↔ pck t q k = 28523 := isw_pck hl [111, 107] (by decide)
  have w6 : isw t q (q + k) [101, 108, 115, 101] = true ↔ pck t q k = 1701606245 := isw_pck hl [101, 108, 115, 101] (by decide)
  unfold wcN wcode
  simp only [w1, w2, w3, w4, w5, w6]
  repeat' split
  all_goals rfl
theorem isLt_rng {v : Int32} (h : isLt v = true) : 65 ≤ v.toInt ∧ v.toInt < 128 := by
  unfold isLt at h
  rw [Bool.or_eq_true, isin_t, isin_t] at h
  simp at h
  omega
theorem isDg_rng {v : Int32} (h : isDg v = true) : 48 ≤ v.toInt ∧ v.toInt ≤ 57 := by
  unfold isDg at h
  rw [isin_t] at h
  simpa using h
theorem wcode_long {t : Nat → Int32} {q r : Nat} (h : 6 < r - q) : wcode t q r = 5 := by
  have hn : ∀ s : List Int32, s.length ≤ 6 → isw t q r s = false := by
    intro s hs
    unfold isw
    rw [decide_eq_false (by omega)]
    rfl
  unfold wcode
  rw [hn _ (by decide), hn _ (by decide), hn _ (by decide), hn _ (by decide), hn _ (by decide), hn _ (by decide)]
  rfl
theorem pck_lt {t : Nat → Int32} {q : Nat} : ∀ k, (∀ j, j < k → 0 ≤ (t (q + j)).toInt ∧ (t (q + j)).toInt < 256) → pck t q k < 256 ^ k
  | 0, _ => by simp [pck]
  | k + 1, h => by
    have ih := pck_lt k (fun j hj => h j (by omega))
    have := h k (by omega)
    rw [pck, Nat.pow_succ]
    omega
/-- the reference takes the next token: the heap behind it -/
def mTok (h : JH) (t : Nat → Int32) (n p : Nat) : JH :=
  if tkC t n p = 1 then si (si (si (si h 38 37 (nI (tkE t n p))) 38 38 (nI (tkQ t n p))) 38 39 1) 38 40 (nI (dcap t (tkQ t n p) (tkE t n p - tkQ t n p)))
  else si (si (si h 38 37 (nI (tkE t n p))) 38 38 (nI (tkQ t n p))) 38 39 (nI (tkC t n p))
theorem j_X9_nextToken {t : Nat → Int32} {n p : Nat} (hK : Kin h) (hR : MR h) (hn : gi h 38 2 = nI n) (hn4 : n ≤ 200) (ht : gi h 40 = t) (hby : ∀ j, j < 400 → 0 ≤ (t j).toInt ∧ (t j).toInt < 256) (hat : gi h 38 37 = nI p) (hp : p ≤ n) : JF x yX9_nextToken cX9_nextToken 4 none 2 0 0 [.ref 38] h none (mTok h t n p) := by
  refine JM_of [some (.ref 38), none, none, none] (by decide) (Nat.le_of_ble_eq_true rfl) rfl ?_
  have hsee : ∀ {g : JH} {k : Nat} {v : Int32}, Kin g → MR g → gi g 38 2 = nI n → gi g 40 = t → k ≤ n → v = nI k → JF x yX9_see cX9_see 2 (some .int) 0 0 0 [.ref 38, .int v] g (some (.int (if k < n then t k else -1))) g := by
    rintro g k v h1 h2 h3 h4 h5 rfl
    have := j_X9_see (x := x) (k := k) h1 h2 h3 (by omega) (by omega)
    rw [h4] at this
    exact this
  have hqb := rn_b (f := blk t) (n := n) (p := p) hp
  generalize hq : tkQ t n p = q
  have hq' : rn (blk t) n p = q := hq
  rw [hq'] at hqb
  have g2 : ∀ v, gi (si h 38 37 v) 38 2 = nI n := fun v => by rw [gi_si, if_neg (by decide)]; exact hn
  have g37 : ∀ v, gi (si h 38 37 v) 38 37 = v := fun v => by rw [gi_si, if_pos ⟨rfl, rfl⟩]
  refine J_cut (σ := Unit) 39 (fun _ => [some (.ref 38), none, none, none]) (fun _ => []) (fun _ => si h 38 37 (nI q)) (fun _ => True) (fun _ _ => ?_) (fun k39 => ?_)
  · -- the token itself
    have e2 : gi (si (si h 38 37 (nI q)) 38 38 (nI q)) 38 2 = nI n := by rw [gi_si, if_neg (by decide)]; exact g2 _
    have e37 : gi (si (si h 38 37 (nI q)) 38 38 (nI q)) 38 37 = nI q := by rw [gi_si, if_neg (by decide)]; exact g37 _
    refine J_aload_n (pq := 40) dX9_nextToken_39 rfl rfl (J_aload_n (pq := 41) dX9_nextToken_40 rfl rfl (J_getI (pq := 44) dX9_nextToken_41 rfl f_X9_227 jsI (hK.at rfl) (?_)))
    rw [g37]
    refine J_putI (pq := 47) dX9_nextToken_44 rfl f_X9_233 (Or.inl rfl) (hK.at rfl) (J_aload_n (pq := 48) dX9_nextToken_47 rfl rfl (J_aload_n (pq := 49) dX9_nextToken_48 rfl rfl (J_getI (pq := 52) dX9_nextToken_49 rfl f_X9_227 jsI (hK.at rfl) (J_virtF (pq := 55) dX9_nextToken_52 rfl (hsee hK hR e2 ht hqb.2.1 e37) rfl tg_X9_see l_X9_230 vi_X9_see (hK.at rfl) ⟨by decide, rfl⟩ (Nat.le_of_ble_eq_true rfl) (Nat.zero_le _) (Nat.zero_le _) (Nat.le_of_ble_eq_true rfl) (J_istore_m 1 (pq := 56) dX9_nextToken_55 rfl rfl (Nat.le_of_ble_eq_true rfl) (Nat.le_of_ble_eq_true rfl) rfl (J_iload_n (pq := 57) dX9_nextToken_56 rfl rfl (J_if_ge (pq := 60) (tgt := 68) dX9_nextToken_57 rfl rfl (fun c => ?_) (fun c => ?_))))))))
    · -- a byte is there
      have hqn : q < n := by
        by_cases hc : q < n
        · exact hc
        · rw [if_neg hc] at c; exact absurd c (by decide)
      rw [if_pos hqn]
      have hby0 := hby q (by omega)
      refine J_iload_n (pq := 69) dX9_nextToken_68 rfl rfl (J_statF (pq := 72) dX9_nextToken_69 rfl (j_X9_isDigit) rfl tg_X9_isDigit l_X9_239 st_X9_isDigit (Nat.le_of_ble_eq_true rfl) (Nat.zero_le _) (Nat.zero_le _) (Nat.le_of_ble_eq_true rfl) (J_if_eq (pq := 75) (tgt := 144) dX9_nextToken_72 rfl rfl (fun c => ?_) (fun c => ?_)))
      · -- no digit
        rw [bi_0] at c
        have c1 := c
        refine J_iload_n (pq := 145) dX9_nextToken_144 rfl rfl (J_statF (pq := 148) dX9_nextToken_145 rfl (j_X9_isLetter) rfl tg_X9_isLetter l_X9_246 st_X9_isLetter (Nat.le_of_ble_eq_true rfl) (Nat.zero_le _) (Nat.zero_le _) (Nat.le_of_ble_eq_true rfl) (J_if_eq (pq := 151) (tgt := 238) dX9_nextToken_148 rfl rfl (fun c => ?_) (fun c => ?_)))
        · -- a sign, or none
          rw [bi_0] at c
          have c2 := c
          have hC : tkC t n p = if t q = 59 then 2 else if t q = 123 then 3 else if t q = 125 then 4 else 5 := by
            unfold tkC; rw [hq, if_pos hqn, c1, c2]; rfl
          have hE : tkE t n p = q + 1 := by unfold tkE; rw [hq, if_pos hqn, c1, c2]; rfl
          have hC1 : ¬ tkC t n p = 1 := by rw [hC]; repeat' split
                                           all_goals decide
          have fin : ∀ v : Int32, v = nI (tkC t n p) → si (si (si (si h 38 37 (nI q)) 38 38 (nI q)) 38 39 v) 38 37 (nI q + 1) = mTok h t n p := by
            intro v hv
            unfold mTok
            rw [if_neg hC1, hE, hq, hv, nI_1, si_comm _ _ _ (by decide), si_comm _ (nI q) (nI (q + 1)) (by decide), si_si]
          have r37 : ∀ v : Int32, gi (si (si (si h 38 37 (nI q)) 38 38 (nI q)) 38 39 v) 38 37 = nI q := fun v => by rw [gi_si, if_neg (by decide)]; exact e37
          refine J_aload_n (pq := 239) dX9_nextToken_238 rfl rfl (J_iload_n (pq := 240) dX9_nextToken_239 rfl rfl (J_bipush (pq := 242) dX9_nextToken_240 rfl c_bipush_59 (J_icmp_ne (pq := 245) (tgt := 249) dX9_nextToken_242 rfl rfl (fun c => ?_) (fun c => ?_))))
          · have d1 := c
            refine J_iload_n (pq := 250) dX9_nextToken_249 rfl rfl (J_bipush (pq := 252) dX9_nextToken_250 rfl c_bipush_123 (J_icmp_ne (pq := 255) (tgt := 259) dX9_nextToken_252 rfl rfl (fun c => ?_) (fun c => ?_)))
            · have d2 := c
              refine J_iload_n (pq := 260) dX9_nextToken_259 rfl rfl (J_bipush (pq := 262) dX9_nextToken_260 rfl c_bipush_125 (J_icmp_ne (pq := 265) (tgt := 269) dX9_nextToken_262 rfl rfl (fun c => ?_) (fun c => ?_)))
              · refine J_iconst (pq := 270) dX9_nextToken_269 rfl c_iconst_5 (J_putI (pq := 273) dX9_nextToken_270 rfl f_X9_236 (Or.inl rfl) (hK.at rfl) (J_aload_n (pq := 274) dX9_nextToken_273 rfl rfl (J_dup (pq := 275) dX9_nextToken_274 rfl rfl (J_getI (pq := 278) dX9_nextToken_275 rfl f_X9_227 jsI (hK.at rfl) (J_iconst (pq := 279) dX9_nextToken_278 rfl c_iconst_1 (J_iadd (pq := 280) dX9_nextToken_279 rfl (J_putI (pq := 283) dX9_nextToken_280 rfl f_X9_227 (Or.inl rfl) (hK.at rfl) (J_vret dX9_nextToken_283 rfl ?_))))))))
                refine ⟨rfl, ?_⟩
                rw [r37]
                exact fin 5 (by rw [hC, if_neg d1, if_neg d2, if_neg c]; rfl)
              · refine J_iconst (pq := 266) dX9_nextToken_265 rfl c_iconst_4 (J_goto (tgt := 270) dX9_nextToken_266 rfl (J_putI (pq := 273) dX9_nextToken_270 rfl f_X9_236 (Or.inl rfl) (hK.at rfl) (J_aload_n (pq := 274) dX9_nextToken_273 rfl rfl (J_dup (pq := 275) dX9_nextToken_274 rfl rfl (J_getI (pq := 278) dX9_nextToken_275 rfl f_X9_227 jsI (hK.at rfl) (J_iconst (pq := 279) dX9_nextToken_278 rfl c_iconst_1 (J_iadd (pq := 280) dX9_nextToken_279 rfl (J_putI (pq := 283) dX9_nextToken_280 rfl f_X9_227 (Or.inl rfl) (hK.at rfl) (J_vret dX9_nextToken_283 rfl ?_)))))))))
                refine ⟨rfl, ?_⟩
                rw [r37]
                exact fin 4 (by rw [hC, if_neg d1, if_neg d2, if_pos c]; rfl)
            · refine J_iconst (pq := 256) dX9_nextToken_255 rfl c_iconst_3 (J_goto (tgt := 270) dX9_nextToken_256 rfl (J_putI (pq := 273) dX9_nextToken_270 rfl f_X9_236 (Or.inl rfl) (hK.at rfl) (J_aload_n (pq := 274) dX9_nextToken_273 rfl rfl (J_dup (pq := 275) dX9_nextToken_274 rfl rfl (J_getI (pq := 278) dX9_nextToken_275 rfl f_X9_227 jsI (hK.at rfl) (J_iconst (pq := 279) dX9_nextToken_278 rfl c_iconst_1 (J_iadd (pq := 280) dX9_nextToken_279 rfl (J_putI (pq := 283) dX9_nextToken_280 rfl f_X9_227 (Or.inl rfl) (hK.at rfl) (J_vret dX9_nextToken_283 rfl ?_)))))))))
              refine ⟨rfl, ?_⟩
              rw [r37]
              exact fin 3 (by rw [hC, if_neg d1, if_pos c]; rfl)
          · refine J_iconst (pq := 246) dX9_nextToken_245 rfl c_iconst_2 (J_goto (tgt := 270) dX9_nextToken_246 rfl (J_putI (pq := 273) dX9_nextToken_270 rfl f_X9_236 (Or.inl rfl) (hK.at rfl) (J_aload_n (pq := 274) dX9_nextToken_273 rfl rfl (J_dup (pq := 275) dX9_nextToken_274 rfl rfl (J_getI (pq := 278) dX9_nextToken_275 rfl f_X9_227 jsI (hK.at rfl) (J_iconst (pq := 279) dX9_nextToken_278 rfl c_iconst_1 (J_iadd (pq := 280) dX9_nextToken_279 rfl (J_putI (pq := 283) dX9_nextToken_280 rfl f_X9_227 (Or.inl rfl) (hK.at rfl) (J_vret dX9_nextToken_283 rfl ?_)))))))))
            refine ⟨rfl, ?_⟩
            rw [r37]
            exact fin 2 (by rw [hC, if_pos c]; rfl)
        · -- a word
          rw [bi_0, Bool.not_eq_false] at c
          have c2 := c
          generalize hr : rn (tLt t) n q = r
          have hrb := rn_b (f := tLt t) (n := n) (p := q) hqb.2.1
          rw [hr] at hrb
          have hC : tkC t n p = wcode t q r := by unfold tkC; rw [hq, if_pos hqn, c1, c2, hr]; rfl
          have hE : tkE t n p = r := by unfold tkE; rw [hq, if_pos hqn, c1, c2, hr]; rfl
          have hlet : ∀ j, j < r - q → 65 ≤ (t (q + j)).toInt ∧ (t (q + j)).toInt < 128 := fun j hj => isLt_rng (hrb.2.2.2 (q + j) (by omega) (by omega))
          refine J_lconst (v := 0) (pq := 152) dX9_nextToken_151 rfl rfl (J_lstore_m 2 (pq := 153) dX9_nextToken_152 rfl rfl (Nat.le_of_ble_eq_true rfl) (Nat.le_of_ble_eq_true rfl) rfl (?_))
          refine J_weak (ls' := [some (.ref 38), none, some (.long (lN (pck t q (min (q - q) 7)))), none]) (by simp [lsub, pck]; rfl) rfl rfl ?_
          refine J_loop (σ := Nat) (fun k => [some (.ref 38), none, some (.long (lN (pck t q (min (k - q) 7)))), none]) (fun _ => []) (fun k => si (si h 38 37 (nI k)) 38 38 (nI q)) (fun k => q ≤ k ∧ k ≤ n ∧ rn (tLt t) n k = r) (fun k => n - k) q rfl rfl rfl ⟨Nat.le_refl _, hqb.2.1, hr⟩ (fun k hk ih => ?_)
          obtain ⟨hk1, hk2, hk3⟩ := hk
          have E2 : gi (si (si h 38 37 (nI k)) 38 38 (nI q)) 38 2 = nI n := by rw [gi_si, if_neg (by decide)]; exact g2 _
          have E37 : gi (si (si h 38 37 (nI k)) 38 38 (nI q)) 38 37 = nI k := by rw [gi_si, if_neg (by decide)]; exact g37 _
          have E38 : gi (si (si h 38 37 (nI k)) 38 38 (nI q)) 38 38 = nI q := by rw [gi_si, if_pos ⟨rfl, rfl⟩]
          have hkr : k ≤ r := by rw [← hk3]; exact (rn_b hk2).1
          have hsub : nI k - nI q = nI (k - q) := pk_sub hk1
          refine J_aload_n (pq := 154) dX9_nextToken_153 rfl rfl (J_aload_n (pq := 155) dX9_nextToken_154 rfl rfl (J_getI (pq := 158) dX9_nextToken_155 rfl f_X9_227 jsI (hK.at rfl) (J_virtF (pq := 161) dX9_nextToken_158 rfl (hsee hK hR E2 ht hk2 E37) rfl tg_X9_see l_X9_230 vi_X9_see (hK.at rfl) ⟨by decide, rfl⟩ (Nat.le_of_ble_eq_true rfl) (Nat.zero_le _) (Nat.zero_le _) (Nat.le_of_ble_eq_true rfl) (J_statF (pq := 164) dX9_nextToken_161 rfl (j_X9_isLetter) rfl tg_X9_isLetter l_X9_246 st_X9_isLetter (Nat.le_of_ble_eq_true rfl) (Nat.zero_le _) (Nat.zero_le _) (Nat.le_of_ble_eq_true rfl) (J_if_eq (pq := 167) (tgt := 209) dX9_nextToken_164 rfl rfl (fun c => ?_) (fun c => ?_))))))
          · -- behind the word
            rw [bi_0] at c
            have hnl : ¬ (k < n ∧ tLt t k = true) := by
              rintro ⟨h1, h2⟩
              rw [if_pos h1] at c
              unfold tLt at h2
              rw [c] at h2
              cases h2
            have hkr2 : k = r := by rw [← hk3, rn_e hnl]
            subst hkr2
            have hC1 : ¬ tkC t n p = 1 := by
              rw [hC]
              unfold wcode
              repeat' split
              all_goals decide
            have fin : ∀ v : Int32, v = nI (tkC t n p) → si (si (si h 38 37 (nI k)) 38 38 (nI q)) 38 39 v = mTok h t n p := by
              intro v hv
              unfold mTok
              rw [if_neg hC1, hE, hq, hv]
            refine J_aload_n (pq := 210) dX9_nextToken_209 rfl rfl (J_aload_n (pq := 211) dX9_nextToken_210 rfl rfl (J_getI (pq := 214) dX9_nextToken_211 rfl f_X9_227 jsI (hK.at rfl) (J_aload_n (pq := 215) dX9_nextToken_214 rfl rfl (J_getI (pq := 218) dX9_nextToken_215 rfl f_X9_233 jsI (hK.at rfl) (J_isub (pq := 219) dX9_nextToken_218 rfl (J_bipush (pq := 221) dX9_nextToken_219 rfl c_bipush_6 (J_icmp_le (pq := 224) (tgt := 228) dX9_nextToken_221 rfl rfl (fun c => ?_) (fun c => ?_))))))))
            · rw [E37, E38, hsub, show (6 : Int32) = nI 6 from rfl, nI_leI (by omega) (by omega)] at c
              have hpl := pck_lt (t := t) (q := q) (k - q) (fun j hj => by have := hlet j (by omega); omega)
              have hpl2 : pck t q (k - q) < 2 ^ 56 := Nat.lt_of_lt_of_le hpl (Nat.le_trans (Nat.pow_le_pow_right (by omega) c) (by decide))
              refine J_lload_n (pq := 229) dX9_nextToken_228 rfl rfl (J_statF (pq := 232) dX9_nextToken_229 rfl (j_X9_wordOf (by rw [Nat.min_eq_left (by omega)]; exact hpl2)) rfl tg_X9_wordOf l_X9_249 st_X9_wordOf (Nat.le_of_ble_eq_true rfl) (Nat.zero_le _) (Nat.zero_le _) (Nat.le_of_ble_eq_true rfl) (J_putI (pq := 235) dX9_nextToken_232 rfl f_X9_236 (Or.inl rfl) (hK.at rfl) (J_goto (tgt := 283) dX9_nextToken_235 rfl (J_vret dX9_nextToken_283 rfl ?_))))
              refine ⟨rfl, fin _ ?_⟩
              rw [Nat.min_eq_left (by omega), wc_ok hlet, hC]
              congr 2
              omega
            · rw [E37, E38, hsub, show (6 : Int32) = nI 6 from rfl, nI_leI (by omega) (by omega)] at c
              refine J_iconst (pq := 225) dX9_nextToken_224 rfl c_iconst_5 (J_goto (tgt := 232) dX9_nextToken_225 rfl (J_putI (pq := 235) dX9_nextToken_232 rfl f_X9_236 (Or.inl rfl) (hK.at rfl) (J_goto (tgt := 283) dX9_nextToken_235 rfl (J_vret dX9_nextToken_283 rfl ?_))))
              refine ⟨rfl, fin _ ?_⟩
              rw [hC, wcode_long (by omega)]
              rfl
          · rw [bi_0, Bool.not_eq_false] at c
            have hkn : k < n := by
              by_cases hc : k < n
              · exact hc
              · rw [if_neg hc] at c; exact absurd c (by decide)
            rw [if_pos hkn] at c
            have clt := c
            have hnext := ih (k + 1) ⟨by omega, by omega, by rw [← rn_s ⟨hkn, c⟩]; exact hk3⟩ (by omega)
            have hbk := isLt_rng c
            have hE1 : si (si (si h 38 37 (nI k)) 38 38 (nI q)) 38 37 (nI k + 1) = si (si h 38 37 (nI (k + 1))) 38 38 (nI q) := by rw [nI_1, si_comm _ _ _ (by decide), si_si]
            refine J_aload_n (pq := 168) dX9_nextToken_167 rfl rfl (J_getI (pq := 171) dX9_nextToken_168 rfl f_X9_227 jsI (hK.at rfl) (J_aload_n (pq := 172) dX9_nextToken_171 rfl rfl (J_getI (pq := 175) dX9_nextToken_172 rfl f_X9_233 jsI (hK.at rfl) (J_isub (pq := 176) dX9_nextToken_175 rfl (J_bipush (pq := 178) dX9_nextToken_176 rfl c_bipush_7 (J_icmp_ge (pq := 181) (tgt := 196) dX9_nextToken_178 rfl rfl (fun c => ?_) (fun c => ?_)))))))
            · rw [E37, E38, hsub, show (7 : Int32) = nI 7 from rfl, nI_leI (by omega) (by omega)] at c
              refine J_aload_n (pq := 197) dX9_nextToken_196 rfl rfl (J_dup (pq := 198) dX9_nextToken_197 rfl rfl (J_getI (pq := 201) dX9_nextToken_198 rfl f_X9_227 jsI (hK.at rfl) (J_iconst (pq := 202) dX9_nextToken_201 rfl c_iconst_1 (J_iadd (pq := 203) dX9_nextToken_202 rfl (J_putI (pq := 206) dX9_nextToken_203 rfl f_X9_227 (Or.inl rfl) (hK.at rfl) (J_goto (tgt := 153) dX9_nextToken_206 rfl (?_)))))))
              refine J_weak ?_ rfl (by rw [E37]; exact hE1) hnext
              rw [show min (k + 1 - q) 7 = min (k - q) 7 by omega]
              simp [lsub]
            · rw [E37, E38, hsub, show (7 : Int32) = nI 7 from rfl, nI_leI (by omega) (by omega)] at c
              refine J_lload_n (pq := 182) dX9_nextToken_181 rfl rfl (J_bipush (pq := 184) dX9_nextToken_182 rfl c_bipush_8 (J_lshl (pq := 185) dX9_nextToken_184 rfl (J_aload_n (pq := 186) dX9_nextToken_185 rfl rfl (J_aload_n (pq := 187) dX9_nextToken_186 rfl rfl (J_getI (pq := 190) dX9_nextToken_187 rfl f_X9_227 jsI (hK.at rfl) (J_virtF (pq := 193) dX9_nextToken_190 rfl (hsee hK hR E2 ht hk2 E37) rfl tg_X9_see l_X9_230 vi_X9_see (hK.at rfl) ⟨by decide, rfl⟩ (Nat.le_of_ble_eq_true rfl) (Nat.zero_le _) (Nat.zero_le _) (Nat.le_of_ble_eq_true rfl) (J_i2l (pq := 194) dX9_nextToken_193 rfl (J_lor (pq := 195) dX9_nextToken_194 rfl (J_lstore_m 2 (pq := 196) dX9_nextToken_195 rfl rfl (Nat.le_of_ble_eq_true rfl) (Nat.le_of_ble_eq_true rfl) rfl (J_aload_n (pq := 197) dX9_nextToken_196 rfl rfl (J_dup (pq := 198) dX9_nextToken_197 rfl rfl (J_getI (pq := 201) dX9_nextToken_198 rfl f_X9_227 jsI (hK.at rfl) (J_iconst (pq := 202) dX9_nextToken_201 rfl c_iconst_1 (J_iadd (pq := 203) dX9_nextToken_202 rfl (J_putI (pq := 206) dX9_nextToken_203 rfl f_X9_227 (Or.inl rfl) (hK.at rfl) (J_goto (tgt := 153) dX9_nextToken_206 rfl (?_)))))))))))))))))
              refine J_weak ?_ rfl (by rw [E37]; exact hE1) hnext
              have hpl := pck_lt (t := t) (q := q) (k - q) (fun j hj => by have := hlet j (by omega); omega)
              have hpl2 : pck t q (k - q) < 2 ^ 48 := Nat.lt_of_lt_of_le hpl (Nat.le_trans (Nat.pow_le_pow_right (by omega) (show k - q ≤ 6 by omega)) (by decide))
              have htk : t k = nI (t k).toInt.toNat := by rw [ti_eq, nI_toInt (by omega)]; omega
              have hpk : (lN (pck t q (min (k - q) 7)) <<< ((8 : Int32).toInt64 &&& 63)) ||| (if k < n then t k else -1).toInt64 = lN (pck t q (min (k + 1 - q) 7)) := by
                rw [if_pos hkn, Nat.min_eq_left (by omega), Nat.min_eq_left (by omega), htk, lN_pack hpl2 (by omega), show k + 1 - q = (k - q) + 1 by omega, pck, show q + (k - q) = k by omega]
              rw [hpk]
              simp [lsub]
      · -- a number
        rw [bi_0, Bool.not_eq_false] at c
        have c1 := c
        generalize hr : rn (tDg t) n q = r
        have hrb := rn_b (f := tDg t) (n := n) (p := q) hqb.2.1
        rw [hr] at hrb
        have hC : tkC t n p = 1 := by unfold tkC; rw [hq, if_pos hqn, c1]; rfl
        have hE : tkE t n p = r := by unfold tkE; rw [hq, if_pos hqn, c1, hr]; rfl
        have hdig : ∀ j, j < r - q → isDg (t (q + j)) = true := fun j hj => hrb.2.2.2 (q + j) (by omega) (by omega)
        refine J_aload_n (pq := 76) dX9_nextToken_75 rfl rfl (J_iconst (pq := 77) dX9_nextToken_76 rfl c_iconst_1 (J_putI (pq := 80) dX9_nextToken_77 rfl f_X9_236 (Or.inl rfl) (hK.at rfl) (J_aload_n (pq := 81) dX9_nextToken_80 rfl rfl (J_iconst (pq := 82) dX9_nextToken_81 rfl c_iconst_0 (J_putI (pq := 85) dX9_nextToken_82 rfl f_X9_242 (Or.inl rfl) (hK.at rfl) (?_))))))
        refine J_weak (ls' := [some (.ref 38), none, none, none]) (by simp [lsub]) rfl rfl ?_
        refine J_loop (σ := Nat) (fun k => [some (.ref 38), none, none, none]) (fun _ => []) (fun k => si (si (si (si h 38 37 (nI k)) 38 38 (nI q)) 38 39 1) 38 40 (nI (dcap t q (k - q)))) (fun k => q ≤ k ∧ k ≤ n ∧ rn (tDg t) n k = r) (fun k => n - k) q rfl rfl (by rw [Nat.sub_self]; rfl) ⟨Nat.le_refl _, hqb.2.1, hr⟩ (fun k hk ih => ?_)
        obtain ⟨hk1, hk2, hk3⟩ := hk
        generalize hg : si (si (si (si h 38 37 (nI k)) 38 38 (nI q)) 38 39 1) 38 40 (nI (dcap t q (k - q))) = g
        have hKg : Kin g := by rw [← hg]; exact hK
        have hRg : MR g := by rw [← hg]; exact hR
        have E2 : gi g 38 2 = nI n := by rw [← hg, gi_si, if_neg (by decide), gi_si, if_neg (by decide), gi_si, if_neg (by decide)]; exact g2 _
        have E37 : gi g 38 37 = nI k := by rw [← hg, gi_si, if_neg (by decide), gi_si, if_neg (by decide), gi_si, if_neg (by decide)]; exact g37 _
        have E40 : gi g 38 40 = nI (dcap t q (k - q)) := by rw [← hg, gi_si, if_pos ⟨rfl, rfl⟩]
        have Et : gi g 40 = t := by rw [← hg]; exact ht
        have hkr : k ≤ r := by rw [← hk3]; exact (rn_b hk2).1
        have hdl := dcap_lt t q (fun _ => Or.inr trivial) (k - q) (fun j hj => hdig j (by omega))
        refine J_aload_n (pq := 86) dX9_nextToken_85 rfl rfl (J_aload_n (pq := 87) dX9_nextToken_86 rfl rfl (J_getI (pq := 90) dX9_nextToken_87 rfl f_X9_227 jsI (hKg.at rfl) (J_virtF (pq := 93) dX9_nextToken_90 rfl (hsee hKg hRg E2 Et hk2 E37) rfl tg_X9_see l_X9_230 vi_X9_see (hKg.at rfl) ⟨by decide, rfl⟩ (Nat.le_of_ble_eq_true rfl) (Nat.zero_le _) (Nat.zero_le _) (Nat.le_of_ble_eq_true rfl) (J_statF (pq := 96) dX9_nextToken_93 rfl (j_X9_isDigit) rfl tg_X9_isDigit l_X9_239 st_X9_isDigit (Nat.le_of_ble_eq_true rfl) (Nat.zero_le _) (Nat.zero_le _) (Nat.le_of_ble_eq_true rfl) (J_if_eq (pq := 99) (tgt := 283) dX9_nextToken_96 rfl rfl (fun c => ?_) (fun c => ?_))))))
        · rw [bi_0] at c
          have hnl : ¬ (k < n ∧ tDg t k = true) := by
            rintro ⟨h1, h2⟩
            rw [if_pos h1] at c
            unfold tDg at h2
            rw [c] at h2
            cases h2
          have hkr2 : k = r := by rw [← hk3, rn_e hnl]
          subst hkr2
          refine J_vret dX9_nextToken_283 rfl ?_
          refine ⟨rfl, ?_⟩
          unfold mTok
          rw [if_pos hC, hE, hq, ← hg]
        · rw [bi_0, Bool.not_eq_false] at c
          have hkn : k < n := by
            by_cases hc : k < n
            · exact hc
            · rw [if_neg hc] at c; exact absurd c (by decide)
          rw [if_pos hkn] at c
          have hnext := ih (k + 1) ⟨by omega, by omega, by rw [← rn_s ⟨hkn, c⟩]; exact hk3⟩ (by omega)
          have hbk := isDg_rng c
          have hs1 : k + 1 - q = (k - q) + 1 := by omega
          rw [hs1, dcap, show q + (k - q) = k by omega] at hnext
          have fin : ∀ v, si (si g 38 40 v) 38 37 (nI k + 1) = si (si (si (si h 38 37 (nI (k + 1))) 38 38 (nI q)) 38 39 1) 38 40 v := by
            intro v
            rw [← hg, si_si, nI_1, si_comm _ v _ (by decide), si_comm _ 1 _ (by decide), si_comm _ (nI q) _ (by decide), si_si]
          refine J_aload_n (pq := 100) dX9_nextToken_99 rfl rfl (J_getI (pq := 103) dX9_nextToken_100 rfl f_X9_242 jsI (hKg.at rfl) (J_ldc (pq := 105) dX9_nextToken_103 rfl k_X9_245 (J_icmp_ge (pq := 108) (tgt := 131) dX9_nextToken_105 rfl rfl (fun c => ?_) (fun c => ?_))))
          · rw [E40, show (100000 : Int32) = nI 100000 from rfl, nI_leI (by omega) (by omega)] at c
            rw [if_neg (by omega)] at hnext
            refine J_aload_n (pq := 132) dX9_nextToken_131 rfl rfl (J_dup (pq := 133) dX9_nextToken_132 rfl rfl (J_getI (pq := 136) dX9_nextToken_133 rfl f_X9_227 jsI (hKg.at rfl) (J_iconst (pq := 137) dX9_nextToken_136 rfl c_iconst_1 (J_iadd (pq := 138) dX9_nextToken_137 rfl (J_putI (pq := 141) dX9_nextToken_138 rfl f_X9_227 (Or.inl rfl) (hKg.at rfl) (J_goto (tgt := 85) dX9_nextToken_141 rfl (?_)))))))
            refine J_weak (by simp [lsub]) rfl ?_ hnext
            rw [E37, ← fin, ← E40, si_self rfl]
          · rw [E40, show (100000 : Int32) = nI 100000 from rfl, nI_leI (by omega) (by omega)] at c
            rw [if_pos (by omega)] at hnext
            refine J_aload_n (pq := 109) dX9_nextToken_108 rfl rfl (J_bipush (pq := 111) dX9_nextToken_109 rfl c_bipush_10 (J_aload_n (pq := 112) dX9_nextToken_111 rfl rfl (J_getI (pq := 115) dX9_nextToken_112 rfl f_X9_242 jsI (hKg.at rfl) (J_imul (pq := 116) dX9_nextToken_115 rfl (J_aload_n (pq := 117) dX9_nextToken_116 rfl rfl (J_aload_n (pq := 118) dX9_nextToken_117 rfl rfl (J_getI (pq := 121) dX9_nextToken_118 rfl f_X9_227 jsI (hKg.at rfl) (J_virtF (pq := 124) dX9_nextToken_121 rfl (hsee hKg hRg E2 Et hk2 E37) rfl tg_X9_see l_X9_230 vi_X9_see (hKg.at rfl) ⟨by decide, rfl⟩ (Nat.le_of_ble_eq_true rfl) (Nat.zero_le _) (Nat.zero_le _) (Nat.le_of_ble_eq_true rfl) (J_iadd (pq := 125) dX9_nextToken_124 rfl (J_bipush (pq := 127) dX9_nextToken_125 rfl c_bipush_48 (J_isub (pq := 128) dX9_nextToken_127 rfl (J_putI (pq := 131) dX9_nextToken_128 rfl f_X9_242 (Or.inl rfl) (hKg.at rfl) (J_aload_n (pq := 132) dX9_nextToken_131 rfl rfl (J_dup (pq := 133) dX9_nextToken_132 rfl rfl (J_getI (pq := 136) dX9_nextToken_133 rfl f_X9_227 jsI (hKg.at rfl) (J_iconst (pq := 137) dX9_nextToken_136 rfl c_iconst_1 (J_iadd (pq := 138) dX9_nextToken_137 rfl (J_putI (pq := 141) dX9_nextToken_138 rfl f_X9_227 (Or.inl rfl) (hKg.at rfl) (J_goto (tgt := 85) dX9_nextToken_141 rfl (?_))))))))))))))))))))
            refine J_weak (by simp [lsub]) rfl ?_ hnext
            have htk : t k = nI (t k).toInt.toNat := by rw [ti_eq, nI_toInt (by omega)]; omega
            have hval : (10 : Int32) * gi g 38 40 + (if k < n then t k else -1) - 48 = nI (10 * dcap t q (k - q) + ((t k).toInt.toNat - 48)) := by
              rw [E40, if_pos hkn, show (10 : Int32) = nI 10 from rfl, pk_mul]
              rw [htk, nI_add, show (48 : Int32) = nI 48 from rfl, pk_sub (by omega), nI_toInt (by omega)]
              congr 1
              omega
            rw [hval, gi_si, if_neg (by decide), E37, fin]
    · -- the end
      have hqn : ¬ q < n := by
        intro hc
        rw [if_pos hc] at c
        have := hby q (by omega)
        rw [ti_le] at c
        exact c (by simpa using this.1)
      refine J_aload_n (pq := 61) dX9_nextToken_60 rfl rfl (J_iconst (pq := 62) dX9_nextToken_61 rfl c_iconst_0 (J_putI (pq := 65) dX9_nextToken_62 rfl f_X9_236 (Or.inl rfl) (hK.at rfl) (J_goto (tgt := 283) dX9_nextToken_65 rfl (J_vret dX9_nextToken_283 rfl ?_))))
      refine ⟨rfl, ?_⟩
      have hC : tkC t n p = 0 := by unfold tkC; rw [hq, if_neg hqn]
      have hE : tkE t n p = q := by unfold tkE; rw [hq, if_neg hqn]
      unfold mTok
      rw [hC, if_neg (by decide), hE, hq]
      rfl
  · -- blanks
    refine J_loop (σ := Nat) (fun k => [some (.ref 38), none, none, none]) (fun _ => []) (fun k => si h 38 37 (nI k)) (fun k => p ≤ k ∧ k ≤ n ∧ rn (blk t) n k = q) (fun k => n - k) p rfl rfl (si_self hat).symm ⟨Nat.le_refl _, hp, hq'⟩ (fun k hk ih => ?_)
    obtain ⟨hk1, hk2, hk3⟩ := hk
    refine J_cut (σ := Unit) 26 (fun _ => [some (.ref 38), none, none, none]) (fun _ => []) (fun _ => si h 38 37 (nI k)) (fun _ => k < n ∧ blk t k = true) (fun _ hc => ?_) (fun k26 => ?_)
    · refine J_aload_n (pq := 27) dX9_nextToken_26 rfl rfl (J_dup (pq := 28) dX9_nextToken_27 rfl rfl (J_getI (pq := 31) dX9_nextToken_28 rfl f_X9_227 jsI (hK.at rfl) (J_iconst (pq := 32) dX9_nextToken_31 rfl c_iconst_1 (J_iadd (pq := 33) dX9_nextToken_32 rfl (J_putI (pq := 36) dX9_nextToken_33 rfl f_X9_227 (Or.inl rfl) (hK.at rfl) (J_goto (tgt := 0) dX9_nextToken_36 rfl (?_)))))))
      refine J_weak (by simp [lsub]) rfl ?_ (ih (k + 1) ⟨by omega, by omega, by rw [← rn_s hc]; exact hk3⟩ (by omega))
      rw [g37, nI_1, si_si]
    refine J_aload_n (pq := 1) dX9_nextToken_0 rfl rfl (J_aload_n (pq := 2) dX9_nextToken_1 rfl rfl (J_getI (pq := 5) dX9_nextToken_2 rfl f_X9_227 jsI (hK.at rfl) (J_virtF (pq := 8) dX9_nextToken_5 rfl (hsee hK hR (g2 _) ht hk2 (g37 _)) rfl tg_X9_see l_X9_230 vi_X9_see (hK.at rfl) ⟨by decide, rfl⟩ (Nat.le_of_ble_eq_true rfl) (Nat.zero_le _) (Nat.zero_le _) (Nat.le_of_ble_eq_true rfl) (J_bipush (pq := 10) dX9_nextToken_8 rfl c_bipush_32 (J_icmp_eq (pq := 13) (tgt := 26) dX9_nextToken_10 rfl rfl (fun c => ?_) (fun c => ?_))))))
    · have hkn : k < n := by
        by_cases hc : k < n
        · exact hc
        · rw [if_neg hc] at c; exact absurd c (by decide)
      rw [if_pos hkn] at c
      exact k26 () ⟨hkn, by unfold blk; rw [decide_eq_true c]; rfl⟩
    · have c1 := c
      refine J_aload_n (pq := 14) dX9_nextToken_13 rfl rfl (J_aload_n (pq := 15) dX9_nextToken_14 rfl rfl (J_getI (pq := 18) dX9_nextToken_15 rfl f_X9_227 jsI (hK.at rfl) (J_virtF (pq := 21) dX9_nextToken_18 rfl (hsee hK hR (g2 _) ht hk2 (g37 _)) rfl tg_X9_see l_X9_230 vi_X9_see (hK.at rfl) ⟨by decide, rfl⟩ (Nat.le_of_ble_eq_true rfl) (Nat.zero_le _) (Nat.zero_le _) (Nat.le_of_ble_eq_true rfl) (J_bipush (pq := 23) dX9_nextToken_21 rfl c_bipush_10 (J_icmp_ne (pq := 26) (tgt := 39) dX9_nextToken_23 rfl rfl (fun c => ?_) (fun c => ?_))))))
      · have hnb : ¬ (k < n ∧ blk t k = true) := by
          rintro ⟨h1, h2⟩
          rw [if_pos h1] at c c1
          unfold blk at h2
          rw [decide_eq_false c, decide_eq_false c1] at h2
          cases h2
        have hkq : k = q := by rw [← hk3, rn_e hnb]
        subst hkq
        exact k39 () trivial
      · have hkn : k < n := by
          by_cases hc : k < n
          · exact hc
          · rw [if_neg hc] at c; exact absurd c (by decide)
        rw [if_pos hkn] at c
        exact k26 () ⟨hkn, by unfold blk; rw [decide_eq_true c, Bool.or_true]⟩
end T1
