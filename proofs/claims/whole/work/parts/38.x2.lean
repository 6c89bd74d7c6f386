-- the reference at work on a byte
/-- the row of times and the pulses left, replaced -/
def tS (h : JH) (T : Nat → Int32) (L : Int32) : JH := (fun a b => if a = 75 then T b else if a = 38 ∧ b = 55 then L else h.1 a b, h.2)
theorem gi_tS (h : JH) (T : Nat → Int32) (L : Int32) (a b : Nat) : gi (tS h T L) a b = if a = 75 then T b else if a = 38 ∧ b = 55 then L else gi h a b := rfl
theorem tS_o {h : JH} {T : Nat → Int32} {L : Int32} {a b : Nat} (h1 : a ≠ 75) (h2 : ¬ (a = 38 ∧ b = 55)) : gi (tS h T L) a b = gi h a b := by rw [gi_tS, if_neg h1, if_neg h2]
theorem tS_si (h : JH) (T : Nat → Int32) (L : Int32) {o k : Nat} {v : Int32} (h1 : o ≠ 75) (h2 : ¬ (o = 38 ∧ k = 55)) : si (tS h T L) o k v = tS (si h o k v) T L := JH_ext rfl (fun a b => by
  rw [gi_si, gi_tS, gi_tS, gi_si]
  by_cases ha : a = 75
  · rw [if_pos ha, if_pos ha, if_neg (by omega)]
  · rw [if_neg ha, if_neg ha]
    by_cases hb : a = 38 ∧ b = 55
    · rw [if_pos hb, if_pos hb, if_neg (by omega)]
    · rw [if_neg hb, if_neg hb])
theorem tS_sl (h : JH) (T : Nat → Int32) (L : Int32) (o k : Nat) (v : Int64) : sl (tS h T L) o k v = tS (sl h o k v) T L := rfl
theorem tS_75 (h : JH) (T : Nat → Int32) (L : Int32) (k : Nat) (v : Int32) : si (tS h T L) 75 k v = tS h (fun j => if j = k then v else T j) L := JH_ext rfl (fun a b => by
  rw [gi_si, gi_tS, gi_tS]
  by_cases ha : a = 75
  · rw [if_pos ha, if_pos ha]
    by_cases hb : b = k
    · rw [if_pos ⟨ha, hb⟩]; simp [hb]
    · rw [if_neg (by omega)]; simp [hb]
  · rw [if_neg ha, if_neg ha, if_neg (by omega)])
theorem tS_L (h : JH) (T : Nat → Int32) (L : Int32) (v : Int32) : si (tS h T L) 38 55 v = tS h T v := JH_ext rfl (fun a b => by
  rw [gi_si, gi_tS, gi_tS]
  by_cases ha : a = 75
  · rw [if_pos ha, if_pos ha, if_neg (by omega)]
  · rw [if_neg ha, if_neg ha]
    by_cases hb : a = 38 ∧ b = 55
    · rw [if_pos hb, if_pos hb]
    · rw [if_neg hb, if_neg hb, if_neg hb])
theorem tS_P (h : JH) (T : Nat → Int32) (L : Int32) (i a : Nat) (d v : Int32) : mPulse (tS h T L) i a d v = tS (mPulse h i a d v) T L := by
  have e : ∀ o k, o ≠ 75 → o ≠ 38 → gi (tS h T L) o k = gi h o k := fun o k h1 h2 => tS_o h1 (fun q => h2 q.1)
  unfold mPulse
  simp only [e 47 _ (by decide) (by decide), e 58 _ (by decide) (by decide), e 57 _ (by decide) (by decide), e 56 _ (by decide) (by decide), e 54 _ (by decide) (by decide), e 50 _ (by decide) (by decide), e 55 _ (by decide) (by decide)]
  rw [show gl (tS h T L) 53 i = gl h 53 i from rfl, tS_sl]
  repeat' split
  all_goals first
    | with_reducible rfl
    | (repeat rw [tS_si _ _ _ (by decide) (by simp)])
/-- what pulses keep -/
def PF (h g : JH) : Prop := g.2.2 = h.2.2 ∧ (∀ a b, a ≠ 54 → a ≠ 55 → a ≠ 57 → a ≠ 58 → gi g a b = gi h a b) ∧ (∀ a b, a ≠ 53 → gl g a b = gl h a b)
theorem PF.rf (h : JH) : PF h h := ⟨rfl, fun _ _ _ _ _ _ => rfl, fun _ _ _ => rfl⟩
theorem PF.pulse {h g : JH} (hF : PF h g) (i a : Nat) (d v : Int32) : PF h (mPulse g i a d v) := by
  refine ⟨?_, fun p q h1 h2 h3 h4 => ?_, fun p q h1 => ?_⟩
  · rw [← hF.1]; unfold mPulse; simp only
    repeat' split
    all_goals rfl
  · rw [← hF.2.1 p q h1 h2 h3 h4]; unfold mPulse; simp only
    repeat' split
    all_goals simp [gi_si, gi_sl, h1, h2, h3, h4]
  · rw [← hF.2.2 p q h1]; unfold mPulse; simp only
    repeat' split
    all_goals simp [gl_si, gl_sl, h1]
/-- the byte is what it should be -/
def mRt (i a : Nat) (d : Int32) (g : JH) : Bool := decide (gi g 54 (64 * i + a) = d) && decide (gi g 55 (64 * i + a) = d)
def mPu (i a : Nat) (d : Int32) (g : JH) (v : Nat) : JH := mPulse g i a d (nI v)
theorem mRt_n {i a : Nat} {d : Int32} {g : JH} : (decide (¬ gi g 54 (64 * i + a) = d) || decide (¬ gi g 55 (64 * i + a) = d)) = ! mRt i a d g := by
  unfold mRt
  by_cases h1 : gi g 54 (64 * i + a) = d <;> by_cases h2 : gi g 55 (64 * i + a) = d <;> simp [h1, h2]
section X2
variable {x : JX}
abbrev wQ (F : JH × Nat) : Option Value → JH → Prop := fun v g => v = none ∧ ∃ T', g = tS F.1 T' (nI F.2)
abbrev wJ (x : JX) (F : JH × Nat) (pc : Nat) (ls : List (Option Value)) (g : JH) : Prop := J x yX9_work cX9_work 12 none 1 0 0 (wQ F) pc ls [] g
/-- the reference's work stands at order p -/
def wkA (x : JX) (i r a : Nat) (d : Int32) (F : JH × Nat) (p : Nat) (s : JH × Nat × Bool × Nat) (T : Nat → Int32) : Prop :=
  if s.2.2.2 = 0 then F = (s.1, 0) else wJ x F 15 [some (.ref 38), some (.int (nI i)), some (.int (nI r)), some (.int (nI a)), some (.int d), some (.int (nI (100 * r))), some (.int (nI s.2.1)), some (.int (bi s.2.2.1)), some (.int (nI p)), none, none, none] (tS s.1 T (nI s.2.2.2))
/-- the heap of the work: the orders are those of the start -/
def wkI (h : JH) (g : JH) : Prop := Kin g ∧ MR g ∧ PF h g
variable {h : JH} {i r a : Nat} {d : Int32} {F : JH × Nat}
theorem wk_0 {p q : Nat} {s : JH × Nat × Bool × Nat} {T T' : Nat → Int32} (h0 : s.2.2.2 = 0) (hA : wkA x i r a d F p s T) : wkA x i r a d F q s T' := by
  unfold wkA at hA ⊢
  rw [if_pos h0] at hA ⊢
  exact hA
theorem wk_J {p : Nat} {s : JH × Nat × Bool × Nat} {T : Nat → Int32} (hI : Kp (wkI h) 100000 s) (hr : r < 4) (hA : wkA x i r a d F p s T) : wJ x F 15 [some (.ref 38), some (.int (nI i)), some (.int (nI r)), some (.int (nI a)), some (.int d), some (.int (nI (100 * r))), some (.int (nI s.2.1)), some (.int (bi s.2.2.1)), some (.int (nI p)), none, none, none] (tS s.1 T (nI s.2.2.2)) := by
  unfold wkA at hA
  by_cases h0 : s.2.2.2 = 0
  · rw [if_pos h0] at hA
    rw [h0]
    have hK' : Kin (tS s.1 T (nI 0)) := hI.1.1.of2 rfl
    have hR' : MR (tS s.1 T (nI 0)) := hI.1.2.1.of2 rfl
    have hb5 : vp_in (nI r) 5 := vp_in_nI (by omega) (by omega)
    refine J_iload (pq := 17) dX9_work_15 rfl rfl (J_aload_n (pq := 18) dX9_work_17 rfl rfl (J_getA (pq := 21) dX9_work_18 rfl f_X9_85 (by decide +kernel) (hK'.at rfl) (hR' _ _ rfl) (J_iload_n (pq := 22) dX9_work_21 rfl rfl (J_iald (pq := 23) dX9_work_22 rfl (hK'.at rfl) (by assumption) (J_icmp_ge (pq := 26) (tgt := 276) dX9_work_23 rfl rfl (fun c => ?_) (fun c => ?_))))))
    · refine J_vret dX9_work_276 rfl ?_
      exact ⟨rfl, T, by rw [hA]⟩
    · refine J_aload_n (pq := 27) dX9_work_26 rfl rfl (J_getI (pq := 30) dX9_work_27 rfl f_X9_324 jsI (hK'.at rfl) (J_if_le (pq := 33) (tgt := 276) dX9_work_30 rfl rfl (fun c => ?_) (fun c => ?_)))
      · refine J_vret dX9_work_276 rfl ?_
        exact ⟨rfl, T, by rw [hA]⟩
      · exact absurd (show (nI 0 : Int32) ≤ 0 by decide) c
  · rw [if_neg h0] at hA
    exact hA
theorem wk_239 {w : Nat} {v ok pp t u : Option Value} {g : JH} (hw : w < 5) (k : wJ x F 269 [some (.ref 38), some (.int (nI i)), some (.int (nI r)), some (.int (nI a)), some (.int d), some (.int (nI (100 * r))), v, ok, pp, some (.int (nI w)), t, u] g) : wJ x F 239 [some (.ref 38), some (.int (nI i)), some (.int (nI r)), some (.int (nI a)), some (.int d), some (.int (nI (100 * r))), v, ok, pp, some (.int (nI w)), t, u] g := by
  refine J_iload (pq := 241) dX9_work_239 rfl rfl (J_iconst (pq := 242) dX9_work_241 rfl c_iconst_5 (J_icmp_ne (pq := 245) (tgt := 250) dX9_work_242 rfl rfl (fun c => ?_) (fun c => ?_)))
  · refine J_iload (pq := 252) dX9_work_250 rfl rfl (J_bipush (pq := 254) dX9_work_252 rfl c_bipush_6 (J_icmp_ne (pq := 257) (tgt := 269) dX9_work_254 rfl rfl (fun c => ?_) (fun c => ?_)))
    · exact k
    · rw [show (6 : Int32) = nI 6 from rfl, nI_eq (by omega) (by omega)] at c; omega
  · rw [show (5 : Int32) = nI 5 from rfl, nI_eq (by omega) (by omega)] at c; omega
theorem wk_189 {w : Nat} {v ok pp t u : Option Value} {g : JH} (hw : w < 7) (hw4 : w ≠ 4) (k : wJ x F 239 [some (.ref 38), some (.int (nI i)), some (.int (nI r)), some (.int (nI a)), some (.int d), some (.int (nI (100 * r))), v, ok, pp, some (.int (nI w)), t, u] g) : wJ x F 189 [some (.ref 38), some (.int (nI i)), some (.int (nI r)), some (.int (nI a)), some (.int d), some (.int (nI (100 * r))), v, ok, pp, some (.int (nI w)), t, u] g := by
  refine J_iload (pq := 191) dX9_work_189 rfl rfl (J_iconst (pq := 192) dX9_work_191 rfl c_iconst_4 (J_icmp_ne (pq := 195) (tgt := 239) dX9_work_192 rfl rfl (fun c => ?_) (fun c => ?_)))
  · exact k
  · rw [show (4 : Int32) = nI 4 from rfl, nI_eq (by omega) (by omega)] at c; omega
theorem wk_149 {w : Nat} {v ok pp t u : Option Value} {g : JH} (hw : w < 7) (hw4 : w ≠ 3) (k : wJ x F 189 [some (.ref 38), some (.int (nI i)), some (.int (nI r)), some (.int (nI a)), some (.int d), some (.int (nI (100 * r))), v, ok, pp, some (.int (nI w)), t, u] g) : wJ x F 149 [some (.ref 38), some (.int (nI i)), some (.int (nI r)), some (.int (nI a)), some (.int d), some (.int (nI (100 * r))), v, ok, pp, some (.int (nI w)), t, u] g := by
  refine J_iload (pq := 151) dX9_work_149 rfl rfl (J_iconst (pq := 152) dX9_work_151 rfl c_iconst_3 (J_icmp_ne (pq := 155) (tgt := 189) dX9_work_152 rfl rfl (fun c => ?_) (fun c => ?_)))
  · exact k
  · rw [show (3 : Int32) = nI 3 from rfl, nI_eq (by omega) (by omega)] at c; omega
theorem wk_125 {w : Nat} {v ok pp t u : Option Value} {g : JH} (hw : w < 7) (hw4 : w ≠ 2) (k : wJ x F 149 [some (.ref 38), some (.int (nI i)), some (.int (nI r)), some (.int (nI a)), some (.int d), some (.int (nI (100 * r))), v, ok, pp, some (.int (nI w)), t, u] g) : wJ x F 125 [some (.ref 38), some (.int (nI i)), some (.int (nI r)), some (.int (nI a)), some (.int d), some (.int (nI (100 * r))), v, ok, pp, some (.int (nI w)), t, u] g := by
  refine J_iload (pq := 127) dX9_work_125 rfl rfl (J_iconst (pq := 128) dX9_work_127 rfl c_iconst_2 (J_icmp_ne (pq := 131) (tgt := 149) dX9_work_128 rfl rfl (fun c => ?_) (fun c => ?_)))
  · exact k
  · rw [show (2 : Int32) = nI 2 from rfl, nI_eq (by omega) (by omega)] at c; omega
theorem wk_68 {w : Nat} {v ok pp t u : Option Value} {g : JH} (hw : w < 7) (hw4 : w ≠ 1) (k : wJ x F 125 [some (.ref 38), some (.int (nI i)), some (.int (nI r)), some (.int (nI a)), some (.int d), some (.int (nI (100 * r))), v, ok, pp, some (.int (nI w)), t, u] g) : wJ x F 68 [some (.ref 38), some (.int (nI i)), some (.int (nI r)), some (.int (nI a)), some (.int d), some (.int (nI (100 * r))), v, ok, pp, some (.int (nI w)), t, u] g := by
  refine J_iload (pq := 70) dX9_work_68 rfl rfl (J_iconst (pq := 71) dX9_work_70 rfl c_iconst_1 (J_icmp_ne (pq := 74) (tgt := 125) dX9_work_71 rfl rfl (fun c => ?_) (fun c => ?_)))
  · exact k
  · rw [show (1 : Int32) = nI 1 from rfl, nI_eq (by omega) (by omega)] at c; omega
theorem wk_51 {w : Nat} {v ok pp t u : Option Value} {g : JH} (hw : w < 7) (hw4 : w ≠ 0) (k : wJ x F 68 [some (.ref 38), some (.int (nI i)), some (.int (nI r)), some (.int (nI a)), some (.int d), some (.int (nI (100 * r))), v, ok, pp, some (.int (nI w)), t, u] g) : wJ x F 51 [some (.ref 38), some (.int (nI i)), some (.int (nI r)), some (.int (nI a)), some (.int d), some (.int (nI (100 * r))), v, ok, pp, some (.int (nI w)), t, u] g := by
  refine J_iload (pq := 53) dX9_work_51 rfl rfl (J_if_ne (pq := 56) (tgt := 68) dX9_work_53 rfl rfl (fun c => ?_) (fun c => ?_))
  · exact k
  · rw [show (0 : Int32) = nI 0 from rfl, nI_eq (by omega) (by omega)] at c; omega
/-- on to the order t -/
theorem wk_269 {w t : Nat} {pp u : Option Value} {s : JH × Nat × Bool × Nat} {T : Nat → Int32} (hI : Kp (wkI h) 100000 s) (hr : r < 4) (hA : wkA x i r a d F t s T) : wJ x F 269 [some (.ref 38), some (.int (nI i)), some (.int (nI r)), some (.int (nI a)), some (.int d), some (.int (nI (100 * r))), some (.int (nI s.2.1)), some (.int (bi s.2.2.1)), pp, some (.int (nI w)), some (.int (nI t)), u] (tS s.1 T (nI s.2.2.2)) := by
  refine J_iload (pq := 271) dX9_work_269 rfl rfl (J_istore (pq := 273) dX9_work_271 rfl (Nat.le_of_ble_eq_true rfl) (Nat.le_of_ble_eq_true rfl) rfl (J_goto (tgt := 15) dX9_work_273 rfl (?_)))
  exact J_weak (by simp [lsub]) rfl rfl (wk_J hI hr hA)
/-- an order is looked at -/
theorem wk_in {p o w : Nat} {s : JH × Nat × Bool × Nat} {T : Nat → Int32} (hI : Kp (wkI h) 100000 s) (hr : r < 4) (h61 : gi h 61 r = nI o) (ho : o ≤ 80) (hp : p < o) (hw : gi h 63 (100 * r + p) = nI w)
    (k : s.2.2.2 ≠ 0 → wJ x F 51 [some (.ref 38), some (.int (nI i)), some (.int (nI r)), some (.int (nI a)), some (.int d), some (.int (nI (100 * r))), some (.int (nI s.2.1)), some (.int (bi s.2.2.1)), some (.int (nI p)), some (.int (nI w)), some (.int (nI (p + 1))), none] (tS s.1 T (nI s.2.2.2)))
    (k0 : s.2.2.2 = 0 → F = (s.1, 0)) : wkA x i r a d F p s T := by
  unfold wkA
  by_cases h0 : s.2.2.2 = 0
  · rw [if_pos h0]; exact k0 h0
  rw [if_neg h0]
  have hK' : Kin (tS s.1 T (nI s.2.2.2)) := hI.1.1.of2 rfl
  have hR' : MR (tS s.1 T (nI s.2.2.2)) := hI.1.2.1.of2 rfl
  have hb5 : vp_in (nI r) 5 := vp_in_nI (by omega) (by omega)
  have hxr : ix (nI r) = r := ixn (by omega)
  have hL := hI.2
  have e61 : gi (tS s.1 T (nI s.2.2.2)) 61 r = nI o := by rw [tS_o (by decide) (by simp), hI.1.2.2.2.1 61 r (by decide) (by decide) (by decide) (by decide), h61]
  have ea : nI (100 * r) + nI p = nI (100 * r + p) := nI_add _ _
  have hbp : vp_in (nI (100 * r) + nI p) 500 := vinN ea (by omega) (by omega)
  have hxp : ix (nI (100 * r) + nI p) = 100 * r + p := by rw [ea, ixn (by omega)]
  have e63 : gi (tS s.1 T (nI s.2.2.2)) 63 (100 * r + p) = nI w := by rw [tS_o (by decide) (by simp), hI.1.2.2.2.1 63 _ (by decide) (by decide) (by decide) (by decide), hw]
  refine J_iload (pq := 17) dX9_work_15 rfl rfl (J_aload_n (pq := 18) dX9_work_17 rfl rfl (J_getA (pq := 21) dX9_work_18 rfl f_X9_85 (by decide +kernel) (hK'.at rfl) (hR' _ _ rfl) (J_iload_n (pq := 22) dX9_work_21 rfl rfl (J_iald (pq := 23) dX9_work_22 rfl (hK'.at rfl) (by assumption) (J_icmp_ge (pq := 26) (tgt := 276) dX9_work_23 rfl rfl (fun c => ?_) (fun c => ?_))))))
  · rw [hxr, e61, nI_leI (by omega) (by omega)] at c; omega
  · refine J_aload_n (pq := 27) dX9_work_26 rfl rfl (J_getI (pq := 30) dX9_work_27 rfl f_X9_324 jsI (hK'.at rfl) (J_if_le (pq := 33) (tgt := 276) dX9_work_30 rfl rfl (fun c => ?_) (fun c => ?_)))
    · have e55 : gi (tS s.1 T (nI s.2.2.2)) 38 55 = nI s.2.2.2 := rfl
      rw [e55, show (0 : Int32) = nI 0 from rfl, nI_leI (by omega) (by omega)] at c; omega
    · refine J_aload_n (pq := 34) dX9_work_33 rfl rfl (J_getA (pq := 37) dX9_work_34 rfl f_X9_91 (by decide +kernel) (hK'.at rfl) (hR' _ _ rfl) (J_iload (pq := 39) dX9_work_37 rfl rfl (J_iload (pq := 41) dX9_work_39 rfl rfl (J_iadd (pq := 42) dX9_work_41 rfl (J_iald (pq := 43) dX9_work_42 rfl (hK'.at rfl) (by assumption) (J_istore (pq := 45) dX9_work_43 rfl (Nat.le_of_ble_eq_true rfl) (Nat.le_of_ble_eq_true rfl) rfl (J_iload (pq := 47) dX9_work_45 rfl rfl (J_iconst (pq := 48) dX9_work_47 rfl c_iconst_1 (J_iadd (pq := 49) dX9_work_48 rfl (J_istore (pq := 51) dX9_work_49 rfl (Nat.le_of_ble_eq_true rfl) (Nat.le_of_ble_eq_true rfl) rfl (?_)))))))))))
      rw [hxp, e63, nI_1]
      exact k h0
end X2
