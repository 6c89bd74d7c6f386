-- the reference's walk over all ways
def sC (h : JH) (s : (Nat → Int32) × Int32) : JH := (fun a b => if a = 74 then s.1 b else if a = 38 ∧ b = 53 then s.2 else h.1 a b, h.2)
theorem gi_sC (h : JH) (s : (Nat → Int32) × Int32) (a b : Nat) : gi (sC h s) a b = if a = 74 then s.1 b else if a = 38 ∧ b = 53 then s.2 else gi h a b := rfl
theorem sC_o {h : JH} {s : (Nat → Int32) × Int32} {a b : Nat} (h1 : a ≠ 74) (h2 : ¬ (a = 38 ∧ b = 53)) : gi (sC h s) a b = gi h a b := by rw [gi_sC, if_neg h1, if_neg h2]
theorem sC_sC (h : JH) (s s' : (Nat → Int32) × Int32) : sC (sC h s) s' = sC h s' := JH_ext rfl (fun a b => by
  rw [gi_sC, gi_sC, gi_sC]
  by_cases h1 : a = 74
  · rw [if_pos h1, if_pos h1]
  · rw [if_neg h1, if_neg h1, if_neg h1]
    by_cases h2 : a = 38 ∧ b = 53
    · rw [if_pos h2, if_pos h2]
    · rw [if_neg h2, if_neg h2, if_neg h2])
def flw (s : (Nat → Int32) × Int32) (t : Nat) (S : Int32) : (Nat → Int32) × Int32 := if S &&& (s.1 t ^^^ (-1)) = 0 then s else (fun j => if j = t then s.1 t ||| S else s.1 j, 1)
def flE (S : Int32) : List (Nat × Option Nat) → (Nat → Int32) × Int32 → (Nat → Int32) × Int32
  | [], s => s
  | e :: E, s => flE S E (flw s e.1 (match e.2 with | none => S | some n => (1 : Int32) <<< (nI n &&& 31)))
def ffr (G : Nat → Nat → Int32) (b k : Nat) (s : (Nat → Int32) × Int32) : (Nat → Int32) × Int32 := if s.1 k = 0 then s else flE (s.1 k) (odE G b k) s
/-- what may still come -/
def wsum (C : Nat → Int32) : Nat → Nat
  | 0 => 0
  | n + 1 => wsum C n + (4294967296 - (C n).toBitVec.toNat)
theorem or_ge (u v : Int32) : u.toBitVec.toNat ≤ (u ||| v).toBitVec.toNat := by
  rw [Int32.toBitVec_or, BitVec.toNat_or]; exact Nat.left_le_or
theorem or_gt {u v : Int32} (h : (u ||| v) ≠ u) : u.toBitVec.toNat < (u ||| v).toBitVec.toNat := by
  have h1 := or_ge u v
  rcases Nat.lt_or_eq_of_le h1 with h2 | h2
  · exact h2
  · exact absurd (Int32.toBitVec_inj.1 (BitVec.eq_of_toNat_eq h2.symm)) h
theorem wsum_le {C C' : Nat → Int32} (h : ∀ k, (C k).toBitVec.toNat ≤ (C' k).toBitVec.toNat) : ∀ n, wsum C' n ≤ wsum C n
  | 0 => Nat.le_refl _
  | n + 1 => by
    have := wsum_le h n
    have := h n
    rw [wsum, wsum]; omega
theorem wsum_lt {C C' : Nat → Int32} (h : ∀ k, (C k).toBitVec.toNat ≤ (C' k).toBitVec.toNat) {t : Nat} (ht : (C t).toBitVec.toNat < (C' t).toBitVec.toNat) : ∀ n, t < n → wsum C' n < wsum C n
  | 0, q => by omega
  | n + 1, q => by
    have h1 := wsum_le h n
    have h2 := h n
    rw [wsum, wsum]
    by_cases hn : t = n
    · subst hn
      have := (C' t).toBitVec.isLt
      omega
    · have := wsum_lt h ht n (by omega)
      omega
def UB (C : Nat → Int32) (M : Nat → Nat) : Prop := ∀ k u, k ≤ 100 → bt (C k) u = true → u ≤ M k
/-- how one state of what has come follows another -/
def FS (s s' : (Nat → Int32) × Int32) : Prop := (∀ k u, bt (s.1 k) u = true → bt (s'.1 k) u = true) ∧ wsum s'.1 101 ≤ wsum s.1 101 ∧ (s'.2 = 0 → s.2 = 0 ∧ s'.1 = s.1) ∧ (s.2 = 0 ∨ s.2 = 1 → s'.2 = 0 ∨ s'.2 = 1) ∧ (s'.2 ≠ 0 → s.2 ≠ 0 ∨ wsum s'.1 101 < wsum s.1 101)
theorem FS.rf (s : (Nat → Int32) × Int32) : FS s s := ⟨fun _ _ h => h, Nat.le_refl _, fun h => ⟨h, rfl⟩, id, Or.inl⟩
theorem FS.tr {s t u : (Nat → Int32) × Int32} (h : FS s t) (k : FS t u) : FS s u := by
  obtain ⟨a1, a2, a3, a4, a5⟩ := h
  obtain ⟨b1, b2, b3, b4, b5⟩ := k
  refine ⟨fun k u q => b1 k u (a1 k u q), by omega, fun q => ?_, fun q => b4 (a4 q), fun q => ?_⟩
  · obtain ⟨c1, c2⟩ := b3 q
    obtain ⟨d1, d2⟩ := a3 c1
    exact ⟨d1, c2.trans d2⟩
  · rcases b5 q with c | c
    · rcases a5 c with d | d
      · exact Or.inl d
      · exact Or.inr (by omega)
    · exact Or.inr (by omega)
theorem flw_fs {s : (Nat → Int32) × Int32} {t : Nat} {S : Int32} (ht : t ≤ 100) : FS s (flw s t S) := by
  unfold flw
  by_cases h : S &&& (s.1 t ^^^ (-1)) = 0
  · rw [if_pos h]; exact FS.rf s
  · rw [if_neg h]
    have hne : (s.1 t ||| S) ≠ s.1 t := fun q => h (bt_in.2 fun b hb => by rw [← q, bt_or, hb, Bool.or_true])
    have hm : ∀ k, (s.1 k).toBitVec.toNat ≤ ((fun j => if j = t then s.1 t ||| S else s.1 j) k).toBitVec.toNat := fun k => by
      simp only
      split
      · rename_i q; rw [q]; exact or_ge _ _
      · exact Nat.le_refl _
    refine ⟨fun k u q => ?_, wsum_le hm 101, fun q => absurd q (by simp), fun _ => Or.inr rfl, fun _ => Or.inr (wsum_lt hm (t := t) ?_ 101 (by omega))⟩
    · simp only
      split
      · rename_i e; rw [bt_or, ← e, q]; rfl
      · exact q
    · simp only [if_true]; exact or_gt hne
theorem flw_ub {s : (Nat → Int32) × Int32} {t : Nat} {S : Int32} {M : Nat → Nat} (h : UB s.1 M) (ht : ∀ u, bt S u = true → u ≤ M t) : UB (flw s t S).1 M := by
  unfold flw
  split
  · exact h
  · intro k u hk hu
    simp only at hu
    by_cases hkt : k = t
    · subst hkt
      rw [if_pos rfl, bt_or, Bool.or_eq_true] at hu
      exact hu.elim (h k u hk) (ht u)
    · rw [if_neg hkt] at hu; exact h k u hk hu
theorem flw_cl {s : (Nat → Int32) × Int32} {t : Nat} {S : Int32} (h : (flw s t S).2 = 0) : ∀ u, bt S u = true → bt (s.1 t) u = true := by
  unfold flw at h
  by_cases hc : S &&& (s.1 t ^^^ (-1)) = 0
  · exact bt_in.1 hc
  · rw [if_neg hc] at h; exact absurd h (show ¬ (1 : Int32) = 0 by decide)
def eS (S : Int32) (e : Nat × Option Nat) : Int32 := match e.2 with | none => S | some n => (1 : Int32) <<< (nI n &&& 31)
theorem flE_s {S : Int32} : ∀ (E : List (Nat × Option Nat)) (s : (Nat → Int32) × Int32), (∀ e, e ∈ E → e.1 ≤ 100) → FS s (flE S E s) ∧ (∀ M, UB s.1 M → (∀ e, e ∈ E → ∀ u, bt (eS S e) u = true → u ≤ M e.1) → UB (flE S E s).1 M) ∧ ((flE S E s).2 = 0 → ∀ e, e ∈ E → ∀ u, bt (eS S e) u = true → bt (s.1 e.1) u = true)
  | [], s, _ => ⟨FS.rf s, fun _ h _ => h, fun _ e he => by cases he⟩
  | e :: E, s, hE => by
    obtain ⟨a1, a2, a3⟩ := flE_s E (flw s e.1 (eS S e)) (fun e' he => hE e' (List.mem_cons_of_mem _ he))
    have hf := flw_fs (s := s) (S := eS S e) (hE e (List.mem_cons_self ..))
    refine ⟨hf.tr a1, fun M hu hM => a2 M (flw_ub hu (hM e (List.mem_cons_self ..))) (fun e' he => hM e' (List.mem_cons_of_mem _ he)), fun h0 e' he => ?_⟩
    have h1 := a1.2.2.1 h0
    have h2 := hf.2.2.1 h1.1
    rcases List.mem_cons.1 he with rfl | he
    · exact flw_cl h1.1
    · have := a3 h0 e' he
      rw [h2.2] at this
      exact this
theorem ffr_s {G : Nat → Nat → Int32} {b k : Nat} {s : (Nat → Int32) × Int32} (hE : ∀ e, e ∈ odE G b k → e.1 ≤ 100) (hn : ∀ e, e ∈ odE G b k → ∀ n, e.2 = some n → n < 32) : FS s (ffr G b k s) ∧ (∀ M, k ≤ 100 → UB s.1 M → (∀ e, e ∈ odE G b k → e.2.getD (M k) ≤ M e.1) → UB (ffr G b k s).1 M) ∧ ((ffr G b k s).2 = 0 → s.1 k ≠ 0 → ∀ e, e ∈ odE G b k → ClE s.1 k e) := by
  unfold ffr
  by_cases h0 : s.1 k = 0
  · rw [if_pos h0]; exact ⟨FS.rf s, fun _ _ h _ => h, fun _ q => absurd h0 q⟩
  · rw [if_neg h0]
    obtain ⟨a1, a2, a3⟩ := flE_s (S := s.1 k) (odE G b k) s hE
    refine ⟨a1, fun M hk hu hM => a2 M hu (fun e he u hb => ?_), fun q _ e he => ?_⟩
    · have h1 := hM e he
      have h2 := hn e he
      obtain ⟨t, o⟩ := e
      cases o with
      | none => exact Nat.le_trans (hu k u hk hb) h1
      | some n =>
        have hb : bt ((1 : Int32) <<< (nI n &&& 31)) u = true := hb
        rw [bt_sh (h2 n rfl), decide_eq_true_eq] at hb
        subst hb; exact h1
    · have h1 := a3 q e he
      have h2 := hn e he
      obtain ⟨t, o⟩ := e
      cases o with
      | none => exact ⟨fun _ => h1, (fun n q => by cases q)⟩
      | some n =>
        refine ⟨(fun q => by cases q), (fun n' q => ?_)⟩
        cases q
        exact h1 n (by show bt ((1 : Int32) <<< (nI n &&& 31)) n = true; rw [bt_sh (h2 n rfl)]; simp)
section P9
variable {x : JX} {h : JH}
theorem Kin_sC {s : (Nat → Int32) × Int32} (hK : Kin h) : Kin (sC h s) := hK.of2 rfl
theorem MR_sC {s : (Nat → Int32) × Int32} (hR : MR h) : MR (sC h s) := hR.of2 rfl
theorem j_X9_flow {s : (Nat → Int32) × Int32} {t : Nat} {S : Int32} (hK : Kin h) (hR : MR h) (ht : t ≤ 100) : JF x yX9_flow cX9_flow 3 none 0 0 0 [.ref 38, .int (nI t), .int S] (sC h s) none (sC h (flw s t S)) := by
  refine JM_of [some (.ref 38), some (.int (nI t)), some (.int S)] (by decide) (Nat.le_of_ble_eq_true rfl) rfl ?_
  have hK' := Kin_sC (s := s) hK
  have hR' := MR_sC (s := s) hR
  have hb : vp_in (nI t) 101 := vp_in_nI (by omega) (by omega)
  have hx : ix (nI t) = t := ixn (by omega)
  have e74 : gi (sC h s) 74 t = s.1 t := rfl
  refine J_iload_n (pq := 1) dX9_flow_0 rfl rfl (J_aload_n (pq := 2) dX9_flow_1 rfl rfl (J_getA (pq := 5) dX9_flow_2 rfl f_X9_124 (by decide +kernel) (hK'.at rfl) (hR' _ _ rfl) (J_iload_n (pq := 6) dX9_flow_5 rfl rfl (J_iald (pq := 7) dX9_flow_6 rfl (hK'.at rfl) (by assumption) (J_iconst (pq := 8) dX9_flow_7 rfl c_iconst_m1 (J_ixor (pq := 9) dX9_flow_8 rfl (J_iand (pq := 10) dX9_flow_9 rfl (J_if_ne (pq := 13) (tgt := 14) dX9_flow_10 rfl rfl (fun c => ?_) (fun c => ?_)))))))))
  · rw [hx, e74] at c
    refine J_aload_n (pq := 15) dX9_flow_14 rfl rfl (J_getA (pq := 18) dX9_flow_15 rfl f_X9_124 (by decide +kernel) (hK'.at rfl) (hR' _ _ rfl) (J_iload_n (pq := 19) dX9_flow_18 rfl rfl (J_dup2 (pq := 20) dX9_flow_19 rfl rfl rfl (J_iald (pq := 21) dX9_flow_20 rfl (hK'.at rfl) (by assumption) (J_iload_n (pq := 22) dX9_flow_21 rfl rfl (J_ior (pq := 23) dX9_flow_22 rfl (J_iast (pq := 24) dX9_flow_23 rfl (hK'.at rfl) (by assumption) (J_aload_n (pq := 25) dX9_flow_24 rfl rfl (J_iconst (pq := 26) dX9_flow_25 rfl c_iconst_1 (J_putZ (pq := 29) dX9_flow_26 rfl f_X9_298 (Or.inl rfl) (hK'.at rfl) (by first | exact bi_or _ | exact Or.inl rfl | exact Or.inr rfl | assumption) (J_vret dX9_flow_29 rfl ?_)))))))))))
    refine ⟨rfl, ?_⟩
    unfold flw
    rw [if_neg c, hx, e74]
    refine JH_ext rfl (fun a b => ?_)
    rw [gi_si, gi_si, gi_sC, gi_sC]
    by_cases h1 : a = 74
    · subst h1
      by_cases h2 : b = t
      · simp [h2]
      · simp [h2]
    · by_cases h2 : a = 38 ∧ b = 53
      · obtain ⟨rfl, rfl⟩ := h2; simp
      · rw [if_neg h2, if_neg (by omega), if_neg h1, if_neg h2, if_neg h1, if_neg h2]
  · rw [hx, e74] at c
    refine J_vret dX9_flow_13 rfl ?_
    refine ⟨rfl, ?_⟩
    unfold flw
    rw [if_pos c]
theorem j_X9_flowFrom {s : (Nat → Int32) × Int32} {b k : Nat} (hK : Kin h) (hR : MR h) (hV : OV (gi h) b k) (hk : k < 100) (hb4 : b ≤ 300) (hE : ∀ e, e ∈ odE (gi h) b k → e.1 ≤ 100) : JF x yX9_flowFrom cX9_flowFrom 5 none 1 0 0 [.ref 38, .int (nI b), .int (nI k)] (sC h s) none (sC h (ffr (gi h) b k s)) := by
  refine JM_of [some (.ref 38), some (.int (nI b)), some (.int (nI k)), none, none] (by decide) (Nat.le_of_ble_eq_true rfl) rfl ?_
  have hK' := Kin_sC (s := s) hK
  have hR' := MR_sC (s := s) hR
  have hb : vp_in (nI k) 101 := vp_in_nI (by omega) (by omega)
  have hx : ix (nI k) = k := ixn (by omega)
  have hib : vp_in (nI b + nI k) 500 := vinN (k := b + k) (nI_add b k) (by omega) (by omega)
  have hxb : ix (nI b + nI k) = b + k := by rw [nI_add, ixn (by omega)]
  have e74 : gi (sC h s) 74 k = s.1 k := rfl
  have e63 : ∀ j (s' : (Nat → Int32) × Int32), gi (sC h s') 63 j = gi h 63 j := fun j _ => rfl
  have e64 : ∀ j (s' : (Nat → Int32) × Int32), gi (sC h s') 64 j = gi h 64 j := fun j _ => rfl
  have e65 : ∀ j (s' : (Nat → Int32) × Int32), gi (sC h s') 65 j = gi h 65 j := fun j _ => rfl
  refine J_aload_n (pq := 1) dX9_flowFrom_0 rfl rfl (J_getA (pq := 4) dX9_flowFrom_1 rfl f_X9_124 (by decide +kernel) (hK'.at rfl) (hR' _ _ rfl) (J_iload_n (pq := 5) dX9_flowFrom_4 rfl rfl (J_iald (pq := 6) dX9_flowFrom_5 rfl (hK'.at rfl) (by assumption) (J_istore_m 3 (pq := 7) dX9_flowFrom_6 rfl rfl (Nat.le_of_ble_eq_true rfl) (Nat.le_of_ble_eq_true rfl) rfl (?_)))))
  rw [hx, e74]
  refine J_iload_n (pq := 8) dX9_flowFrom_7 rfl rfl (J_if_ne (pq := 11) (tgt := 12) dX9_flowFrom_8 rfl rfl (fun c => ?_) (fun c => ?_))
  · have hne := c
    unfold ffr
    rw [if_neg hne]
    unfold odE at hE ⊢
    generalize hS : s.1 k = S at *
    refine J_aload_n (pq := 13) dX9_flowFrom_12 rfl rfl (J_getA (pq := 16) dX9_flowFrom_13 rfl f_X9_91 (by decide +kernel) (hK'.at rfl) (hR' _ _ rfl) (J_iload_n (pq := 17) dX9_flowFrom_16 rfl rfl (J_iload_n (pq := 18) dX9_flowFrom_17 rfl rfl (J_iadd (pq := 19) dX9_flowFrom_18 rfl (J_iald (pq := 20) dX9_flowFrom_19 rfl (hK'.at rfl) (by assumption) (J_istore (pq := 22) dX9_flowFrom_20 rfl (Nat.le_of_ble_eq_true rfl) (Nat.le_of_ble_eq_true rfl) rfl (?_)))))))
    rw [hxb, e63]
    generalize hw : gi h 63 (b + k) = w at *
    refine J_iload (pq := 24) dX9_flowFrom_22 rfl rfl (J_if_ne (pq := 27) (tgt := 47) dX9_flowFrom_24 rfl rfl (fun c => ?_) (fun c => ?_))
    · have c0 := c
      rw [if_neg c0] at hE ⊢
      refine J_cut (σ := Unit) 59 (fun _ => [some (.ref 38), some (.int (nI b)), some (.int (nI k)), some (.int S), some (.int w)]) (fun _ => []) (fun _ => sC h s) (fun _ => w = 3 ∨ w = 5) (fun _ hc => ?_) (fun k59 => ?_)
      · rw [if_pos hc] at hE ⊢
        obtain ⟨t, ht, h65⟩ := hV.2 (by rw [hw]; rcases hc with q | q <;> simp [q])
        rw [h65, ixn (by omega)] at hE ⊢
        have hk1 := hE (k + 1, none) (by simp)
        have ht1 := hE (t, none) (by simp)
        have hK1 := Kin_sC (s := flw s (k + 1) S) hK
        have hR1 := MR_sC (s := flw s (k + 1) S) hR
        have hfl := j_X9_flow (x := x) (s := s) (S := S) hK hR hk1
        rw [← nI_1] at hfl
        refine J_aload_n (pq := 60) dX9_flowFrom_59 rfl rfl (J_iload_n (pq := 61) dX9_flowFrom_60 rfl rfl (J_iconst (pq := 62) dX9_flowFrom_61 rfl c_iconst_1 (J_iadd (pq := 63) dX9_flowFrom_62 rfl (J_iload_n (pq := 64) dX9_flowFrom_63 rfl rfl (J_virtF (pq := 67) dX9_flowFrom_64 rfl (hfl) rfl tg_X9_flow l_X9_304 vi_X9_flow (hK'.at rfl) ⟨by decide, rfl⟩ (Nat.le_of_ble_eq_true rfl) (Nat.zero_le _) (Nat.zero_le _) (Nat.le_of_ble_eq_true rfl) (?_))))))
        refine J_aload_n (pq := 68) dX9_flowFrom_67 rfl rfl (J_aload_n (pq := 69) dX9_flowFrom_68 rfl rfl (J_getA (pq := 72) dX9_flowFrom_69 rfl f_X9_97 (by decide +kernel) (hK1.at rfl) (hR1 _ _ rfl) (J_iload_n (pq := 73) dX9_flowFrom_72 rfl rfl (J_iload_n (pq := 74) dX9_flowFrom_73 rfl rfl (J_iadd (pq := 75) dX9_flowFrom_74 rfl (J_iald (pq := 76) dX9_flowFrom_75 rfl (hK1.at rfl) (by assumption) (?_)))))))
        rw [hxb, e65, h65]
        refine J_iload_n (pq := 77) dX9_flowFrom_76 rfl rfl (J_virtF (pq := 80) dX9_flowFrom_77 rfl (j_X9_flow hK hR ht1) rfl tg_X9_flow l_X9_304 vi_X9_flow (hK1.at rfl) ⟨by decide, rfl⟩ (Nat.le_of_ble_eq_true rfl) (Nat.zero_le _) (Nat.zero_le _) (Nat.le_of_ble_eq_true rfl) (J_goto (tgt := 160) dX9_flowFrom_80 rfl (J_vret dX9_flowFrom_160 rfl ?_)))
        exact ⟨rfl, rfl⟩
      · refine J_iload (pq := 49) dX9_flowFrom_47 rfl rfl (J_iconst (pq := 50) dX9_flowFrom_49 rfl c_iconst_3 (J_icmp_eq (pq := 53) (tgt := 59) dX9_flowFrom_50 rfl rfl (fun c => ?_) (fun c => ?_)))
        · exact k59 () (Or.inl c)
        · have c3 := c
          refine J_iload (pq := 55) dX9_flowFrom_53 rfl rfl (J_iconst (pq := 56) dX9_flowFrom_55 rfl c_iconst_5 (J_icmp_ne (pq := 59) (tgt := 83) dX9_flowFrom_56 rfl rfl (fun c => ?_) (fun c => ?_)))
          · have c5 := c
            rw [if_neg (by rintro (q | q) <;> contradiction)] at hE ⊢
            refine J_iload (pq := 85) dX9_flowFrom_83 rfl rfl (J_iconst (pq := 86) dX9_flowFrom_85 rfl c_iconst_4 (J_icmp_ne (pq := 89) (tgt := 134) dX9_flowFrom_86 rfl rfl (fun c => ?_) (fun c => ?_)))
            · have c4 := c
              rw [if_neg c4] at hE ⊢
              refine J_cut (σ := Nat) 156 (fun _ => [some (.ref 38), some (.int (nI b)), some (.int (nI k)), some (.int S), some (.int w)]) (fun t => [.int (nI t), .ref 38]) (fun _ => sC h s) (fun t => t ≤ 100 ∧ (if w = 6 then [(ix (gi h 65 (b + k)), (none : Option Nat))] else [(k + 1, none)]) = [(t, none)]) (fun t ht => ?_) (fun k156 => ?_)
              · rw [ht.2]
                refine J_iload_n (pq := 157) dX9_flowFrom_156 rfl rfl (J_virtF (pq := 160) dX9_flowFrom_157 rfl (j_X9_flow hK hR ht.1) rfl tg_X9_flow l_X9_304 vi_X9_flow (hK'.at rfl) ⟨by decide, rfl⟩ (Nat.le_of_ble_eq_true rfl) (Nat.zero_le _) (Nat.zero_le _) (Nat.le_of_ble_eq_true rfl) (J_vret dX9_flowFrom_160 rfl ?_))
                exact ⟨rfl, rfl⟩
              · refine J_aload_n (pq := 135) dX9_flowFrom_134 rfl rfl (J_iload (pq := 137) dX9_flowFrom_135 rfl rfl (J_bipush (pq := 139) dX9_flowFrom_137 rfl c_bipush_6 (J_icmp_ne (pq := 142) (tgt := 153) dX9_flowFrom_139 rfl rfl (fun c => ?_) (fun c => ?_))))
                · have c6 := c
                  rw [if_neg c6] at hE
                  have hk1 := hE (k + 1, none) (by simp)
                  refine J_iload_n (pq := 154) dX9_flowFrom_153 rfl rfl (J_iconst (pq := 155) dX9_flowFrom_154 rfl c_iconst_1 (J_iadd (pq := 156) dX9_flowFrom_155 rfl (?_)))
                  rw [nI_1]
                  exact k156 (k + 1) ⟨hk1, by rw [if_neg c6]⟩
                · have c6 := c
                  rw [if_pos c6] at hE
                  obtain ⟨t, ht, h65⟩ := hV.2 (by rw [hw, c6]; simp)
                  refine J_aload_n (pq := 143) dX9_flowFrom_142 rfl rfl (J_getA (pq := 146) dX9_flowFrom_143 rfl f_X9_97 (by decide +kernel) (hK'.at rfl) (hR' _ _ rfl) (J_iload_n (pq := 147) dX9_flowFrom_146 rfl rfl (J_iload_n (pq := 148) dX9_flowFrom_147 rfl rfl (J_iadd (pq := 149) dX9_flowFrom_148 rfl (J_iald (pq := 150) dX9_flowFrom_149 rfl (hK'.at rfl) (by assumption) (J_goto (tgt := 156) dX9_flowFrom_150 rfl (?_)))))))
                  rw [hxb, e65, h65]
                  have := k156 t ⟨by omega, by rw [if_pos c6, h65, ixn (by omega)]⟩
                  rw [h65] at this
                  exact this
            · have c4 := c
              rw [if_pos c4] at hE ⊢
              obtain ⟨t, ht, h65⟩ := hV.2 (by rw [hw, c4]; simp)
              rw [h65, ixn (by omega)] at hE ⊢
              have hk1 : k + 1 ≤ 100 := by omega
              have hK1 := Kin_sC (s := flw s (k + 1) S) hK
              have hR1 := MR_sC (s := flw s (k + 1) S) hR
              have hfl := j_X9_flow (x := x) (s := s) (S := S) hK hR hk1
              rw [← nI_1] at hfl
              refine J_aload_n (pq := 90) dX9_flowFrom_89 rfl rfl (J_iload_n (pq := 91) dX9_flowFrom_90 rfl rfl (J_iconst (pq := 92) dX9_flowFrom_91 rfl c_iconst_1 (J_iadd (pq := 93) dX9_flowFrom_92 rfl (J_iload_n (pq := 94) dX9_flowFrom_93 rfl rfl (J_virtF (pq := 97) dX9_flowFrom_94 rfl (hfl) rfl tg_X9_flow l_X9_304 vi_X9_flow (hK'.at rfl) ⟨by decide, rfl⟩ (Nat.le_of_ble_eq_true rfl) (Nat.zero_le _) (Nat.zero_le _) (Nat.le_of_ble_eq_true rfl) (?_))))))
              have hit : vp_in (nI b + nI t) 500 := vinN (k := b + t) (nI_add b t) (by omega) (by omega)
              have hxt : ix (nI b + nI t) = b + t := by rw [nI_add, ixn (by omega)]
              refine J_aload_n (pq := 98) dX9_flowFrom_97 rfl rfl (J_getA (pq := 101) dX9_flowFrom_98 rfl f_X9_94 (by decide +kernel) (hK1.at rfl) (hR1 _ _ rfl) (J_iload_n (pq := 102) dX9_flowFrom_101 rfl rfl (J_aload_n (pq := 103) dX9_flowFrom_102 rfl rfl (J_getA (pq := 106) dX9_flowFrom_103 rfl f_X9_97 (by decide +kernel) (hK1.at rfl) (hR1 _ _ rfl) (J_iload_n (pq := 107) dX9_flowFrom_106 rfl rfl (J_iload_n (pq := 108) dX9_flowFrom_107 rfl rfl (J_iadd (pq := 109) dX9_flowFrom_108 rfl (J_iald (pq := 110) dX9_flowFrom_109 rfl (hK1.at rfl) (by assumption) (?_)))))))))
              rw [hxb, e65, h65]
              refine J_iadd (pq := 111) dX9_flowFrom_110 rfl (J_iald (pq := 112) dX9_flowFrom_111 rfl (hK1.at rfl) (by assumption) (J_iconst (pq := 113) dX9_flowFrom_112 rfl c_iconst_1 (J_icmp_le (pq := 116) (tgt := 160) dX9_flowFrom_113 rfl rfl (fun c => ?_) (fun c => ?_))))
              · rw [hxt, e64] at c
                rw [if_pos c]
                refine J_vret dX9_flowFrom_160 rfl ?_
                exact ⟨rfl, rfl⟩
              · rw [hxt, e64] at c
                rw [if_neg c] at hE ⊢
                have ht1 : t + 1 ≤ 100 := by omega
                refine J_aload_n (pq := 117) dX9_flowFrom_116 rfl rfl (J_aload_n (pq := 118) dX9_flowFrom_117 rfl rfl (J_getA (pq := 121) dX9_flowFrom_118 rfl f_X9_97 (by decide +kernel) (hK1.at rfl) (hR1 _ _ rfl) (J_iload_n (pq := 122) dX9_flowFrom_121 rfl rfl (J_iload_n (pq := 123) dX9_flowFrom_122 rfl rfl (J_iadd (pq := 124) dX9_flowFrom_123 rfl (J_iald (pq := 125) dX9_flowFrom_124 rfl (hK1.at rfl) (by assumption) (?_)))))))
                rw [hxb, e65, h65]
                refine J_iconst (pq := 126) dX9_flowFrom_125 rfl c_iconst_1 (J_iadd (pq := 127) dX9_flowFrom_126 rfl (?_))
                rw [nI_1]
                refine J_iload_n (pq := 128) dX9_flowFrom_127 rfl rfl (J_virtF (pq := 131) dX9_flowFrom_128 rfl (j_X9_flow hK hR ht1) rfl tg_X9_flow l_X9_304 vi_X9_flow (hK1.at rfl) ⟨by decide, rfl⟩ (Nat.le_of_ble_eq_true rfl) (Nat.zero_le _) (Nat.zero_le _) (Nat.le_of_ble_eq_true rfl) (J_goto (tgt := 160) dX9_flowFrom_131 rfl (J_vret dX9_flowFrom_160 rfl ?_)))
                exact ⟨rfl, rfl⟩
          · exact k59 () (Or.inr (by simpa using c))
    · have c0 := c
      rw [if_pos c0] at hE ⊢
      obtain ⟨n, hn, h64⟩ := hV.1 (by rw [hw]; exact c0)
      have hk1 := hE (k + 1, some (ix (gi h 64 (b + k)))) (by simp)
      refine J_aload_n (pq := 28) dX9_flowFrom_27 rfl rfl (J_iload_n (pq := 29) dX9_flowFrom_28 rfl rfl (J_iconst (pq := 30) dX9_flowFrom_29 rfl c_iconst_1 (J_iadd (pq := 31) dX9_flowFrom_30 rfl (J_iconst (pq := 32) dX9_flowFrom_31 rfl c_iconst_1 (J_aload_n (pq := 33) dX9_flowFrom_32 rfl rfl (J_getA (pq := 36) dX9_flowFrom_33 rfl f_X9_94 (by decide +kernel) (hK'.at rfl) (hR' _ _ rfl) (J_iload_n (pq := 37) dX9_flowFrom_36 rfl rfl (J_iload_n (pq := 38) dX9_flowFrom_37 rfl rfl (J_iadd (pq := 39) dX9_flowFrom_38 rfl (J_iald (pq := 40) dX9_flowFrom_39 rfl (hK'.at rfl) (by assumption) (?_)))))))))))
      rw [hxb, e64, h64, nI_1]
      refine J_ishl (pq := 41) dX9_flowFrom_40 rfl (J_virtF (pq := 44) dX9_flowFrom_41 rfl (j_X9_flow hK hR hk1) rfl tg_X9_flow l_X9_304 vi_X9_flow (hK'.at rfl) ⟨by decide, rfl⟩ (Nat.le_of_ble_eq_true rfl) (Nat.zero_le _) (Nat.zero_le _) (Nat.le_of_ble_eq_true rfl) (J_goto (tgt := 160) dX9_flowFrom_44 rfl (J_vret dX9_flowFrom_160 rfl ?_)))
      rw [ixn (by omega)]
      exact ⟨rfl, rfl⟩
  · have c0 : s.1 k = 0 := by simpa using c
    refine J_vret dX9_flowFrom_11 rfl ?_
    unfold ffr
    rw [if_pos c0]
    exact ⟨rfl, rfl⟩
end P9
