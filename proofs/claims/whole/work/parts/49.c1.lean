-- the class: a worker
def wS (g : JH) (z : Nat) (s : Nat × Bool × Nat) : JH := (fun a b => if a = z ∧ b = 2 then nI s.2.2 else if a = z ∧ b = 5 then nI s.1 else if a = z ∧ b = 6 then bi s.2.1 else g.1 a b, g.2)
theorem gi_wS (g : JH) (z : Nat) (s : Nat × Bool × Nat) (a b : Nat) : gi (wS g z s) a b = if a = z ∧ b = 2 then nI s.2.2 else if a = z ∧ b = 5 then nI s.1 else if a = z ∧ b = 6 then bi s.2.1 else gi g a b := rfl
theorem wS_o {g : JH} {z : Nat} {s : Nat × Bool × Nat} {a b : Nat} (h : ¬ (a = z ∧ (b = 2 ∨ b = 5 ∨ b = 6))) : gi (wS g z s) a b = gi g a b := by
  rw [gi_wS, if_neg (by omega), if_neg (by omega), if_neg (by omega)]
theorem wS_2 {g : JH} {z : Nat} {s : Nat × Bool × Nat} : gi (wS g z s) z 2 = nI s.2.2 := by rw [gi_wS, if_pos ⟨rfl, rfl⟩]
theorem wS_5 {g : JH} {z : Nat} {s : Nat × Bool × Nat} : gi (wS g z s) z 5 = nI s.1 := by rw [gi_wS, if_neg (by omega), if_pos ⟨rfl, rfl⟩]
theorem wS_6 {g : JH} {z : Nat} {s : Nat × Bool × Nat} : gi (wS g z s) z 6 = bi s.2.1 := by rw [gi_wS, if_neg (by omega), if_neg (by omega), if_pos ⟨rfl, rfl⟩]
theorem wS_p2 (g : JH) (z : Nat) (s : Nat × Bool × Nat) (l : Nat) : si (wS g z s) z 2 (nI l) = wS g z (s.1, s.2.1, l) := JH_ext rfl (fun a b => by
  rw [gi_si, gi_wS, gi_wS]
  by_cases h : a = z ∧ b = 2
  · rw [if_pos h, if_pos h]
  · rw [if_neg h, if_neg h, if_neg h])
theorem wS_p5 (g : JH) (z : Nat) (s : Nat × Bool × Nat) (l : Nat) : si (wS g z s) z 5 (nI l) = wS g z (l, s.2.1, s.2.2) := JH_ext rfl (fun a b => by
  rw [gi_si, gi_wS, gi_wS]
  by_cases h : a = z ∧ b = 5
  · rw [if_pos h, if_neg (by omega), if_pos h]
  · rw [if_neg h, if_neg h, if_neg h])
theorem wS_p6 (g : JH) (z : Nat) (s : Nat × Bool × Nat) (l : Bool) : si (wS g z s) z 6 (bi l) = wS g z (s.1, l, s.2.2) := JH_ext rfl (fun a b => by
  rw [gi_si, gi_wS, gi_wS]
  by_cases h : a = z ∧ b = 6
  · rw [if_pos h, if_neg (by omega), if_neg (by omega), if_pos h]
  · rw [if_neg h, if_neg h, if_neg h])
theorem wS_si (g : JH) (z : Nat) (s : Nat × Bool × Nat) {o k : Nat} {v : Int32} (h : o ≠ z) : si (wS g z s) o k v = wS (si g o k v) z s := JH_ext rfl (fun a b => by
  rw [gi_si, gi_wS, gi_wS, gi_si]
  by_cases ha : a = o ∧ b = k
  · rw [if_pos ha, if_neg (by omega), if_neg (by omega), if_neg (by omega), if_pos ha]
  · rw [if_neg ha, if_neg ha])
theorem wS_P (g : JH) (z q a : Nat) (d v : Int32) (s : Nat × Bool × Nat) (hz : q + 8 ≤ z) : xPulse (wS g z s) q a d v = wS (xPulse g q a d v) z s := by
  have e : ∀ o k, o ≠ z → gi (wS g z s) o k = gi g o k := fun o k h1 => wS_o (fun q => h1 q.1)
  unfold xPulse
  simp only [e q _ (by omega), e (q + 3) _ (by omega), e (q + 4) _ (by omega), e (q + 5) _ (by omega), e (q + 6) _ (by omega), e (q + 7) _ (by omega)]
  repeat' split
  all_goals (repeat rw [wS_si _ _ _ (by omega)])
/-- what a chip's pulses keep -/
def pI (q : Nat) (h g : JH) : Prop := g.2 = h.2 ∧ ∀ a b, ¬ (a = q ∧ b = 16) → ¬ (q + 3 ≤ a ∧ a ≤ q + 7) → gi g a b = gi h a b
theorem pI.rf (q : Nat) (h : JH) : pI q h h := ⟨rfl, fun _ _ _ _ => rfl⟩
theorem pI.pulse {q : Nat} {h g : JH} (hF : pI q h g) (a : Nat) (d v : Int32) : pI q h (xPulse g q a d v) := by
  refine ⟨?_, fun p b h1 h2 => ?_⟩
  · rw [← hF.1]; unfold xPulse; simp only
    repeat' split
    all_goals rfl
  · rw [← hF.2 p b h1 h2]; unfold xPulse; simp only
    repeat' split
    all_goals
      simp only [gi_si]
      repeat rw [if_neg (by omega)]
def xRt (q a : Nat) (d : Int32) (g : JH) : Bool := decide (gi g (q + 3) a = d) && decide (gi g (q + 4) a = d)
def xPu (q a : Nat) (d : Int32) (g : JH) (v : Nat) : JH := xPulse g q a d (nI v)
/-- a worker at z, for the chip at q and the recipe at d -/
def WB (h : JH) (z q d s e a : Nat) (dd : Int32) : Prop := (kd h)[z]? = some (7, 7) ∧ gr h z 0 = some q ∧ gr h z 1 = some d ∧ gi h z 3 = nI a ∧ gi h z 4 = dd ∧ CK h q s ∧ RKc h d e ∧ a < 8 * s ∧ d + 5 ≤ q ∧ q + 8 ≤ z
theorem WB.of {h g : JH} {z q d s e a : Nat} {dd : Int32} (hB : WB h z q d s e a dd) (hI : pI q h g) (w : Nat × Bool × Nat) : WB (wS g z w) z q d s e a dd := by
  obtain ⟨h1, h2, h3, h4, h5, h6, h7, h8, h9, h10⟩ := hB
  have e : (wS g z w).2 = h.2 := hI.1
  have ek : kd (wS g z w) = kd h := by show (wS g z w).2.2.2 = h.2.2.2; rw [e]
  have er : ∀ a b, gr (wS g z w) a b = gr h a b := fun a b => by show (wS g z w).2.2.1 a b = h.2.2.1 a b; rw [e]
  have ei : ∀ a b, ¬ (a = z ∧ (b = 2 ∨ b = 5 ∨ b = 6)) → ¬ (a = q ∧ b = 16) → ¬ (q + 3 ≤ a ∧ a ≤ q + 7) → gi (wS g z w) a b = gi h a b := fun a b q1 q2 q3 => by rw [wS_o q1, hI.2 a b q2 q3]
  refine ⟨by rw [ek]; exact h1, by rw [er]; exact h2, by rw [er]; exact h3, by rw [ei z 3 (by omega) (by omega) (by omega)]; exact h4, by rw [ei z 4 (by omega) (by omega) (by omega)]; exact h5, h6.of3 (by rw [e]) (ei q 0 (by omega) (by omega) (by omega)), h7.of3 (by rw [e]) (ei d 4 (by omega) (by omega) (by omega)), h8, h9, h10⟩
section C1
variable {x : JX} {h : JH} {z q d s e a : Nat} {dd : Int32}
theorem pI_P (g : JH) (v : Nat) (hI : pI q h g) : pI q h (xPu q a dd g v) := hI.pulse a dd (nI v)
theorem j_give {n : Nat} {w : JH × Nat × Bool × Nat} (hB : WB h z q d s e a dd) (hI : Kp (pI q h) 100000 w) (hn : n ≤ 50) : JF x yX7_givePulses cX7_givePulses 3 none 2 0 0 [.ref z, .int (nI n)] (wS w.1 z w.2) none (wS (pul (xPu q a dd) n w).1 z (pul (xPu q a dd) n w).2) := by
  refine JM_of [some (.ref z), some (.int (nI n)), none] (by decide) (Nat.le_of_ble_eq_true rfl) rfl ?_
  refine J_iconst (pq := 1) dX7_givePulses_0 rfl c_iconst_0 (J_istore_m 2 (pq := 2) dX7_givePulses_1 rfl rfl (Nat.le_of_ble_eq_true rfl) (Nat.le_of_ble_eq_true rfl) rfl (?_))
  refine J_loop (σ := Nat × (JH × Nat × Bool × Nat)) (fun u => [some (.ref z), some (.int (nI n)), some (.int (nI u.1))]) (fun _ => []) (fun u => wS u.2.1 z u.2.2) (fun u => u.1 ≤ n ∧ Kp (pI q h) 100000 u.2 ∧ pul (xPu q a dd) (n - u.1) u.2 = pul (xPu q a dd) n w) (fun u => n - u.1) (0, w) rfl rfl rfl ⟨Nat.zero_le _, hI, rfl⟩ (fun u hu ih => ?_)
  obtain ⟨j, u⟩ := u
  obtain ⟨u1, u2, u3⟩ := hu
  simp only at u1 u2 u3 ih ⊢
  have hL := u2.2
  obtain ⟨k0, r0, r1, a3, a4, hCK, hRK, ha8, hdq, hqz⟩ := hB.of u2.1 u.2
  refine J_iload_n (pq := 3) dX7_givePulses_2 rfl rfl (J_iload_n (pq := 4) dX7_givePulses_3 rfl rfl (J_icmp_ge (pq := 7) (tgt := 49) dX7_givePulses_4 rfl rfl (fun c => ?_) (fun c => ?_)))
  · rw [nI_leI (by omega) (by omega)] at c
    refine J_vret dX7_givePulses_49 rfl ?_
    rw [show n - j = 0 by omega] at u3
    have u3 : u = pul (xPu q a dd) n w := u3
    rw [u3]
    exact ⟨rfl, rfl⟩
  · rw [nI_leI (by omega) (by omega)] at c
    have hj : j < n := by omega
    refine J_aload_n (pq := 8) dX7_givePulses_7 rfl rfl (J_getI (pq := 11) dX7_givePulses_8 rfl f_X7_19 jsI k0 (J_if_le (pq := 14) (tgt := 49) dX7_givePulses_11 rfl rfl (fun c => ?_) (fun c => ?_)))
    · rw [wS_2, show (0 : Int32) = nI 0 from rfl, nI_leI (by omega) (by omega)] at c
      refine J_vret dX7_givePulses_49 rfl ?_
      rw [pul_0 _ _ (by omega)] at u3
      rw [u3]
      exact ⟨rfl, rfl⟩
    · rw [wS_2, show (0 : Int32) = nI 0 from rfl, nI_leI (by omega) (by omega)] at c
      refine J_aload_n (pq := 15) dX7_givePulses_14 rfl rfl (J_getA (pq := 18) dX7_givePulses_15 rfl f_X7_9 (by decide +kernel) k0 r0 (J_aload_n (pq := 19) dX7_givePulses_18 rfl rfl (J_getI (pq := 22) dX7_givePulses_19 rfl f_X7_23 jsI k0 (J_aload_n (pq := 23) dX7_givePulses_22 rfl rfl (J_getI (pq := 26) dX7_givePulses_23 rfl f_X7_26 jsI k0 (J_aload_n (pq := 27) dX7_givePulses_26 rfl rfl (J_getI (pq := 30) dX7_givePulses_27 rfl f_X7_29 jsI k0 (?_))))))))
      rw [a3, a4, wS_5]
      refine J_virtF (pq := 33) dX7_givePulses_30 rfl (j_X0_takePulse hCK ha8) rfl tg_X0_takePulse l_X7_81 vi_X0_takePulse hCK.1.1 ⟨by decide, rfl⟩ (Nat.le_of_ble_eq_true rfl) (Nat.zero_le _) (Nat.zero_le _) (Nat.le_of_ble_eq_true rfl) (?_)
      rw [wS_P _ _ _ _ _ _ _ hqz]
      have hIP := pI_P (a := a) (dd := dd) u.1 u.2.1 u2.1
      have k1 : (kd (wS (xPulse u.1 q a dd (nI u.2.1)) z u.2))[z]? = some (7, 7) := (hB.of hIP u.2).1
      refine J_aload_n (pq := 34) dX7_givePulses_33 rfl rfl (J_dup (pq := 35) dX7_givePulses_34 rfl rfl (J_getI (pq := 38) dX7_givePulses_35 rfl f_X7_19 jsI k1 (J_iconst (pq := 39) dX7_givePulses_38 rfl c_iconst_1 (J_isub (pq := 40) dX7_givePulses_39 rfl (J_putI (pq := 43) dX7_givePulses_40 rfl f_X7_19 (Or.inl rfl) k1 (J_iinc (pq := 46) dX7_givePulses_43 rfl c_iconst_1 rfl (Nat.le_of_ble_eq_true rfl) rfl (J_goto (tgt := 2) dX7_givePulses_46 rfl (?_))))))))
      rw [wS_2, nI_1, show nI u.2.2.2 - 1 = nI (u.2.2.2 - 1) from by rw [show (1 : Int32) = nI 1 from rfl, pk_sub (by omega)], wS_p2]
      refine ih (j + 1, (xPu q a dd u.1 u.2.1, u.2.1, u.2.2.1, u.2.2.2 - 1)) ⟨by simp only; omega, ⟨hIP, by simp only; omega⟩, ?_⟩ (by simp only; omega)
      rw [← u3, show n - j = (n - (j + 1)) + 1 by omega]
      show _ = (if u.2.2.2 = 0 then u else _)
      rw [if_neg (by omega)]
end C1
