-- both halves: a recipe is read
theorem MRec_c2 {G G' : Nat → Nat → Int32} {r e : Nat} {tc : Cond} (hM : MRec G r tc e) (h1 : ∀ a, (a = 61 ∨ a = 62 ∨ a = 66 ∨ a = 67) → G' a r = G a r) (h2 : ∀ a k, 63 ≤ a → a ≤ 65 → k < 100 → G' a (100 * r + k) = G a (100 * r + k)) : MRec G' r tc e := by
  obtain ⟨m1, m2, o, m3, m4, m5, m6, m7, m8⟩ := hM
  exact ⟨m1, m2, o, m3, by rw [h1 _ (by omega)]; exact m4, by rw [h1 _ (by omega)]; exact m5, by rw [h1 _ (by omega)]; exact m6, by rw [h1 _ (by omega)]; exact m7, MS_congr tc m1 0 o (fun k _ hk => ⟨h2 _ _ (by omega) (by omega) (by omega), h2 _ _ (by omega) (by omega) (by omega), h2 _ _ (by omega) (by omega) (by omega)⟩) m8⟩
section ZC
variable {x : JX} {h g : JH} {L L' i q s d : Nat}
theorem REL.rec (hR : REL h L) (hk : kd g = kd h) (hl : ∀ a b, gl g a b = gl h a b) (hr : ∀ a b, a ≠ 12 → ¬ (a = 0 ∧ b = 9) → gr g a b = gr h a b) (e : ∀ a b, a ≠ 4 → ¬ (5 ≤ a ∧ a < 11) → ¬ (13 ≤ a ∧ a < 38) → ¬ (a = 1 ∧ b = 1) → (a = 38 → b = 12) → ¬ (61 ≤ a ∧ a ≤ 75) → gi g a b = gi h a b) (h11 : gi g 1 1 = 0) (h38 : gi g 38 2 = 0) (hf1 : gi g 4 0 = gi g 38 3) (hf2 : gi g 4 1 = gi g 38 4) (hRR : ∃ ρ, RR g ρ) : REL g (L + 1) := by
  obtain ⟨hK, hX, hM, ⟨n, n4, t1, t2, t3, t4⟩, h2, h3, h4, ⟨nc, q, s, h5⟩, -, h7⟩ := hR
  have h76 := hK.len
  refine ⟨by obtain ⟨r', hr'⟩ := hK; exact ⟨r', by rw [hk]; exact hr'⟩, fun a k b hk' => ?_, fun k a hk' => by rw [hr _ _ (by omega) (by omega)]; exact hM k a hk', ⟨0, by omega, h11, h38, fun j => by rw [e _ _ (by omega) (by omega) (by omega) (by omega) (by omega) (by omega), e _ _ (by omega) (by omega) (by omega) (by omega) (by omega) (by omega)]; exact t3 j, fun j => by rw [e _ _ (by omega) (by omega) (by omega) (by omega) (by omega) (by omega)]; exact t4 j⟩, h2.c (fun j _ => e _ _ (by omega) (by omega) (by omega) (by omega) (by omega) (by omega)) (fun j _ => e _ _ (by omega) (by omega) (by omega) (by omega) (by omega) (by omega)), ⟨hf1, hf2⟩, h4.c (by omega) (e _ _ (by omega) (by omega) (by omega) (by omega) (by omega) (by omega)) (hl _ _), ⟨nc, q, s, h5.c (by omega) (fun a b z => by rw [hk]; exact z) (by rw [hk]; omega) (fun a b z _ => hr _ _ (by omega) (by omega)) (e _ _ (by omega) (by omega) (by omega) (by omega) (by omega) (by omega)) (e _ _ (by omega) (by omega) (by omega) (by omega) (by omega) (by omega)) (fun a b z1 _ => e _ _ (by omega) (by omega) (by omega) (by omega) (by omega) (by omega)) (fun a b z1 z2 => e _ _ (by omega) (by omega) (by omega) (by omega) (by omega) (by omega)) (fun i _ => hl _ _) h76⟩, hRR, by rw [hk]; omega⟩
  have hz : a ≠ 12 ∧ ¬ (a = 0 ∧ k = 9) := by unfold xrt at hk'; split at hk' <;> first | omega | cases hk'
  rw [hr _ _ hz.1 hz.2]; exact hX a k b hk'
theorem z_recipe {v : Int32} (hR : REL h L) : GLU x yX8_recipe cX8_recipe 4 yX9_recipe cX9_recipe 3 .int 15 6 0 0 [.int v] h L := by
  have hR0 := hR
  obtain ⟨hK, hX, hM, ⟨n, n4, t1, t2, t3, t4⟩, -, -, -, -, ⟨ρ, r1, r2, r3, r4, r5, r6⟩, -⟩ := hR
  by_cases hv : isin v 0 3 = true
  · obtain ⟨r, hr, rfl⟩ := (isK (n := 3) (by omega)).mp hv
    have hby : tby (gi h 2) := fun j _ => by rw [t3]; obtain ⟨b, hb, e⟩ := t4 j; rw [e, nI_toInt (by omega)]; omega
    have q4 := r1 4 (by omega)
    have qr := r1 r (by omega)
    refine ⟨_, j_X8_recipe hK hX (show r < 4 by omega) (r5 4 (by omega)) (by omega) (by omega) r4 (r3 r (by omega)) (r5 r (by omega)).1.1 t1 n4 rfl hby, fun v' h1 qq => ?_⟩
    obtain ⟨g0, x1, x2, x3, x4⟩ := qq
    have key : (∀ a b, ¬ (a = 1 ∧ b = 1) → gi h1 a b = gi g0 a b) ∧ gi h1 1 1 = 0 ∧ kd h1 = kd h ∧ (∀ a b, gl h1 a b = gl h a b) ∧ (∀ a b, a ≠ 12 → ¬ (a = 0 ∧ b = 9) → gr h1 a b = gr h a b) := by
      rcases x4 with ⟨-, -, rfl⟩ | ⟨-, -, -, rfl⟩
      · exact ⟨fun a b z => by rw [gi_si, if_neg z], by rw [gi_si, if_pos ⟨rfl, rfl⟩], by show g0.2.2.2 = _; rw [x1.1]; rfl, fun a b => by show g0.2.1 a b = _; rw [x1.1]; rfl, fun a b _ _ => by show g0.2.2.1 a b = _; rw [x1.1]; rfl⟩
      · exact ⟨fun a b z => by rw [gi_sr, gi_sr, gi_si, if_neg z], by rw [gi_sr, gi_sr, gi_si, if_pos ⟨rfl, rfl⟩], by show g0.2.2.2 = _; rw [x1.1]; rfl, fun a b => by show g0.2.1 a b = _; rw [x1.1]; rfl, fun a b z1 z2 => by rw [gr_sr, if_neg z2, gr_sr, if_neg (fun z => z1 z.1)]; show g0.2.2.1 a b = _; rw [x1.1]; rfl⟩
    obtain ⟨k1, k2, k3, k4, k5⟩ := key
    have e1 : ∀ a b, ¬ (a = 1 ∧ b = 1) → ¬ (8 ≤ a ∧ a ≤ 10) → ¬ (a = 4 ∧ b ≤ 1) → ¬ (ρ 4 ≤ a ∧ a ≤ ρ 4 + 4) → gi h1 a b = gi h a b := fun a b z1 z2 z3 z4 => by rw [k1 a b z1, x1.2 a b (by omega) (by omega) (by omega) z3 z4]
    have hK1 : Kin h1 := by obtain ⟨r', hr'⟩ := hK; exact ⟨r', by rw [k3]; exact hr'⟩
    have hM1 : MR h1 := fun k a hk => by rw [k5 _ _ (by omega) (by omega)]; exact hM k a hk
    have jm := j_X9_recipe (x := x) (t := gi h 2) (n := n) (r := r) hK1 hM1 (by omega) (by rw [e1 _ _ (by omega) (by omega) (by omega) (by omega)]; exact t2) n4 (funext fun j => by rw [e1 _ _ (by omega) (by omega) (by omega) (by omega)]; exact (t3 j).symm) hby
    have apart : ∀ k, k < 4 → ρ k + 5 ≤ ρ 4 ∨ ρ 4 + 5 ≤ ρ k := fun k hk => by
      have a1 := r1 k (by omega)
      have a2 := r2 k 4 (by omega) (by omega) (by omega)
      omega
    have rk : ∀ g2 : JH, g2.2 = h1.2 → ∀ k, k ≤ 4 → RK g2 (ρ k) := fun g2 hg k hk => by
      have h13 := r1 k hk
      have ekk : kd g2 = kd h := by rw [← k3]; show g2.2.2.2 = h1.2.2.2; rw [hg]
      have err : ∀ b, gr g2 (ρ k) b = gr h (ρ k) b := fun b => by rw [← k5 (ρ k) b (by omega) (by omega)]; show g2.2.2.1 _ b = h1.2.2.1 _ b; rw [hg]
      obtain ⟨hd, hq0, hq1, hq2, hq3⟩ := r5 k hk
      exact ⟨by rw [ekk]; exact hd, by rw [err]; exact hq0, by rw [err]; exact hq1, by rw [err]; exact hq2, by rw [err]; exact hq3⟩
    have hT : ∀ (v2 : Option Value) (g2 : JH), RcP (gi h 2) n r h1 v2 g2 → (∃ ρ', RR g2 ρ') → gi g2 38 4 = (if (recS (gi h 2) n).1 = 0 then -1 else nI (recS (gi h 2) n).2.1) → REL g2 (L + 1) := fun v2 g2 hq hρ h384 => by
      obtain ⟨⟨f0, f1⟩, f2, f3, -, -⟩ := hq
      have o : ∀ a b, ¬ (a = 38 ∧ ((37 ≤ b ∧ b ≤ 51) ∨ b = 2 ∨ b = 3 ∨ b = 4)) → ¬ (61 ≤ a ∧ a ≤ 73) → gi g2 a b = gi h1 a b := fun a b z1 z2 => f1 a b z1 (by omega) (by omega) (by omega)
      refine hR0.rec (by rw [← k3]; show g2.2.2.2 = h1.2.2.2; rw [f0]) (fun a b => by rw [← k4]; show g2.2.1 a b = h1.2.1 a b; rw [f0]) (fun a b z1 z2 => by rw [← k5 a b z1 z2]; show g2.2.2.1 a b = h1.2.2.1 a b; rw [f0]) (fun a b z1 z2 z3 z4 z5 z6 => by rw [o a b (by omega) (by omega), e1 a b z4 (by omega) (by omega) (by omega)]) (by rw [o _ _ (by omega) (by omega)]; exact k2) f2 (by rw [f3, o _ _ (by omega) (by omega), k1 _ _ (by omega)]; exact x2) (by rw [h384, o _ _ (by omega) (by omega), k1 _ _ (by omega)]; exact x3) hρ
    rcases x4 with ⟨ne, rfl, hg⟩ | ⟨eq, rfl, hD, hg⟩
    · refine ⟨_, _, rfl, hK1, jm, fun v2 g2 q2 => ?_⟩
      have q20 := q2
      obtain ⟨⟨f0, f1⟩, f2, f3, f4, -⟩ := q2
      obtain ⟨rfl, f5, f6⟩ := f4 ne
      refine ⟨rfl, hT _ _ q20 ⟨ρ, r1, r2, fun k hk => ?_, ?_, rk g2 f0, fun k hk => ?_⟩ (by rw [f5, if_neg ne])⟩
      · rw [← r3 k hk]; show g2.2.2.1 12 k = h.2.2.1 12 k; rw [f0, hg]; show g0.2.2.1 12 k = _; rw [x1.1]
      · rw [← r4]; show g2.2.2.1 0 9 = h.2.2.1 0 9; rw [f0, hg]; show g0.2.2.1 0 9 = _; rw [x1.1]
      · obtain ⟨tc, e, o1, o2, o3⟩ := r6 k hk
        have h13 := r1 k (by omega)
        have hap := apart k hk
        exact ⟨tc, e, o1, o2.c o3.1 (fun a b z => by show g2.2.2.2[a]? = _; rw [f0]; show (kd h1)[a]? = _; rw [k3]; exact z) (fun b => by rw [← k5 (ρ k) b (by omega) (by omega)]; show g2.2.2.1 _ b = h1.2.2.1 _ b; rw [f0]) (fun a b z1 z2 => by rw [f1 _ _ (by omega) (by omega) (by omega) (by omega), e1 _ _ (by omega) (by omega) (by omega) (by omega)]), MRec_c2 o3 (fun a z => by rw [f6 _ _ (by omega), e1 _ _ (by omega) (by omega) (by omega) (by omega)]) (fun a j z1 z2 z3 => by rw [f6 _ _ (by omega), e1 _ _ (by omega) (by omega) (by omega) (by omega)])⟩
    · refine ⟨_, _, rfl, hK1, jm, fun v2 g2 q2 => ?_⟩
      have q20 := q2
      obtain ⟨⟨f0, f1⟩, f2, f3, -, f4⟩ := q2
      obtain ⟨rfl, f5, f6⟩ := f4 eq
      have gg : ∀ a b, gr g2 a b = if a = 0 ∧ b = 9 then some (ρ r) else if a = 12 ∧ b = r then some (ρ 4) else gr h a b := fun a b => by
        show g2.2.2.1 a b = _
        rw [f0, hg]
        show gr (sr (sr (si g0 1 1 0) 12 r (some (ρ 4))) 0 9 (some (ρ r))) a b = _
        rw [gr_sr, gr_sr]
        show (if a = 0 ∧ b = 9 then some (ρ r) else if a = 12 ∧ b = r then some (ρ 4) else g0.2.2.1 a b) = _
        rw [x1.1]; rfl
      have ekk : kd g2 = kd h := by rw [← k3]; show g2.2.2.2 = h1.2.2.2; rw [f0]
      have ekg : kd g0 = kd h := by show g0.2.2.2 = _; rw [x1.1]; rfl
      refine ⟨rfl, hT _ _ q20 ⟨fun k => if k = r then ρ 4 else if k = 4 then ρ r else ρ k, fun k hk => ?_, fun k k' hk hk' hne => ?_, fun k hk => ?_, ?_, fun k hk => ?_, fun k hk => ?_⟩ (by rw [f5, if_pos eq])⟩
      · simp only
        repeat' split
        · exact q4
        · exact qr
        · exact r1 k hk
      · simp only
        by_cases a1 : k = r
        · rw [if_pos a1, if_neg (by omega)]
          by_cases a2 : k' = 4
          · rw [if_pos a2]; exact r2 4 r (by omega) (by omega) (by omega)
          · rw [if_neg a2]; exact r2 4 k' (by omega) (by omega) (by omega)
        · rw [if_neg a1]
          by_cases a2 : k' = r
          · rw [if_pos a2]
            by_cases a3 : k = 4
            · rw [if_pos a3]; exact r2 r 4 (by omega) (by omega) (by omega)
            · rw [if_neg a3]; exact r2 k 4 (by omega) (by omega) (by omega)
          · rw [if_neg a2]
            by_cases a3 : k = 4
            · rw [if_pos a3, if_neg (by omega)]; exact r2 r k' (by omega) (by omega) (by omega)
            · rw [if_neg a3]
              by_cases a4 : k' = 4
              · rw [if_pos a4]; exact r2 k r (by omega) (by omega) (by omega)
              · rw [if_neg a4]; exact r2 k k' (by omega) (by omega) (by omega)
      · simp only
        rw [gg, if_neg (by omega)]
        by_cases a1 : k = r
        · rw [if_pos ⟨rfl, a1⟩, if_pos a1]
        · rw [if_neg (by omega), if_neg a1, if_neg (by omega)]; exact r3 k hk
      · rw [gg, if_pos ⟨rfl, rfl⟩]
        show some (ρ r) = some (if 4 = r then ρ 4 else if 4 = 4 then ρ r else ρ 4)
        rw [if_neg (by omega), if_pos rfl]
      · simp only
        repeat' split
        · exact rk g2 f0 4 (by omega)
        · exact rk g2 f0 r (by omega)
        · exact rk g2 f0 k hk
      · simp only
        by_cases a1 : k = r
        · rw [if_pos a1, a1]
          obtain ⟨s1, s2, s3, s4⟩ := recS_ok eq
          exact ⟨_, _, s2, hD.c s1 (fun a b z => by rw [ekk, ← ekg]; exact z) (fun b => by rw [gg, if_neg (by omega), if_neg (by omega)]; show h.2.2.1 _ b = g0.2.2.1 _ b; rw [x1.1]) (fun a b z1 z2 => by rw [f1 _ _ (by omega) (by omega) (by omega) (by omega), k1 _ _ (by omega)]), f6⟩
        · rw [if_neg a1, if_neg (by omega)]
          obtain ⟨tc, e, o1, o2, o3⟩ := r6 k hk
          have h13 := r1 k (by omega)
          have hap := apart k hk
          exact ⟨tc, e, o1, o2.c o3.1 (fun a b z => by rw [ekk]; exact z) (fun b => by rw [gg, if_neg (by omega), if_neg (by omega)]) (fun a b z1 z2 => by rw [f1 _ _ (by omega) (by omega) (by omega) (by omega), e1 _ _ (by omega) (by omega) (by omega) (by omega)]), MRec_c2 o3 (fun a z => by rw [f1 _ _ (by omega) (by omega) (by omega) (by omega), e1 _ _ (by omega) (by omega) (by omega) (by omega)]) (fun a j z1 z2 z3 => by rw [f1 _ _ (by omega) (by omega) (by omega) (by omega), e1 _ _ (by omega) (by omega) (by omega) (by omega)])⟩
  · rw [Bool.not_eq_true] at hv
    exact GLU.ro hR0 (j_X8_recipe_no hv) (j_X9_recipe_no hv) rfl
end ZC
