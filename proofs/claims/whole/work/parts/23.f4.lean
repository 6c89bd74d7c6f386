-- files: all lines
def eol (t : Nat → Int32) (n : Nat) : Nat → Nat → Nat
  | 0, p => p
  | f + 1, p => if p < n ∧ ¬ t p = 10 then eol t n f (p + 1) else p
def eoln (t : Nat → Int32) (n p : Nat) : Nat := eol t n (n - p) p
theorem eoln_s {t : Nat → Int32} {n p : Nat} (h : p < n ∧ ¬ t p = 10) : eoln t n p = eoln t n (p + 1) := by
  unfold eoln
  rw [show n - p = (n - (p + 1)) + 1 by omega, eol, if_pos h]
theorem eoln_e {t : Nat → Int32} {n p : Nat} (h : ¬ (p < n ∧ ¬ t p = 10)) : eoln t n p = p := by
  unfold eoln
  cases hf : n - p with
  | zero => rfl
  | succ f => rw [eol, if_neg h]
theorem eol_b (t : Nat → Int32) (n : Nat) : ∀ f p, f = n - p → p ≤ n → p ≤ eol t n f p ∧ eol t n f p ≤ n
  | 0, p, _, hp => ⟨Nat.le_refl _, hp⟩
  | f + 1, p, hf, hp => by
    rw [eol]
    split
    · have := eol_b t n f (p + 1) (by omega) (by omega)
      omega
    · omega
theorem eoln_b {t : Nat → Int32} {n p : Nat} (hp : p ≤ n) : p ≤ eoln t n p ∧ eoln t n p ≤ n := eol_b t n _ p rfl hp
/-- where the line from p on, whose end is q, stops -/
def lend (t : Nat → Int32) (n p q : Nat) : Nat := if q < n ∧ p < q ∧ t (q - 1) = 13 then q - 1 else q
def lr (fm : Nat) (t : Nat → Int32) (a e : Nat) : Nat × Nat × Nat × Nat × Nat := if fm = 1 then lr1 t a e else lr2 t a e
def imU (t : Nat → Int32) (r : Nat × Nat × Nat × Nat × Nat) (im : Nat → Int32) : Nat → Int32 := fun j => if r.2.2.1 ≤ j ∧ j < r.2.2.1 + r.2.2.2.1 then nI (pv t (r.2.2.2.2 + 2 * (j - r.2.2.1))) else im j
/-- all lines from p on: the fault, its place, the image, the number of data bytes -/
def rdl (fm : Nat) (t : Nat → Int32) (n : Nat) : Nat → Nat → (Nat → Int32) → Nat → Nat × Nat × (Nat → Int32) × Nat
  | 0, _, im, ct => (4, n, im, ct)
  | f + 1, p, im, ct =>
    if p < n then
      (if p < lend t n p (eoln t n p) then
        (if (lr fm t p (lend t n p (eoln t n p))).1 = 0 then
          (if (lr fm t p (lend t n p (eoln t n p))).2.1 = 2 then (0, n, imU t (lr fm t p (lend t n p (eoln t n p))) im, ct + (lr fm t p (lend t n p (eoln t n p))).2.2.2.1)
           else rdl fm t n f (eoln t n p + 1) (imU t (lr fm t p (lend t n p (eoln t n p))) im) (ct + (lr fm t p (lend t n p (eoln t n p))).2.2.2.1))
         else ((lr fm t p (lend t n p (eoln t n p))).1, p, im, ct))
       else rdl fm t n f (eoln t n p + 1) im ct)
    else (4, n, im, ct)
/-- a reading of a file: fault, place, image, count -/
def fileS (fm : Nat) (t : Nat → Int32) (n : Nat) (im : Nat → Int32) : Nat × Nat × (Nat → Int32) × Nat :=
  if fm = 0 then (if n ≤ 256 then (0, 0, fun j => if j < n then t j else im j, n) else (5, 256, im, 0)) else rdl fm t n (n + 1) 0 im 0
theorem lr_N {fm : Nat} {t : Nat → Int32} {a e : Nat} : (lr fm t a e).2.2.2.1 ≤ 256 := by
  unfold lr
  split
  · unfold lr1; repeat' split
    all_goals simp
    all_goals omega
  · unfold lr2; repeat' split
    all_goals simp
    all_goals omega
/-- a file's scratch and the fault's place -/
def FlG (h g : JH) : Prop := g.2 = h.2 ∧ ∀ a b, a ≠ 41 → a ≠ 42 → a ≠ 43 → ¬ (a = 38 ∧ (b = 8 ∨ b = 10 ∨ b = 4)) → gi g a b = gi h a b
theorem FlG.rf (h : JH) : FlG h h := ⟨rfl, fun _ _ _ _ _ _ => rfl⟩
theorem FlG.tr {h g k : JH} (h1 : FlG h g) (h2 : FlG g k) : FlG h k := ⟨h2.1.trans h1.1, fun a b x1 x2 x3 x4 => (h2.2 a b x1 x2 x3 x4).trans (h1.2 a b x1 x2 x3 x4)⟩
theorem FlF.g {h g : JH} (h1 : FlF h g) : FlG h g := ⟨h1.1, fun a b x1 x2 x3 x4 => h1.2 a b x1 x2 x3 (fun q => x4 ⟨q.1, q.2.elim Or.inl (fun r => Or.inr (Or.inl r))⟩)⟩
theorem FlG.pl (h : JH) (v : Int32) : FlG h (si h 38 4 v) := ⟨rfl, fun a b _ _ _ x4 => by rw [gi_si, if_neg (fun q => x4 ⟨q.1, Or.inr (Or.inr q.2)⟩)]⟩
theorem FlG.en (h : JH) (v : Int32) : FlG h (si h 38 10 v) := ⟨rfl, fun a b _ _ _ x4 => by rw [gi_si, if_neg (fun q => x4 ⟨q.1, Or.inr (Or.inl q.2)⟩)]⟩
theorem mg_si38 (h : JH) (k : Nat) (v : Int32) (j : Nat) : mg (si h 38 k v) j = mg h j := mg_of (fun j => by rw [gi_si, if_neg (by simp)]) (fun j => by rw [gi_si, if_neg (by simp)]) (fun j => by rw [gi_si, if_neg (by simp)]) j
section F4
variable {x : JX} {h : JH}
theorem j_X9_line {fm : Nat} {a e : Nat} (hK : Kin h) (hR : MR h) (hae : a < e) (he : e ≤ 400) (hby : ∀ j, j < 400 → 0 ≤ gi h 40 j) : (fm = 1 → JM x yX9_lineOne cX9_lineOne 5 (some .int) 3 0 0 [.ref 38, .int (nI a), .int (nI e)] h (fun v g => v = some (.int (nI (lr fm (gi h 40) a e).1)) ∧ LnP (gi h 40) (lr fm (gi h 40) a e) h g)) ∧ (fm = 2 → JM x yX9_lineTwo cX9_lineTwo 5 (some .int) 3 0 0 [.ref 38, .int (nI a), .int (nI e)] h (fun v g => v = some (.int (nI (lr fm (gi h 40) a e).1)) ∧ LnP (gi h 40) (lr fm (gi h 40) a e) h g)) := by
  constructor
  · rintro rfl
    exact j_X9_lineOne hK hR hae he
  · rintro rfl
    exact j_X9_lineTwo hK hR hae he hby
theorem j_X9_readLines {fm n : Nat} {fI : Int32} {im : Nat → Int32} (hfm : (fm = 1 ∧ fI = 1) ∨ (fm = 2 ∧ fI = 2)) (hK : Kin h) (hR : MR h) (hn : gi h 38 2 = nI n) (hn4 : n ≤ 400) (hby : ∀ j, j < 400 → 0 ≤ gi h 40 j) (him : ∀ j, j < 256 → mg h j = im j) (hct : gi h 38 8 = 0) : JM x yX9_readLines cX9_readLines 6 (some .int) 4 0 0 [.ref 38, .int fI] h (fun v g => FlG h g ∧ v = some (.int (nI (rdl fm (gi h 40) n (n + 1) 0 im 0).1)) ∧ ((rdl fm (gi h 40) n (n + 1) 0 im 0).1 ≠ 0 → gi g 38 4 = nI (rdl fm (gi h 40) n (n + 1) 0 im 0).2.1) ∧ ((rdl fm (gi h 40) n (n + 1) 0 im 0).1 = 0 → gi g 38 8 = nI (rdl fm (gi h 40) n (n + 1) 0 im 0).2.2.2 ∧ ∀ j, j < 256 → mg g j = (rdl fm (gi h 40) n (n + 1) 0 im 0).2.2.1 j)) := by
  generalize ht : gi h 40 = t at hby
  generalize hRR : rdl fm t n (n + 1) 0 im 0 = RR
  refine JM_of [some (.ref 38), some (.int fI), none, none, none, none] (by decide) (Nat.le_of_ble_eq_true rfl) rfl ?_
  refine J_iconst (pq := 1) dX9_readLines_0 rfl c_iconst_0 (J_istore_m 2 (pq := 2) dX9_readLines_1 rfl rfl (Nat.le_of_ble_eq_true rfl) (Nat.le_of_ble_eq_true rfl) rfl (J_aload_n (pq := 3) dX9_readLines_2 rfl rfl (J_iconst (pq := 4) dX9_readLines_3 rfl c_iconst_0 (J_putZ (pq := 7) dX9_readLines_4 rfl f_X9_155 (Or.inl rfl) (hK.at rfl) (by first | exact bi_or _ | exact Or.inl rfl | exact Or.inr rfl | assumption) (?_)))))
  refine J_loop (σ := Nat × JH × Bool × (Nat → Int32) × Nat) (fun p => [some (.ref 38), some (.int fI), some (.int (nI p.1)), none, none, none]) (fun _ => []) (fun p => p.2.1) (fun p => p.1 ≤ n + 1 ∧ FlG h p.2.1 ∧ gi p.2.1 38 10 = bi p.2.2.1 ∧ gi p.2.1 38 8 = nI p.2.2.2.2 ∧ (∀ j, j < 256 → mg p.2.1 j = p.2.2.2.1 j) ∧ (p.2.2.1 = false → rdl fm t n (n + 1 - p.1) p.1 p.2.2.2.1 p.2.2.2.2 = RR) ∧ (p.2.2.1 = true → (0, n, p.2.2.2.1, p.2.2.2.2) = RR)) (fun p => n + 1 - p.1) (0, si h 38 10 0, false, im, 0) rfl rfl rfl ⟨by simp, FlG.en h 0, by rw [gi_si, if_pos ⟨rfl, rfl⟩]; rfl, by rw [gi_si, if_neg (by decide), hct]; rfl, fun j hj => by rw [mg_si38]; exact him j hj, fun _ => hRR, fun q => by cases q⟩ (fun p hp ih => ?_)
  obtain ⟨p, g, en, im1, ct⟩ := p
  obtain ⟨hp1, hF, hen, hc8, hmg, hrf, hrt⟩ := hp
  simp only at hp1 hF hen hc8 hmg hrf hrt
  have hKg : Kin g := hK.of2 hF.1
  have hRg : MR g := hR.of2 hF.1
  have hng : gi g 38 2 = nI n := by rw [hF.2 38 2 (by decide) (by decide) (by decide) (by simp)]; exact hn
  have htg : gi g 40 = t := by
    rw [← ht]; funext b
    exact hF.2 40 b (by decide) (by decide) (by decide) (by simp)
  refine J_cut (σ := Unit) 134 (fun _ => [some (.ref 38), some (.int fI), none, none, none, none]) (fun _ => []) (fun _ => g) (fun _ => ¬ p < n ∨ en = true) (fun _ hc => ?_) (fun k134 => ?_)
  · cases en with
    | true =>
      have hrt := hrt rfl
      refine J_aload_n (pq := 135) dX9_readLines_134 rfl rfl (J_aload_n (pq := 136) dX9_readLines_135 rfl rfl (J_getI (pq := 139) dX9_readLines_136 rfl f_X9_130 jsI (hKg.at rfl) (J_putI (pq := 142) dX9_readLines_139 rfl f_X9_20 (Or.inl rfl) (hKg.at rfl) (J_aload_n (pq := 143) dX9_readLines_142 rfl rfl (J_getI (pq := 146) dX9_readLines_143 rfl f_X9_155 jsZ (hKg.at rfl) (J_if_eq (pq := 149) (tgt := 153) dX9_readLines_146 rfl rfl (fun c => ?_) (fun c => ?_)))))))
      · rw [gi_si, if_neg (by decide), hen] at c; exact absurd c (by decide)
      · refine J_iconst (pq := 150) dX9_readLines_149 rfl c_iconst_0 (J_goto (tgt := 154) dX9_readLines_150 rfl (J_iret dX9_readLines_154 rfl rfl ?_))
        rw [← hrt]
        exact ⟨hF.tr (FlG.pl _ _), rfl, fun q => absurd rfl q, fun _ => ⟨by rw [gi_si, if_neg (by decide)]; exact hc8, fun j hj => by rw [mg_si38]; exact hmg j hj⟩⟩
    | false =>
      have hpn : ¬ p < n := by rcases hc with q | q; exact q; cases q
      have hrf := hrf rfl
      have hR4 : RR = (4, n, im1, ct) := by
        rw [← hrf]
        cases hf : n + 1 - p with
        | zero => rfl
        | succ f => rw [rdl, if_neg hpn]
      refine J_aload_n (pq := 135) dX9_readLines_134 rfl rfl (J_aload_n (pq := 136) dX9_readLines_135 rfl rfl (J_getI (pq := 139) dX9_readLines_136 rfl f_X9_130 jsI (hKg.at rfl) (J_putI (pq := 142) dX9_readLines_139 rfl f_X9_20 (Or.inl rfl) (hKg.at rfl) (J_aload_n (pq := 143) dX9_readLines_142 rfl rfl (J_getI (pq := 146) dX9_readLines_143 rfl f_X9_155 jsZ (hKg.at rfl) (J_if_eq (pq := 149) (tgt := 153) dX9_readLines_146 rfl rfl (fun c => ?_) (fun c => ?_)))))))
      · refine J_iconst (pq := 154) dX9_readLines_153 rfl c_iconst_4 (J_iret dX9_readLines_154 rfl rfl ?_)
        rw [hR4]
        exact ⟨hF.tr (FlG.pl _ _), rfl, fun _ => by rw [gi_si, if_pos ⟨rfl, rfl⟩]; exact hng, fun q => by simp at q⟩
      · rw [gi_si, if_neg (by decide), hen] at c; exact absurd rfl c
  refine J_iload_n (pq := 8) dX9_readLines_7 rfl rfl (J_aload_n (pq := 9) dX9_readLines_8 rfl rfl (J_getI (pq := 12) dX9_readLines_9 rfl f_X9_130 jsI (hKg.at rfl) (J_icmp_ge (pq := 15) (tgt := 134) dX9_readLines_12 rfl rfl (fun c => ?_) (fun c => ?_))))
  · rw [hng, nI_leI (by omega) (by omega)] at c
    exact J_weak (by simp [lsub]) rfl rfl (k134 () (Or.inl (by omega)))
  · rw [hng, nI_leI (by omega) (by omega)] at c
    have hpn : p < n := by omega
    refine J_aload_n (pq := 16) dX9_readLines_15 rfl rfl (J_getI (pq := 19) dX9_readLines_16 rfl f_X9_155 jsZ (hKg.at rfl) (J_if_ne (pq := 22) (tgt := 134) dX9_readLines_19 rfl rfl (fun c => ?_) (fun c => ?_)))
    · rw [hen, bi_0, Bool.not_eq_false] at c
      exact J_weak (by simp [lsub]) rfl rfl (k134 () (Or.inr c))
    · rw [hen, bi_0] at c
      subst c
      have hrf := hrf rfl
      rw [show n + 1 - p = (n - p) + 1 by omega, rdl, if_pos hpn] at hrf
      have hqb := eoln_b (t := t) (n := n) (p := p) (by omega)
      generalize hq : eoln t n p = q at hrf hqb
      generalize hee : lend t n p q = ee at hrf
      have heb : ee ≤ q := by rw [← hee]; unfold lend; split <;> omega
      refine J_cut (σ := Unit) 84 (fun _ => [some (.ref 38), some (.int fI), some (.int (nI p)), some (.int (nI q)), some (.int (nI ee)), none]) (fun _ => []) (fun _ => g) (fun _ => True) (fun _ _ => ?_) (fun k84 => ?_)
      · -- the line
        refine J_cut (σ := JH × Bool × (Nat → Int32) × Nat) 127 (fun _ => [some (.ref 38), some (.int fI), some (.int (nI p)), some (.int (nI q)), some (.int (nI ee)), none]) (fun _ => []) (fun s => s.1) (fun s => FlG h s.1 ∧ gi s.1 38 10 = bi s.2.1 ∧ gi s.1 38 8 = nI s.2.2.2 ∧ (∀ j, j < 256 → mg s.1 j = s.2.2.1 j) ∧ (s.2.1 = false → rdl fm t n (n - p) (q + 1) s.2.2.1 s.2.2.2 = RR) ∧ (s.2.1 = true → (0, n, s.2.2.1, s.2.2.2) = RR)) (fun s hs => ?_) (fun k127 => ?_)
        · obtain ⟨g2, en2, im2, ct2⟩ := s
          obtain ⟨s1, s2, s3, s4, s5, s6⟩ := hs
          simp only at s1 s2 s3 s4 s5 s6
          refine J_iload_n (pq := 128) dX9_readLines_127 rfl rfl (J_iconst (pq := 129) dX9_readLines_128 rfl c_iconst_1 (J_iadd (pq := 130) dX9_readLines_129 rfl (J_istore_m 2 (pq := 131) dX9_readLines_130 rfl rfl (Nat.le_of_ble_eq_true rfl) (Nat.le_of_ble_eq_true rfl) rfl (J_goto (tgt := 7) dX9_readLines_131 rfl (?_)))))
          refine J_weak (ls' := [some (.ref 38), some (.int fI), some (.int (nI (q + 1))), none, none, none]) (by simp [lsub, nI_1]) rfl rfl ?_
          refine ih (q + 1, g2, en2, im2, ct2) ⟨by simp only; omega, s1, s2, s3, s4, fun e0 => ?_, s6⟩ (by simp only; omega)
          have := s5 e0
          simp only
          rw [← this]
          have fuel : ∀ f1 f2 p im ct, n + 1 - p ≤ f1 → n + 1 - p ≤ f2 → rdl fm t n f1 p im ct = rdl fm t n f2 p im ct := by
            intro f1
            induction f1 with
            | zero =>
              intro f2 p im ct h1 h2
              cases f2 with
              | zero => rfl
              | succ f2 => rw [rdl, rdl, if_neg (by omega)]
            | succ f1 ihf =>
              intro f2 p im ct h1 h2
              cases f2 with
              | zero => rw [rdl, rdl, if_neg (by omega)]
              | succ f2 =>
                by_cases hpp : p < n
                · have hb := eoln_b (t := t) (n := n) (p := p) (by omega)
                  rw [rdl, rdl, if_pos hpp, if_pos hpp, ihf f2 (eoln t n p + 1) _ _ (by omega) (by omega), ihf f2 (eoln t n p + 1) _ _ (by omega) (by omega)]
                · rw [rdl, rdl, if_neg hpp, if_neg hpp]
          exact fuel _ _ _ _ _ (by omega) (by omega)
        · refine J_iload (pq := 86) dX9_readLines_84 rfl rfl (J_iload_n (pq := 87) dX9_readLines_86 rfl rfl (J_icmp_le (pq := 90) (tgt := 127) dX9_readLines_87 rfl rfl (fun c => ?_) (fun c => ?_)))
          · rw [nI_leI (by omega) (by omega)] at c
            rw [if_neg (by omega)] at hrf
            exact J_weak (by simp [lsub]) rfl rfl (k127 (g, false, im1, ct) ⟨hF, hen, hc8, hmg, fun _ => hrf, fun q => by cases q⟩)
          · rw [nI_leI (by omega) (by omega)] at c
            rw [if_pos (by omega)] at hrf
            have hpe : p < ee := by omega
            have htg2 : gi (si g 38 4 (nI p)) 40 = t := htg
            have hby2 : ∀ j, j < 400 → 0 ≤ gi (si g 38 4 (nI p)) 40 j := by rw [htg2]; exact hby
            have hline := j_X9_line (x := x) (h := si g 38 4 (nI p)) (fm := fm) hKg hRg hpe (by omega) hby2
            rw [htg2] at hline
            have hF2 : FlG h (si g 38 4 (nI p)) := hF.tr (FlG.pl _ _)
            have after : ∀ (v : Option Value) (g2 : JH), (v = some (.int (nI (lr fm t p ee).1)) ∧ LnP t (lr fm t p ee) (si g 38 4 (nI p)) g2) → J x yX9_readLines cX9_readLines 6 (some .int) 4 0 0 (fun v g => FlG h g ∧ v = some (.int (nI RR.1)) ∧ (RR.1 ≠ 0 → gi g 38 4 = nI RR.2.1) ∧ (RR.1 = 0 → gi g 38 8 = nI RR.2.2.2 ∧ ∀ j, j < 256 → mg g j = RR.2.2.1 j)) 117 [some (.ref 38), some (.int fI), some (.int (nI p)), some (.int (nI q)), some (.int (nI ee)), none] (v.toList ++ []) g2 := by
              rintro v g2 ⟨rfl, hL⟩
              obtain ⟨hLF, hL0⟩ := hL
              have hF3 : FlG h g2 := hF2.tr hLF.g
              have hKg2 : Kin g2 := hK.of2 hF3.1
              refine J_istore (pq := 119) dX9_readLines_117 rfl (Nat.le_of_ble_eq_true rfl) (Nat.le_of_ble_eq_true rfl) rfl (J_iload (pq := 121) dX9_readLines_119 rfl rfl (J_if_eq (pq := 124) (tgt := 127) dX9_readLines_121 rfl rfl (fun c => ?_) (fun c => ?_)))
              · rw [show (0 : Int32) = nI 0 from rfl] at c
                have hr0 : (lr fm t p ee).1 = 0 := by
                  by_cases h0 : (lr fm t p ee).1 = 0
                  · exact h0
                  · have hb5 : (lr fm t p ee).1 < 4 := by
                      unfold lr
                      split
                      · unfold lr1; repeat' split
                        all_goals simp
                      · unfold lr2; repeat' split
                        all_goals simp
                    rw [nI_eq (by omega) (by omega)] at c
                    exact c
                rw [if_pos hr0] at hrf
                obtain ⟨l1, l2, l3⟩ := hL0 hr0
                have hmg2 : ∀ j, j < 256 → mg g2 j = imU t (lr fm t p ee) im1 j := by
                  intro j hj
                  rw [l3 j hj, mg_si38, hmg j hj]
                  rfl
                have hc2 : gi g2 38 8 = nI (ct + (lr fm t p ee).2.2.2.1) := by rw [l2, gi_si, if_neg (by decide), hc8, nI_add]
                by_cases hk2 : (lr fm t p ee).2.1 = 2
                · rw [if_pos hk2] at hrf
                  exact J_weak (by simp [lsub]) rfl rfl (k127 (g2, true, imU t (lr fm t p ee) im1, ct + (lr fm t p ee).2.2.2.1) ⟨hF3, by rw [l1, decide_eq_true hk2], hc2, hmg2, (fun q => by cases q), fun _ => hrf⟩)
                · rw [if_neg hk2] at hrf
                  exact J_weak (by simp [lsub]) rfl rfl (k127 (g2, false, imU t (lr fm t p ee) im1, ct + (lr fm t p ee).2.2.2.1) ⟨hF3, by rw [l1, decide_eq_false hk2], hc2, hmg2, fun _ => hrf, fun q => by cases q⟩)
              · have hr0 : ¬ (lr fm t p ee).1 = 0 := fun q => c (by rw [q]; rfl)
                rw [if_neg hr0] at hrf
                refine J_iload (pq := 126) dX9_readLines_124 rfl rfl (J_iret dX9_readLines_126 rfl rfl ?_)
                rw [← hrf]
                refine ⟨hF3, rfl, fun _ => ?_, fun q => absurd q hr0⟩
                rw [hLF.2 38 4 (by decide) (by decide) (by decide) (by simp), gi_si, if_pos ⟨rfl, rfl⟩]
            rcases hfm with ⟨rfl, rfl⟩ | ⟨rfl, rfl⟩
            · refine J_aload_n (pq := 91) dX9_readLines_90 rfl rfl (J_iload_n (pq := 92) dX9_readLines_91 rfl rfl (J_putI (pq := 95) dX9_readLines_92 rfl f_X9_20 (Or.inl rfl) (hKg.at rfl) (J_iload_n (pq := 96) dX9_readLines_95 rfl rfl (J_iconst (pq := 97) dX9_readLines_96 rfl c_iconst_1 (J_icmp_ne (pq := 100) (tgt := 110) dX9_readLines_97 rfl rfl (fun c => ?_) (fun c => ?_))))))
              · exact absurd rfl c
              · refine J_aload_n (pq := 101) dX9_readLines_100 rfl rfl (J_iload_n (pq := 102) dX9_readLines_101 rfl rfl (J_iload (pq := 104) dX9_readLines_102 rfl rfl (J_virt (pq := 107) dX9_readLines_104 rfl (hline.1 rfl) rfl tg_X9_lineOne l_X9_166 vi_X9_lineOne (hKg.at rfl) ⟨by decide, rfl⟩ (Nat.le_of_ble_eq_true rfl) (Nat.zero_le _) (Nat.zero_le _) (Nat.le_of_ble_eq_true rfl) (fun v g hq => ?_))))
                refine J_goto (tgt := 117) dX9_readLines_107 rfl (?_)
                exact after v g hq
            · refine J_aload_n (pq := 91) dX9_readLines_90 rfl rfl (J_iload_n (pq := 92) dX9_readLines_91 rfl rfl (J_putI (pq := 95) dX9_readLines_92 rfl f_X9_20 (Or.inl rfl) (hKg.at rfl) (J_iload_n (pq := 96) dX9_readLines_95 rfl rfl (J_iconst (pq := 97) dX9_readLines_96 rfl c_iconst_1 (J_icmp_ne (pq := 100) (tgt := 110) dX9_readLines_97 rfl rfl (fun c => ?_) (fun c => ?_))))))
              · refine J_aload_n (pq := 111) dX9_readLines_110 rfl rfl (J_iload_n (pq := 112) dX9_readLines_111 rfl rfl (J_iload (pq := 114) dX9_readLines_112 rfl rfl (J_virt (pq := 117) dX9_readLines_114 rfl (hline.2 rfl) rfl tg_X9_lineTwo l_X9_169 vi_X9_lineTwo (hKg.at rfl) ⟨by decide, rfl⟩ (Nat.le_of_ble_eq_true rfl) (Nat.zero_le _) (Nat.zero_le _) (Nat.le_of_ble_eq_true rfl) (fun v g hq => ?_))))
                exact after v g hq
              · exact absurd c (by decide)
      · -- the end of the line
        refine J_cut (σ := Unit) 49 (fun _ => [some (.ref 38), some (.int fI), some (.int (nI p)), some (.int (nI q)), none, none]) (fun _ => []) (fun _ => g) (fun _ => True) (fun _ _ => ?_) (fun k49 => ?_)
        · refine J_cut (σ := Unit) 81 (fun _ => [some (.ref 38), some (.int fI), some (.int (nI p)), some (.int (nI q)), none, none]) (fun _ => []) (fun _ => g) (fun _ => ee = q) (fun _ hc => ?_) (fun k81 => ?_)
          · refine J_iload_n (pq := 82) dX9_readLines_81 rfl rfl (J_istore (pq := 84) dX9_readLines_82 rfl (Nat.le_of_ble_eq_true rfl) (Nat.le_of_ble_eq_true rfl) rfl (?_))
            exact J_weak (by simp [lsub, hc]) rfl rfl (k84 () trivial)
          refine J_iload_n (pq := 50) dX9_readLines_49 rfl rfl (J_aload_n (pq := 51) dX9_readLines_50 rfl rfl (J_getI (pq := 54) dX9_readLines_51 rfl f_X9_130 jsI (hKg.at rfl) (J_icmp_ge (pq := 57) (tgt := 81) dX9_readLines_54 rfl rfl (fun c => ?_) (fun c => ?_))))
          · rw [hng, nI_leI (by omega) (by omega)] at c
            exact k81 () (by rw [← hee]; unfold lend; rw [if_neg (by omega)])
          · rw [hng, nI_leI (by omega) (by omega)] at c
            have c1 := c
            refine J_iload_n (pq := 58) dX9_readLines_57 rfl rfl (J_iload_n (pq := 59) dX9_readLines_58 rfl rfl (J_icmp_le (pq := 62) (tgt := 81) dX9_readLines_59 rfl rfl (fun c => ?_) (fun c => ?_)))
            · rw [nI_leI (by omega) (by omega)] at c
              exact k81 () (by rw [← hee]; unfold lend; rw [if_neg (by omega)])
            · rw [nI_leI (by omega) (by omega)] at c
              have c2 := c
              have hs1 : nI q - 1 = nI (q - 1) := by rw [show (1 : Int32) = nI 1 from rfl, pk_sub (by omega)]
              have hb : vp_in (nI q - 1) 400 := vinN hs1 (by omega) (by omega)
              have hx : ix (nI q - 1) = q - 1 := by rw [hs1, ixn (by omega)]
              refine J_aload_n (pq := 63) dX9_readLines_62 rfl rfl (J_getA (pq := 66) dX9_readLines_63 rfl f_X9_13 (by decide +kernel) (hKg.at rfl) (hRg _ _ rfl) (J_iload_n (pq := 67) dX9_readLines_66 rfl rfl (J_iconst (pq := 68) dX9_readLines_67 rfl c_iconst_1 (J_isub (pq := 69) dX9_readLines_68 rfl (J_iald (pq := 70) dX9_readLines_69 rfl (hKg.at rfl) (by assumption) (J_bipush (pq := 72) dX9_readLines_70 rfl c_bipush_13 (J_icmp_ne (pq := 75) (tgt := 81) dX9_readLines_72 rfl rfl (fun c => ?_) (fun c => ?_))))))))
              · rw [hx, htg] at c
                exact k81 () (by rw [← hee]; unfold lend; rw [if_neg (fun q => c q.2.2)])
              · rw [hx, htg] at c
                refine J_iload_n (pq := 76) dX9_readLines_75 rfl rfl (J_iconst (pq := 77) dX9_readLines_76 rfl c_iconst_1 (J_isub (pq := 78) dX9_readLines_77 rfl (J_goto (tgt := 82) dX9_readLines_78 rfl (J_istore (pq := 84) dX9_readLines_82 rfl (Nat.le_of_ble_eq_true rfl) (Nat.le_of_ble_eq_true rfl) rfl (?_)))))
                have : ee = q - 1 := by rw [← hee]; unfold lend; rw [if_pos ⟨by omega, by omega, c⟩]
                exact J_weak (by simp [lsub, hs1, this]) rfl rfl (k84 () trivial)
        · refine J_iload_n (pq := 23) dX9_readLines_22 rfl rfl (J_istore_m 3 (pq := 24) dX9_readLines_23 rfl rfl (Nat.le_of_ble_eq_true rfl) (Nat.le_of_ble_eq_true rfl) rfl (?_))
          refine J_loop (σ := Nat) (fun k => [some (.ref 38), some (.int fI), some (.int (nI p)), some (.int (nI k)), none, none]) (fun _ => []) (fun _ => g) (fun k => p ≤ k ∧ k ≤ n ∧ eoln t n k = q) (fun k => n - k) p rfl rfl rfl ⟨Nat.le_refl _, by omega, hq⟩ (fun k hk ih => ?_)
          obtain ⟨hk1, hk2, hk3⟩ := hk
          refine J_iload_n (pq := 25) dX9_readLines_24 rfl rfl (J_aload_n (pq := 26) dX9_readLines_25 rfl rfl (J_getI (pq := 29) dX9_readLines_26 rfl f_X9_130 jsI (hKg.at rfl) (J_icmp_ge (pq := 32) (tgt := 49) dX9_readLines_29 rfl rfl (fun c => ?_) (fun c => ?_))))
          · rw [hng, nI_leI (by omega) (by omega)] at c
            have hkq : k = q := by rw [← hk3, eoln_e (by omega)]
            subst hkq
            exact k49 () trivial
          · rw [hng, nI_leI (by omega) (by omega)] at c
            have hb : vp_in (nI k) 400 := vp_in_nI (by omega) (by omega)
            have hx : ix (nI k) = k := ixn (by omega)
            refine J_aload_n (pq := 33) dX9_readLines_32 rfl rfl (J_getA (pq := 36) dX9_readLines_33 rfl f_X9_13 (by decide +kernel) (hKg.at rfl) (hRg _ _ rfl) (J_iload_n (pq := 37) dX9_readLines_36 rfl rfl (J_iald (pq := 38) dX9_readLines_37 rfl (hKg.at rfl) (by assumption) (J_bipush (pq := 40) dX9_readLines_38 rfl c_bipush_10 (J_icmp_eq (pq := 43) (tgt := 49) dX9_readLines_40 rfl rfl (fun c => ?_) (fun c => ?_))))))
            · rw [hx, htg] at c
              have hkq : k = q := by rw [← hk3, eoln_e (fun q => q.2 c)]
              subst hkq
              exact k49 () trivial
            · rw [hx, htg] at c
              refine J_iinc (pq := 46) dX9_readLines_43 rfl c_iconst_1 rfl (Nat.le_of_ble_eq_true rfl) rfl (J_goto (tgt := 24) dX9_readLines_46 rfl (?_))
              exact J_weak (by simp [lsub, nI_1]) rfl rfl (ih (k + 1) ⟨by omega, by omega, by rw [← eoln_s ⟨by omega, c⟩]; exact hk3⟩ (by omega))
end F4
