-- both are new: they are alike
section I4
theorem yF_k : kd yF = KT ++ [] := by decide +kernel
theorem yF_x : XR yF := fun o k a hk => by
  unfold xrt at hk
  split at hk <;> first | (cases hk; decide +kernel) | cases hk
theorem yF_m : MR yF := fun k a hk => by
  unfold mrt at hk
  split at hk <;> first | (cases hk; decide +kernel) | cases hk
set_option maxRecDepth 100000 in
theorem yF_0 : (∀ j, gi yF 2 j = 0) ∧ (∀ j, gi yF 40 j = 0) ∧ (∀ i, gi yF 52 i = 0) ∧ (∀ i, gl yF 53 i = 0) ∧ (∀ i, gi yF 57 i = 0) ∧ (∀ i, gi yF 59 i = 0) ∧ (∀ i, gi yF 60 i = 0) := ⟨fun _ => rfl, fun _ => rfl, fun _ => rfl, fun _ => rfl, fun _ => rfl, fun _ => rfl, fun _ => rfl⟩
set_option maxRecDepth 100000 in
theorem yF_3 (j : Nat) (hj : j < 256) : gi yF 3 j = 255 ∧ gi yF 39 j = 255 := by
  have e3 : gi yF 3 j = gi (fillN u21 3 256 255) 3 j := rfl
  have e39 : gi yF 39 j = if 39 = 39 ∧ j < 256 then 255 else gi y39 39 j := rfl
  refine ⟨?_, ?_⟩
  · rw [e3, gi_fillN, if_pos ⟨rfl, hj⟩]
  · rw [e39, if_pos ⟨rfl, hj⟩]
theorem yF_rk (d : Nat) (hd : d = 13 ∨ d = 18 ∨ d = 23 ∨ d = 28 ∨ d = 33) : RK yF d ∧ gi yF d 4 = 0 ∧ gi yF d 5 = -1 ∧ gi yF d 6 = 0 ∧ gi yF d 7 = 0 := by
  rcases hd with rfl | rfl | rfl | rfl | rfl
  · exact ⟨⟨⟨by decide +kernel, by decide +kernel, by decide +kernel, by decide +kernel, by decide +kernel⟩, by decide +kernel, by decide +kernel, by decide +kernel, by decide +kernel⟩, by decide +kernel, by decide +kernel, by decide +kernel, by decide +kernel⟩
  · exact ⟨⟨⟨by decide +kernel, by decide +kernel, by decide +kernel, by decide +kernel, by decide +kernel⟩, by decide +kernel, by decide +kernel, by decide +kernel, by decide +kernel⟩, by decide +kernel, by decide +kernel, by decide +kernel, by decide +kernel⟩
  · exact ⟨⟨⟨by decide +kernel, by decide +kernel, by decide +kernel, by decide +kernel, by decide +kernel⟩, by decide +kernel, by decide +kernel, by decide +kernel, by decide +kernel⟩, by decide +kernel, by decide +kernel, by decide +kernel, by decide +kernel⟩
  · exact ⟨⟨⟨by decide +kernel, by decide +kernel, by decide +kernel, by decide +kernel, by decide +kernel⟩, by decide +kernel, by decide +kernel, by decide +kernel, by decide +kernel⟩, by decide +kernel, by decide +kernel, by decide +kernel, by decide +kernel⟩
  · exact ⟨⟨⟨by decide +kernel, by decide +kernel, by decide +kernel, by decide +kernel, by decide +kernel⟩, by decide +kernel, by decide +kernel, by decide +kernel, by decide +kernel⟩, by decide +kernel, by decide +kernel, by decide +kernel, by decide +kernel⟩
theorem yF_R : REL yF 0 := by
  obtain ⟨z2, z40, z52, z53, z57, z59, z60⟩ := yF_0
  have hρ : ∀ r, r ≤ 4 → (if r = 4 then 13 else 18 + 5 * r) = 13 ∨ (if r = 4 then 13 else 18 + 5 * r) = 18 ∨ (if r = 4 then 13 else 18 + 5 * r) = 23 ∨ (if r = 4 then 13 else 18 + 5 * r) = 28 ∨ (if r = 4 then 13 else 18 + 5 * r) = 33 := fun r hr => by split <;> omega
  refine ⟨⟨[], yF_k⟩, yF_x, yF_m, ⟨0, by omega, by decide +kernel, by decide +kernel, fun j => by rw [z2, z40], fun j => ⟨0, by omega, by rw [z40]; rfl⟩⟩, fun j hj => ?_, ⟨by decide +kernel, by decide +kernel⟩, ⟨0, by omega, by decide +kernel, by decide +kernel⟩, ⟨0, fun _ => 0, fun _ => 0, by omega, by decide +kernel, by decide +kernel, fun i hi => absurd hi (by omega), fun i j _ hj => absurd hj (by omega), fun i _ _ => ⟨z52 i, by rw [z53]; rfl, fun a _ => z57 _, fun b _ => z59 _, fun p _ => z60 _⟩⟩, ⟨fun r => if r = 4 then 13 else 18 + 5 * r, hρ, fun r r' hr hr' hne => ?_, fun r hr => ?_, by decide +kernel, fun r hr => (yF_rk _ (hρ r hr)).1, fun r hr => ⟨pN, 0, trivial, ?_, ?_⟩⟩, by rw [yF_k]; decide⟩
  · obtain ⟨a1, a2⟩ := yF_3 j hj
    exact ⟨by rw [a1, a2], 255, by omega, by rw [a2]; rfl⟩
  · show (if r = 4 then 13 else 18 + 5 * r) ≠ (if r' = 4 then 13 else 18 + 5 * r')
    split <;> split <;> omega
  · rcases (show r = 0 ∨ r = 1 ∨ r = 2 ∨ r = 3 by omega) with rfl | rfl | rfl | rfl <;> decide +kernel
  · obtain ⟨b1, b2, b3, b4, b5⟩ := yF_rk _ (hρ r (by omega))
    exact ⟨⟨b1, b2, by omega⟩, rfl, by rw [b3]; rfl, by rw [b4]; rfl, by rw [b5]; rfl⟩
  · refine ⟨trivial, by omega, 0, by omega, ?_, ?_, ?_, ?_, rfl⟩
    · rcases (show r = 0 ∨ r = 1 ∨ r = 2 ∨ r = 3 by omega) with rfl | rfl | rfl | rfl <;> decide +kernel
    · rcases (show r = 0 ∨ r = 1 ∨ r = 2 ∨ r = 3 by omega) with rfl | rfl | rfl | rfl <;> decide +kernel
    · rcases (show r = 0 ∨ r = 1 ∨ r = 2 ∨ r = 3 by omega) with rfl | rfl | rfl | rfl <;> decide +kernel
    · rcases (show r = 0 ∨ r = 1 ∨ r = 2 ∨ r = 3 by omega) with rfl | rfl | rfl | rfl <;> decide +kernel
end I4
