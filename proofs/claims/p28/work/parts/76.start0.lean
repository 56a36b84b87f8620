/-! the start: a new object *)  -/
theorem sI_c : ∀ i, i < 9 → sI 0 (4 + i) = nI (aC aI i) := by decide
theorem sI_g : ∀ h, h < 6 → sI (22 + 4 * h) 0 = nI 4 ∧ sI (22 + 4 * h) 1 = nI 4 ∧ sI (22 + 4 * h) 3 = nI 0 := by decide
theorem aI_cr : CRep sI aI := ⟨sI_c, fun s hs => by
    obtain ⟨-, -, e3, e4, e5, -⟩ := sI_S s hs
    exact ⟨e3, e4, e5, Nat.zero_le _, fun w r hw => by cases hw⟩, ⟨by decide, by decide, by decide, Nat.zero_le _, fun w r hw => by cases hw⟩, fun h hh => absurd hh (Nat.not_lt_zero _), fun h hh => by
    obtain ⟨e3, e4, e5⟩ := sI_g h hh
    exact ⟨e3, e4, e5, Nat.zero_le _, fun w r hw => by cases hw⟩, ⟨by decide, by decide, by decide, Nat.zero_le _, fun w r hw => by cases hw⟩⟩
theorem aI_6 {j : Nat} : CR6 (x_sh (4 + 47 * j) sT0) aI := CR6.low (τ := sI) ⟨aI_cr, by decide⟩ (fun r hr => sT0_S hr)
theorem PRel_0 : PRel 0 sT0 aI none none := by
  refine ⟨⟨(aI_6 (j := 0)).1, aI_J⟩, ⟨fun _ => aI, fun k => 145 + 47 * k, 0, ⟨fun k hk => ⟨?_, ?_⟩, fun k j _ _ e => by simp only at e; omega⟩, by decide, rfl, fun b hb => by cases hb⟩, ⟨aI, aI, 0, aI_6 (j := 1), aI_6 (j := 2), by decide, rfl, fun b hb => by cases hb⟩, rfl⟩
  · rcases (show k = 0 ∨ k = 1 ∨ k = 2 ∨ k = 3 by omega) with rfl | rfl | rfl | rfl <;> rfl
  · have := aI_6 (j := k + 3)
    rw [show 4 + 47 * (k + 3) = 145 + 47 * k by omega] at this
    exact this
