/-! a picture stays where its cells do *)  -/
theorem CRep.low {τ τ' : xM} {a : xA} (h : CRep τ a) (h6 : aC a 2 ≤ 6) (e : ∀ r, r < 47 → τ' r = τ r) : CRep τ' a :=
  h.wish (e 0 (by decide)) (fun s hs => ⟨e _ (by omega), e _ (by omega)⟩) ⟨e _ (by decide), e _ (by decide)⟩ (fun h9 hh k hk => by rw [e (21 + 4 * h9) (by omega)]) (fun h9 hh => ⟨e _ (by omega), e _ (by omega)⟩) ⟨e _ (by decide), e _ (by decide)⟩
