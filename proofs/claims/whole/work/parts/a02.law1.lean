-- a pair of calls, with the script kept (wip/whole/gen/laws74.py)
def yRs (f : Nat → Nat → Int) (σ : zS) : Prop := yRel σ ∧ σ.1 108 = f
theorem yPi_fr {d ic im : Nat} {as : List zV} {σ : zS} {f : Nat → Nat → Int} (h : yPi d ic im as σ) (hf : σ.1 108 = f) : zM (d + 60) ic (.inr (.inr (9, 0)) :: as) σ (fun a s => zM (d + 60) im (.inr (.inr (10, 0)) :: as) s (fun b s' => (∃ v : Int, a = some (.inl v) ∧ b = some (.inl v)) ∧ yRs f s') ∧ s.1 108 = f) := by
  obtain ⟨F, r, s, h1, h2⟩ := h
  obtain ⟨F2, r2, s2, g1, g2, g3⟩ := h2
  have e1 := zFr_E F _ _ _ _ _ _ _ _ h1
  have e2 := zFr_E F2 _ _ _ _ _ _ _ _ g1
  exact ⟨F, r, s, h1, ⟨F2, r2, s2, g1, g2, g3, e2.trans (e1.trans hf)⟩, e1.trans hf⟩
theorem yPl_fr {d ic im : Nat} {as : List zV} {σ : zS} {f : Nat → Nat → Int} (h : yPl d ic im as σ) (hf : σ.1 108 = f) : zM (d + 60) ic (.inr (.inr (9, 0)) :: as) σ (fun a s => zM (d + 60) im (.inr (.inr (10, 0)) :: as) s (fun b s' => (∃ v : Int, a = some (.inr (.inl v)) ∧ b = some (.inr (.inl v))) ∧ yRs f s') ∧ s.1 108 = f) := by
  obtain ⟨F, r, s, h1, h2⟩ := h
  obtain ⟨F2, r2, s2, g1, g2, g3⟩ := h2
  have e1 := zFr_E F _ _ _ _ _ _ _ _ h1
  have e2 := zFr_E F2 _ _ _ _ _ _ _ _ g1
  exact ⟨F, r, s, h1, ⟨F2, r2, s2, g1, g2, g3, e2.trans (e1.trans hf)⟩, e1.trans hf⟩
theorem zM_mono {d i : Nat} {as : List zV} {σ : zS} {Q Q' : Option zV → zS → Prop} (h : zM d i as σ Q) (k : ∀ r s, Q r s → Q' r s) : zM d i as σ Q' := by
  obtain ⟨F, r, s, h1, h2⟩ := h
  exact ⟨F, r, s, h1, k r s h2⟩
