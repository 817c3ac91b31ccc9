-- the first state (wip/whole/gen/laws93.py; values by makeinit.py)
def gInit (k n j : Nat) : Int := if k = 0 then (if j = 4 then 1 else 0) else if k = 6 then (if j = 1 then -1 else 0) else if k = 7 then (if n = 0 ∧ j = 1 then 1 else if n = 0 ∧ j = 2 then 2 else 0) else if k = 8 then (if j = 13 then 1 else 0) else if k = 10 then (if j = 6 then 1 else if j = 54 then -1 else 0)
  else if k = 33 then (if n = 0 ∧ j = 0 then 1 else 0) else if k = 37 then -1 else if k = 71 then (if j = 0 then 101 else if j = 1 then 100 else 0) else if k = 72 then (if j = 0 then 2 else 0) else if k = 73 then (if j = 0 then 1 else 0) else if k = 74 then -1 else 0
def gZ (f : Nat → Nat → Int) : zS := (fun k n j => if k = 108 then f n j else gInit k n j, fun _ _ _ => 0)
def gSg (L : Nat) (xs : Nat → Int32) : rvS := (fun k n j => if k = 108 then (if j = 1000000 then Int32.ofNat L else xs j) else Int32.ofInt (gInit k n j), fun _ _ _ => 0)
theorem gNo {g : Nat} {P : Prop} (h : (g : Int) < 0) : P := absurd h (by omega)
theorem gZ_text {f : Nat → Nat → Int} : rTx (gZ f) 0 := by
  refine ⟨⟨rfl, rfl⟩, ⟨show (0 : Int) ≤ 1 by decide, show (1 : Int) ≤ 2 by decide, show (2 : Int) ≤ 160 by decide⟩, fun j hj => ?_, rfl, rfl, fun _ j hj => ?_⟩
  · have hj : (j : Int) < 2 := hj
    rcases (show j = 0 ∨ j = 1 by omega) with rfl | rfl
    · exact ⟨rfl, show (-15 : Int) ≤ 1 by decide, show (1 : Int) ≤ 9999 by decide⟩
    · exact ⟨rfl, show (-15 : Int) ≤ 0 by decide, show (0 : Int) ≤ 9999 by decide⟩
  · have hj : (j : Int) < 2 := hj
    rcases (show j = 0 ∨ j = 1 by omega) with rfl | rfl
    · exact (show ¬ (101 : Int) = 3 by decide)
    · exact (show ¬ (100 : Int) = 3 by decide)
theorem gZ_rel {f : Nat → Nat → Int} : yRel (gZ f) := by
  refine ⟨⟨fun j hj => ⟨rfl, Int.le_refl 0, show (0 : Int) ≤ 9999 by decide⟩, ⟨rfl, Int.le_refl 0, show (0 : Int) ≤ 24 by decide⟩, fun g hg => gNo hg, fun r m hr hm => rfl⟩,
    ⟨⟨rfl, Int.le_refl 0, show (0 : Int) ≤ 40 by decide⟩, fun g hg => gNo hg, fun r m hr hm => rfl⟩,
    ⟨fun r hr => ⟨rfl, Int.le_refl 0, show (0 : Int) ≤ 99 by decide⟩, fun r hr => ⟨rfl, Or.inl rfl⟩, fun r hr h => absurd rfl h⟩,
    ⟨⟨rfl, Int.le_refl 0, show (0 : Int) ≤ 16 by decide⟩, fun h hh => gNo hh, fun h hh => gNo hh⟩,
    ⟨⟨rfl, Int.le_refl 0, show (0 : Int) ≤ 16 by decide⟩, fun c hc => gNo hc⟩,
    ⟨⟨rfl, Int.le_refl 1, show (1 : Int) ≤ 6 by decide⟩, fun t ht => ?_⟩,
    fun s hs => ⟨rfl, Int.le_refl 0, show (0 : Int) < 1 by decide⟩,
    ⟨rfl, rfl⟩,
    ⟨⟨rfl, Int.le_refl 0, show (0 : Int) ≤ 160 by decide⟩, fun i hi => gNo hi⟩,
    fun s hs => ⟨rfl, ⟨Int.le_refl (-1), show (-1 : Int) ≤ 2 by decide⟩, rfl, ⟨Int.le_refl 0, show (0 : Int) ≤ 40 by decide⟩, fun j hj => rfl⟩,
    rBase_1 rfl⟩
  have ht : (t : Int) < 1 := ht
  rw [show t = 0 by omega]
  exact gZ_text
theorem gZ_S {f : Nat → Nat → Int} : lwS f (gZ f) := ⟨gZ_rel, Or.inr rfl, rfl⟩
