-- the relation that every call keeps; calls that only tell
def rTape (σ : zS) : Prop := (σ.1 5 0 1 = σ.1 10 0 7 ∧ 0 ≤ σ.1 10 0 7 ∧ σ.1 10 0 7 ≤ 160) ∧ ∀ i : Nat, (i : Int) < σ.1 10 0 7 → σ.1 28 0 i = (σ.1 69 0 i + 128) % 256 - 128 ∧ 0 ≤ σ.1 69 0 i ∧ σ.1 69 0 i < 256
def rShe (σ : zS) : Prop := ∀ s, s < 4 → σ.1 6 (4 * 0 + s) 1 = σ.1 74 0 s ∧ (-1 ≤ σ.1 74 0 s ∧ σ.1 74 0 s ≤ 2) ∧ σ.1 6 (4 * 0 + s) 2 = σ.1 75 0 s ∧ (0 ≤ σ.1 75 0 s ∧ σ.1 75 0 s ≤ 40) ∧ ∀ j, j < 40 → σ.1 32 (4 * 0 + s) j = σ.1 76 0 (40 * s + j)
def rRules (σ : zS) : Prop := ∀ s, s < 4 → σ.1 43 0 s = σ.1 70 0 s ∧ 0 ≤ σ.1 70 0 s ∧ σ.1 70 0 s < σ.1 10 0 6
def rBase (σ : zS) : Prop := (σ.1 0 0 4 = 0 ∨ σ.1 0 0 4 = 1) ∧ (σ.1 0 0 4 = 0 → ∃ k rd, k ≤ rd ∧ cFl σ 0 (mD σ) k rd)
def yRel (σ : zS) : Prop := rSide σ ∧ rGau σ ∧ rLak σ ∧ rHol σ ∧ rCal σ ∧ rTxs σ ∧ rRules σ ∧ (σ.1 10 0 54 = -1 ∧ σ.1 10 0 66 = 0) ∧ rTape σ ∧ rShe σ ∧ rBase σ
/-- a call of the class, then the reference's: both answer alike, and the relation is kept -/
def yPi (d ic im : Nat) (as : List zV) (σ : zS) : Prop := zM (d + 60) ic (.inr (.inr (9, 0)) :: as) σ (fun a s => zM (d + 60) im (.inr (.inr (10, 0)) :: as) s (fun b s' => (∃ v : Int, a = some (.inl v) ∧ b = some (.inl v)) ∧ yRel s'))
def yPl (d ic im : Nat) (as : List zV) (σ : zS) : Prop := zM (d + 60) ic (.inr (.inr (9, 0)) :: as) σ (fun a s => zM (d + 60) im (.inr (.inr (10, 0)) :: as) s (fun b s' => (∃ v : Int, a = some (.inr (.inl v)) ∧ b = some (.inr (.inl v))) ∧ yRel s'))
theorem rBase_1 {σ : zS} (h : σ.1 0 0 4 = 1) : rBase σ := ⟨Or.inr h, fun q => by rw [h] at q; exact absurd q (by decide)⟩
theorem ifu {K j k : Nat} {a : Int} {f : Nat → Int} : (if K = K ∧ j = k ∧ 0 = 0 then a else f j) = if j = k then a else f j := ifk
theorem yp_side {d : Nat} {σ : zS} (R : yRel σ) (r m n : Int) : yPi d 68 122 [.inl r, .inl m, .inl n] σ := by
  obtain ⟨S, G, L, H, C, Tx, Ru, K, Tp, Sh, B⟩ := R
  refine z2_68 (d := d + 57) (fun nb => ?_) (fun a b c => ?_)
  · exact z2_122 (d := d + 57) (fun _ => ⟨⟨-2, rfl, rfl⟩, S, G, L, H, C, Tx, Ru, K, Tp, Sh, B⟩) (fun a1 a2 a3 a4 a5 => absurd (show _ from ⟨⟨a1.1, by omega⟩, ⟨by omega, by omega⟩, by omega, a5⟩) nb)
  · obtain ⟨r, rfl⟩ := Int.eq_ofNat_of_zero_le a.1
    obtain ⟨m, rfl⟩ := Int.eq_ofNat_of_zero_le b.1
    have e1 : zW ((zW ((r : Int) * 12)) + (m : Int)) = ((12 * r + m : Nat) : Int) := by rw [zIx1 (by omega) (by omega)]; omega
    have e2 : zW ((zW (12 * (r : Int))) + (m : Int)) = ((12 * r + m : Nat) : Int) := by rw [zIx1 (by omega) (by omega)]; omega
    rw [e1]
    refine z2_122 (d := d + 57) (fun nb => absurd ⟨a, b, c⟩ nb) (fun _ _ _ _ _ => ?_)
    rw [e2]
    obtain ⟨S1, S2, S3, S4⟩ := S
    refine ⟨⟨_, rfl, ?_⟩, ⟨fun j hj => ?_, S2, S3, S4⟩, G, L, H, C, Tx, Ru, K, Tp, Sh, rBase_1 rfl⟩
    · show some (Sum.inl (σ.1 47 0 (12 * r + m))) = some (Sum.inl (σ.1 34 0 (12 * r + m)))
      rw [(S1 (12 * r + m) (by omega)).1]
    · show (if 34 = 34 ∧ j = 12 * r + m ∧ 0 = 0 then n else σ.1 34 0 j) = (if 47 = 47 ∧ j = 12 * r + m ∧ 0 = 0 then n else σ.1 47 0 j) ∧ 0 ≤ (if 47 = 47 ∧ j = 12 * r + m ∧ 0 = 0 then n else σ.1 47 0 j) ∧ (if 47 = 47 ∧ j = 12 * r + m ∧ 0 = 0 then n else σ.1 47 0 j) ≤ 9999
      rw [ifk, ifk]
      by_cases e : j = 12 * r + m
      · rw [if_pos e, if_pos e]; exact ⟨rfl, c⟩
      · rw [if_neg e, if_neg e]; exact S1 j hj
theorem yp_salt {d : Nat} {σ : zS} (R : yRel σ) (r n : Int) : yPi d 69 123 [.inl r, .inl n] σ := by
  obtain ⟨S, G, L, H, C, Tx, Ru, K, Tp, Sh, B⟩ := R
  refine z2_69 (d := d + 57) (fun nb => ?_) (fun a c => ?_)
  · exact z2_123 (d := d + 57) (fun _ => ⟨⟨-2, rfl, rfl⟩, S, G, L, H, C, Tx, Ru, K, Tp, Sh, B⟩) (fun a1 a2 a3 => absurd (show _ from ⟨⟨a1.1, by omega⟩, ⟨by omega, by omega⟩⟩) nb)
  · obtain ⟨r, rfl⟩ := Int.eq_ofNat_of_zero_le a.1
    refine z2_123 (d := d + 57) (fun nb => absurd ⟨a, c⟩ nb) (fun _ _ _ => ?_)
    obtain ⟨L1, L2, L3⟩ := L
    refine ⟨⟨_, rfl, ?_⟩, S, G, ⟨fun j hj => ?_, L2, L3⟩, H, C, Tx, Ru, K, Tp, Sh, rBase_1 rfl⟩
    · show some (Sum.inl (σ.1 48 0 r)) = some (Sum.inl (σ.1 35 0 r))
      rw [(L1 r (by omega)).1]
    · show (if 35 = 35 ∧ j = r ∧ 0 = 0 then n else σ.1 35 0 j) = (if 48 = 48 ∧ j = r ∧ 0 = 0 then n else σ.1 48 0 j) ∧ 0 ≤ (if 48 = 48 ∧ j = r ∧ 0 = 0 then n else σ.1 48 0 j) ∧ (if 48 = 48 ∧ j = r ∧ 0 = 0 then n else σ.1 48 0 j) ≤ 99
      rw [ifk, ifk]
      by_cases e : j = r
      · rw [if_pos e, if_pos e]; exact ⟨rfl, c⟩
      · rw [if_neg e, if_neg e]; exact L1 j hj
