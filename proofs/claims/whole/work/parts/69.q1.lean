-- takes, all (wip/whole/gen/laws44.py)
def vTakes (D : uT) (h m w : Int) : Int := if (0 ≤ h ∧ h < D 19 0) ∧ (0 ≤ m ∧ m ≤ 95) ∧ 0 ≤ w ∧ w ≤ 4 then (if w = 0 then uAsks D h.toNat m.toNat else if w = 1 then uWants D h.toNat m.toNat (uLevs D (uV D m.toNat)) else if w = 2 then uV D (m.toNat + 1) 2 h.toNat else if w = 3 then uBack D h.toNat (uV D (m.toNat + 1) 2 h.toNat) else if D 15 (96 * h.toNat + m.toNat) = 0 then 0 else 1) else -2
theorem zMo12 {m : Nat} (h : m < 96) : zW ((m : Int) - zW (zW ((m : Int).tdiv 12) * 12)) = ((m % 12 : Nat) : Int) := by
  rw [zTd (by omega)]; unfold zW; omega
theorem yAsks {σ : zS} (R : yRel σ) {h m : Nat} (hh : (h : Int) < σ.1 10 0 4) (hm : m < 96) : uAsks (mD σ) h m = uAsk (σ.1 60 0 h) (σ.1 63 0 h) ((m % 12 : Nat) : Int) (mRead σ (σ.1 62 0 h).toNat m) := by
  show uAsk (σ.1 60 0 h) (σ.1 63 0 h) ((m % 12 : Nat) : Int) (mD σ 1 (96 * (σ.1 62 0 h).toNat + m)) = _
  rw [mD_1 hm]
theorem yc_78 {d : Nat} (h m w : Int) : yC (d + 60) 78 [.inl h, .inl m, .inl w] (fun s => .inl (vTakes (mD s) h m w)) := fun σ Q R q => by
  have q : ∀ s, yE σ s → yRel s → Q (some (.inl (vTakes (mD σ) h m w))) s := q
  obtain ⟨n8, n0, n16⟩ := yN8 R
  have oH : 0 ≤ σ.1 8 0 8 ∧ σ.1 8 0 8 ≤ 1000 := by omega
  by_cases P : (0 ≤ h ∧ h < mD σ 19 0) ∧ (0 ≤ m ∧ m ≤ 95) ∧ 0 ≤ w ∧ w ≤ 4
  case neg =>
    have q := q _ yE_r R
    rw [show vTakes (mD σ) h m w = -2 from if_neg P] at q
    have nb : ¬ ((0 ≤ h ∧ h < σ.1 8 0 8) ∧ (0 ≤ m ∧ m ≤ 95) ∧ 0 ≤ w ∧ w ≤ 4) := by rw [n8]; exact P
    clear P R
    refine zb_78 oH
      (fun a0 a1 a2 => (absurd (by omega) nb))
      (fun a0 a1 a2 a3 => (absurd (by omega) nb))
      (fun a0 a1 a2 a3 => (absurd (by omega) nb))
      (fun a0 a1 a2 a3 G1 a5 a6 a7 => (absurd (by omega) nb))
      (fun a0 a1 a2 a3 G1 a5 a6 a7 a8 => (absurd (by omega) nb))
      (fun a0 a1 a2 a3 => (absurd (by omega) nb))
      (fun a0 a1 a2 a3 => (absurd (by omega) nb))
      (fun a0 a1 a2 a3 G1 a5 a6 a7 a8 => (absurd (by omega) nb))
      (fun a0 a1 a2 a3 G1 a5 a6 a7 a8 => (absurd (by omega) nb))
      (fun a0 a1 a2 a3 G1 a5 a6 a7 a8 => (absurd (by omega) nb))
      (fun a0 a1 a2 a3 G1 a5 a6 a7 a8 => (absurd (by omega) nb))
      (fun a0 a1 a2 a3 => (absurd (by omega) nb))
      (fun a0 a1 a2 => q)
      (fun a0 a1 => q)
      (fun a0 => q)
  obtain ⟨h, rfl⟩ := Int.eq_ofNat_of_zero_le P.1.1
  obtain ⟨m, rfl⟩ := Int.eq_ofNat_of_zero_le P.2.1.1
  have hh : (h : Int) < σ.1 10 0 4 := P.1.2
  have hu : h < uN (mD σ) := (yuN R).mpr hh
  have hm1 : (m : Int) < ((m + 1 : Nat) : Int) := by omega
  have m96 : m < 96 := by omega
  have z1 : zW ((m : Int) + 1) = ((m + 1 : Nat) : Int) := by unfold zW; omega
  have P' : (0 ≤ (h : Int) ∧ (h : Int) < σ.1 8 0 8) ∧ (0 ≤ (m : Int) ∧ (m : Int) ≤ 95) ∧ 0 ≤ w ∧ w ≤ 4 := by rw [n8]; exact P
  have kb : 0 ≤ σ.1 1 (16 * 0 + h) 0 ∧ σ.1 1 (16 * 0 + h) 0 ≤ 5 := by
    have a := ((yHol R).2.1 h hh).1
    rw [show σ.1 1 (16 * 0 + h) 0 = σ.1 60 0 h from a]; exact ((yHol R).2.2 h hh).1
  have rb : 0 ≤ σ.1 1 (16 * 0 + h) 2 ∧ σ.1 1 (16 * 0 + h) 2 < 7 := by
    have a := ((yHol R).2.1 h hh).2.2.1
    have b := ((yHol R).2.2 h hh).2.2.1
    rw [show σ.1 1 (16 * 0 + h) 2 = σ.1 62 0 h from a]; omega
  have vT0 : w = 0 → vTakes (mD σ) h m w = uAsk (σ.1 1 (16 * 0 + h) 0) (σ.1 1 (16 * 0 + h) 3) (zW ((m : Int) - zW (zW ((m : Int).tdiv 12) * 12))) (cRead σ (σ.1 1 (16 * 0 + h) 2).toNat m) := fun e => by
    unfold vTakes
    rw [if_pos P, if_pos e, Int.toNat_natCast, Int.toNat_natCast, yAsks R hh m96, zMo12 m96]
    obtain ⟨a1, a2, a3, a4, -⟩ := (yHol R).2.1 h hh
    rw [show σ.1 1 (16 * 0 + h) 0 = σ.1 60 0 h from a1, show σ.1 1 (16 * 0 + h) 3 = σ.1 63 0 h from a4, show σ.1 1 (16 * 0 + h) 2 = σ.1 62 0 h from a3]
    have b := ((yHol R).2.2 h hh).2.2.1
    rw [(rGau_eq R.2.1 (by omega) m96).1]
  have vT3 : ∀ x : Int, ∀ G : Nat → Nat → Nat → Int, (zG σ G).1 1 = σ.1 1 → x = uV (mD σ) (m + 1) 2 h → uGb ((zG σ G).1 1 (16 * 0 + h) 0) x = uBack (mD σ) h (uV (mD σ) (m + 1) 2 h) := fun x G _ e => by
    rw [e]
    show uGb (cH σ h 0) _ = uGb (σ.1 60 0 h) _
    rw [((yHol R).2.1 h hh).1]
  refine zb_78 oH
      (fun a0 a1 a2 => (by omega))
      (fun a0 a1 a2 a3 => (by rw [z1]; omega))
      (fun a0 a1 a2 a3 => R)
      (fun a0 a1 a2 a3 G1 a5 a6 a7 => (by omega))
      (fun a0 a1 a2 a3 G1 a5 a6 a7 a8 => kb)
      (fun a0 a1 a2 a3 => rb)
      (fun a0 a1 a2 a3 => (by omega))
      (fun a0 a1 a2 a3 G1 a5 a6 a7 a8 => (yA (by unfold vTakes; rw [if_pos P, if_neg (by omega)]; rw [if_neg (by omega), if_neg (by omega), if_neg (by omega)]; exact (cw_sh (yOk R) (z1 ▸ a5) hm1 m96 hu).symm) (q _ yE_G a6)))
      (fun a0 a1 a2 a3 G1 a5 a6 a7 a8 => (yA (by unfold vTakes; rw [if_pos P, if_neg (by omega)]; rw [if_pos a8]; exact (cw_w (z1 ▸ a5) hm1 hu).1.symm) (q _ yE_G a6)))
      (fun a0 a1 a2 a3 G1 a5 a6 a7 a8 => (yA (by unfold vTakes; rw [if_pos P, if_neg (by omega)]; rw [if_neg (by omega), if_pos a8]; exact (cw_w (z1 ▸ a5) hm1 hu).2.symm) (q _ yE_G a6)))
      (fun a0 a1 a2 a3 G1 a5 a6 a7 a8 => (yA (by unfold vTakes; rw [if_pos P, if_neg (by omega)]; rw [if_neg (by omega), if_neg (by omega), if_pos a8]; exact (vT3 _ _ rfl (cw_w (z1 ▸ a5) hm1 hu).2).symm) (q _ yE_G a6)))
      (fun a0 a1 a2 a3 => (yA (vT0 a3) (q _ yE_r R)))
      (fun a0 a1 a2 => (by exfalso; omega))
      (fun a0 a1 => (by exfalso; omega))
      (fun a0 => (by exfalso; omega))
theorem ym_161 {d : Nat} (h m w : Int) : yM (d + 60) 161 [.inl h, .inl m, .inl w] (fun s => .inl (vTakes (mD s) h m w)) := fun σ Q R q => by
  have q : ∀ s, yRel s → Q (some (.inl (vTakes (mD σ) h m w))) s := q
  obtain ⟨n8, n0, n16⟩ := yN8 R
  by_cases P : (0 ≤ h ∧ h < mD σ 19 0) ∧ (0 ≤ m ∧ m ≤ 95) ∧ 0 ≤ w ∧ w ≤ 4
  case neg =>
    have q := q _ R
    rw [show vTakes (mD σ) h m w = -2 from if_neg P] at q
    have nb : ¬ ((0 ≤ h ∧ h < σ.1 10 0 4) ∧ (0 ≤ m ∧ m ≤ 95) ∧ 0 ≤ w ∧ w ≤ 4) := P
    clear P R
    refine zb_161 (fun a0 a1 a2 a3 => (absurd (by omega) nb))
      (fun a0 a1 a2 a3 G1 a5 a6 a7 a8 a9 a10 => (absurd (by omega) nb))
      (fun a0 a1 a2 a3 G1 a5 a6 a7 a8 a9 a10 => (absurd (by omega) nb))
      (fun a0 a1 a2 a3 G1 a5 a6 a7 a8 a9 a10 => (absurd (by omega) nb))
      (fun a0 a1 a2 a3 G1 a5 a6 a7 a8 a9 a10 => (absurd (by omega) nb))
      (fun a0 a1 a2 a3 G1 a5 a6 a7 a8 a9 => (absurd (by omega) nb))
      (fun a0 a1 a2 a3 G1 a5 a6 a7 a8 => (absurd (by omega) nb))
      (fun a0 a1 a2 a3 G1 a5 a6 a7 => (absurd (by omega) nb))
      (fun a0 a1 a2 a3 G1 a5 a6 a7 => (absurd (by omega) nb))
      (fun a0 a1 a2 a3 G1 a5 a6 a7 => (absurd (by omega) nb))
      (fun a0 a1 a2 => q)
      (fun a0 a1 a2 a3 G1 a5 a6 a7 a8 a9 a10 a11 => (absurd (by omega) nb))
      (fun a0 a1 a2 a3 G1 a5 a6 a7 a8 a9 a10 a11 => (absurd (by omega) nb))
      (fun a0 a1 a2 a3 G1 a5 a6 a7 a8 a9 a10 => (absurd (by omega) nb))
      (fun a0 a1 a2 a3 G1 a5 a6 a7 a8 a9 => (absurd (by omega) nb))
      (fun a0 a1 a2 a3 G1 a5 a6 a7 a8 => (absurd (by omega) nb))
      (fun a0 a1 a2 a3 G1 a5 a6 a7 => (absurd (by omega) nb))
      (fun a0 a1 a2 a3 => q)
      (fun a0 a1 => q)
      (fun a0 => q)
  obtain ⟨h, rfl⟩ := Int.eq_ofNat_of_zero_le P.1.1
  obtain ⟨m, rfl⟩ := Int.eq_ofNat_of_zero_le P.2.1.1
  have hh : (h : Int) < σ.1 10 0 4 := P.1.2
  have hu : h < uN (mD σ) := (yuN R).mpr hh
  have m96 : m < 96 := by omega
  have zx : zW ((zW (17 * (m : Int))) + (h : Int)) = ((17 * m + h : Nat) : Int) := by unfold zW; omega
  have ix : (0 : Int) ≤ ((17 * m + h : Nat) : Int) ∧ ((17 * m + h : Nat) : Int) < 1632 := by omega
  have P' : (0 ≤ (h : Int) ∧ (h : Int) < σ.1 10 0 4) ∧ (0 ≤ (m : Int) ∧ (m : Int) ≤ 95) ∧ 0 ≤ w ∧ w ≤ 4 := P
  have rb : 0 ≤ σ.1 62 0 h ∧ σ.1 62 0 h < 7 := by
    have b := ((yHol R).2.2 h hh).2.2.1
    omega
  have cb : (0 ≤ σ.1 10 0 5 ∧ σ.1 10 0 5 ≤ 16) ∧ ∀ c : Nat, (c : Int) < σ.1 10 0 5 → 0 ≤ σ.1 67 0 c ∧ σ.1 67 0 c < 17 := by
    obtain ⟨c1, c2⟩ := R.2.2.2.2.1
    exact ⟨c1.2, fun c hc => by have := (c2 c hc).2.1; omega⟩
  have mHo : ∀ {τ : zS}, mRun σ τ 96 0 → mHold τ (mD σ) (uV (mD σ) m) m h := fun M => M.2.2.2.2 m h m96 hu (.inl m96)
  have vT0 : ∀ τ : zS, mRds σ τ → uAsks (mD σ) h m = uAsk (σ.1 60 0 h) (σ.1 63 0 h) (zW ((m : Int) - zW (zW ((m : Int).tdiv 12) * 12))) (τ.1 100 0 (7 * m + (σ.1 62 0 h).toNat)) := fun τ M => by
    rw [yAsks R hh m96, zMo12 m96, M _ _ (by omega) m96]
  refine zb_161 (fun a0 a1 a2 a3 => R)
      (fun a0 a1 a2 a3 G1 a5 a6 a7 a8 a9 a10 => (by omega))
      (fun a0 a1 a2 a3 G1 a5 a6 a7 a8 a9 a10 => cb.1)
      (fun a0 a1 a2 a3 G1 a5 a6 a7 a8 a9 a10 => cb.2)
      (fun a0 a1 a2 a3 G1 a5 a6 a7 a8 a9 a10 => (by rw [zx]; exact ix))
      (fun a0 a1 a2 a3 G1 a5 a6 a7 a8 a9 => (by rw [zx]; exact ix))
      (fun a0 a1 a2 a3 G1 a5 a6 a7 a8 => (by rw [zx]; exact ix))
      (fun a0 a1 a2 a3 G1 a5 a6 a7 => (by omega))
      (fun a0 a1 a2 a3 G1 a5 a6 a7 => (by omega))
      (fun a0 a1 a2 a3 G1 a5 a6 a7 => rb)
      (fun a0 a1 a2 => (by exfalso; omega))
      (fun a0 a1 a2 a3 G1 a5 a6 a7 a8 a9 a10 a11 => (yA (by unfold vTakes; rw [if_pos P, if_neg a7, if_neg a8, if_neg a9, if_neg a10]; show (if mD σ 15 (96 * h + m) = 0 then (0 : Int) else 1) = _; rw [mD_15 m96, if_pos (show mSh σ h (m : Int) = true from a11), if_neg (by decide)]) (q _ a6)))
      (fun a0 a1 a2 a3 G1 a5 a6 a7 a8 a9 a10 a11 => (yA (by unfold vTakes; rw [if_pos P, if_neg a7, if_neg a8, if_neg a9, if_neg a10]; show (if mD σ 15 (96 * h + m) = 0 then (0 : Int) else 1) = _; rw [mD_15 m96, if_neg (show ¬ mSh σ h (m : Int) = true from a11), if_pos rfl]) (q _ a6)))
      (fun a0 a1 a2 a3 G1 a5 a6 a7 a8 a9 a10 => (yA (by unfold vTakes; rw [if_pos P, if_neg a7, if_neg a8, if_neg a9, if_pos a10, zx]; exact (mHo a5).2.2.1.symm) (q _ a6)))
      (fun a0 a1 a2 a3 G1 a5 a6 a7 a8 a9 => (yA (by unfold vTakes; rw [if_pos P, if_neg a7, if_neg a8, if_pos a9, zx]; exact (mHo a5).2.1.symm) (q _ a6)))
      (fun a0 a1 a2 a3 G1 a5 a6 a7 a8 => (yA (by unfold vTakes; rw [if_pos P, if_neg a7, if_pos a8, zx]; exact (mHo a5).1.symm) (q _ a6)))
      (fun a0 a1 a2 a3 G1 a5 a6 a7 => (yA (by unfold vTakes; rw [if_pos P, if_pos a7]; exact vT0 _ (a5.2.1)) (q _ a6)))
      (fun a0 a1 a2 a3 => (by exfalso; omega))
      (fun a0 a1 => (by exfalso; omega))
      (fun a0 => (by exfalso; omega))
theorem yp_takes {d : Nat} {σ : zS} (R : yRel σ) (h m w : Int) : yPi d 78 161 [.inl h, .inl m, .inl w] σ :=
  yp_of (f := fun s => vTakes (mD s) h m w) (yc_78 h m w) (ym_161 h m w) (fun σ s e => by show vTakes (mD s) h m w = _; rw [e.1]) R
def vAll (D : uT) (h a b : Int) : Int := if (0 ≤ h ∧ h < D 19 0) ∧ (0 ≤ a ∧ a ≤ b ∧ b ≤ 96) then uSw (fun m => uV D (m + 1) 2 h.toNat) a.toNat (b.toNat - a.toNat) else -4611686018427387904
theorem yc_79 {d : Nat} (h a b : Int) : yC (d + 60) 79 [.inl h, .inl a, .inl b] (fun s => .inr (.inl (vAll (mD s) h a b))) := fun σ Q R q => by
  have q : ∀ s, yE σ s → yRel s → Q (some (.inr (.inl (vAll (mD σ) h a b)))) s := q
  obtain ⟨n8, n0, n16⟩ := yN8 R
  have oH : 0 ≤ σ.1 8 0 8 ∧ σ.1 8 0 8 ≤ 1000 := by omega
  by_cases P : (0 ≤ h ∧ h < mD σ 19 0) ∧ (0 ≤ a ∧ a ≤ b ∧ b ≤ 96)
  case neg =>
    have q := q _ yE_r R
    rw [show vAll (mD σ) h a b = -4611686018427387904 from if_neg P] at q
    have nb : ¬ ((0 ≤ h ∧ h < σ.1 8 0 8) ∧ (0 ≤ a ∧ a ≤ b ∧ b ≤ 96)) := by rw [n8]; exact P
    clear P R
    refine zb_79 oH
      (fun a0 a1 => (absurd (by omega) nb))
      (fun a0 a1 => (absurd (by omega) nb))
      (fun a0 a1 G1 a3 a4 a5 => (absurd (by omega) nb))
      (fun a0 a1 G1 a3 a4 a5 => (absurd (by omega) nb))
      (fun a0 a1 G1 a3 a4 a5 => (absurd (by omega) nb))
      (fun a0 a1 => q)
      (fun a0 => q)
  obtain ⟨h, rfl⟩ := Int.eq_ofNat_of_zero_le P.1.1
  have hh : (h : Int) < σ.1 10 0 4 := P.1.2
  have hu : h < uN (mD σ) := (yuN R).mpr hh
  have P' : (0 ≤ (h : Int) ∧ (h : Int) < σ.1 8 0 8) ∧ (0 ≤ a ∧ a ≤ b ∧ b ≤ 96) := by rw [n8]; exact P
  refine zb_79 oH
      (fun a0 a1 => (by omega))
      (fun a0 a1 => R)
      (fun a0 a1 G1 a3 a4 a5 => (by omega))
      (fun a0 a1 G1 a3 a4 a5 => (by omega))
      (fun a0 a1 G1 a3 a4 a5 => (yAl (by unfold vAll; rw [if_pos P]; exact (uSw_congr (fun k h1 h2 => (cw_w a3 (by omega) hu).2)).symm) (q _ yE_G a4)))
      (fun a0 a1 => (by exfalso; omega))
      (fun a0 => (by exfalso; omega))
theorem ym_162 {d : Nat} (h a b : Int) : yM (d + 60) 162 [.inl h, .inl a, .inl b] (fun s => .inr (.inl (vAll (mD s) h a b))) := fun σ Q R q => by
  have q : ∀ s, yRel s → Q (some (.inr (.inl (vAll (mD σ) h a b)))) s := q
  obtain ⟨n8, n0, n16⟩ := yN8 R
  by_cases P : (0 ≤ h ∧ h < mD σ 19 0) ∧ (0 ≤ a ∧ a ≤ b ∧ b ≤ 96)
  case neg =>
    have q := q _ R
    rw [show vAll (mD σ) h a b = -4611686018427387904 from if_neg P] at q
    have nb : ¬ ((0 ≤ h ∧ h < σ.1 10 0 4) ∧ (0 ≤ a ∧ a ≤ b ∧ b ≤ 96)) := P
    clear P R
    refine zb_162 (fun a0 a1 => (absurd (by omega) nb))
      (fun a0 a1 G1 a3 a4 => (absurd (by omega) nb))
      (fun a0 a1 G1 a3 a4 => (absurd (by omega) nb))
      (fun a0 a1 G1 a3 a4 => (absurd (by omega) nb))
      (fun a0 a1 => q)
      (fun a0 => q)
  obtain ⟨h, rfl⟩ := Int.eq_ofNat_of_zero_le P.1.1
  have hh : (h : Int) < σ.1 10 0 4 := P.1.2
  have hu : h < uN (mD σ) := (yuN R).mpr hh
  have P' : (0 ≤ (h : Int) ∧ (h : Int) < σ.1 10 0 4) ∧ (0 ≤ a ∧ a ≤ b ∧ b ≤ 96) := P
  refine zb_162 (fun a0 a1 => R)
      (fun a0 a1 G1 a3 a4 => (by omega))
      (fun a0 a1 G1 a3 a4 => (by omega))
      (fun a0 a1 G1 a3 a4 => (yAl (by unfold vAll; rw [if_pos P]; exact (uSw_congr (fun k h1 h2 => (a3.2.2.2.2 k h (by omega) hu (.inl (by omega))).2.1)).symm) (q _ a4)))
      (fun a0 a1 => (by exfalso; omega))
      (fun a0 => (by exfalso; omega))
theorem yp_all {d : Nat} {σ : zS} (R : yRel σ) (h a b : Int) : yPl d 79 162 [.inl h, .inl a, .inl b] σ :=
  yp_ofl (f := fun s => vAll (mD s) h a b) (yc_79 h a b) (ym_162 h a b) (fun σ s e => by show vAll (mD s) h a b = _; rw [e.1]) R
