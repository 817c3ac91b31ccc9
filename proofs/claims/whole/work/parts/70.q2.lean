-- says, told, lakeTold, sharp (wip/whole/gen/laws45.py)
theorem yEv {s : zS} (R : yRel s) {h m : Nat} {l : Int} (hh : h < uN (mD s)) (hm : m < 96) : cEv s (6 * 0 + (s.1 43 0 (s.1 1 (16 * 0 + h) 1).toNat).toNat) h m l 0 = uSays (mD s) h m l 0 ∧ cEv s (6 * 0 + (s.1 43 0 (s.1 1 (16 * 0 + h) 1).toNat).toNat) h m l 1 = uSays (mD s) h m l 1 ∧ cTok s (6 * 0 + (s.1 43 0 (s.1 1 (16 * 0 + h) 1).toNat).toNat) ∧ (0 ≤ s.1 1 (16 * 0 + h) 1 ∧ s.1 1 (16 * 0 + h) 1 < 4) ∧ 0 ≤ s.1 43 0 (s.1 1 (16 * 0 + h) 1).toNat ∧ s.1 43 0 (s.1 1 (16 * 0 + h) 1).toNat < 6 := by
  have O := yOk R
  obtain ⟨⟨-, -, -, -, -, T⟩, H1, H2, -⟩ := yTd R
  obtain ⟨t1, t2, t3, t4, -⟩ := H2 h hh
  have ex : cTv s (-1) h = (s.1 43 0 (s.1 1 (16 * 0 + h) 1).toNat).toNat := if_pos rfl
  rw [ex] at t2 t3 t4
  have rb := (O.2.2.2.2.2 h hh).2.2.1
  have nmv : ∀ c : Int, 0 ≤ c → c < 6 → cNmv s h m l c.toNat = uNm (mD s) h m l c := by
    intro c h0 h6
    unfold uNm
    rcases (show c = 0 ∨ c = 1 ∨ c = 2 ∨ c = 3 ∨ c = 4 ∨ c = 5 by omega) with rfl | rfl | rfl | rfl | rfl | rfl
    · rfl
    · rfl
    · show uRank (cH s h 0) (cH s h 4) = _
      rw [T h 0 hh (by decide), T h 4 hh (by decide)]; rfl
    · rfl
    · show cRead s (cH s h 2).toNat m = _
      rw [T h 2 hh (by decide), H1 _ _ (by show (mD s 10 h).toNat < 7; omega) hm]; rfl
    · show cH s h 1 = _
      rw [T h 1 hh (by decide)]; rfl
  refine ⟨?_, ?_, t2, t1.1 rfl⟩
  · unfold cEv uSays
    rw [← t3, uEv_congr (nm' := uNm (mD s) h m l) (fun c hc h6 => nmv c (cPart_mem t2 hc h6) h6)]
  · unfold cEv uSays
    rw [← t4, uEv_congr (nm' := uNm (mD s) h m l) (fun c hc h6 => nmv c (cPart_mem t2 hc h6) h6)]
theorem mr_l {σ τ : zS} {r m : Nat} (M : mRun σ τ 96 0) (hm : m < 96) (hr : r < 7) (ht : ¬ mD σ 3 r = 0) : τ.1 87 0 (7 * m + r) = uV (mD σ) m 0 r ∧ τ.2 85 0 (7 * m + r) = uV (mD σ) m 1 r := by
  obtain ⟨-, -, M3, M4, -⟩ := M
  cases m with
  | zero =>
    have e := M3 r hr ht
    rw [show 7 * 0 + r = r by omega]
    exact ⟨e.1.trans (if_neg ht).symm, e.2⟩
  | succ m =>
    have e := ((M4 m r (by omega) hr (.inl (by omega))).2.2.2.2.2.2.2 ht).2.2.2.2 (by omega)
    rw [show 7 * (m + 1) + r = 7 * m + r + 7 by omega]
    exact e
theorem mr_r {σ τ : zS} {r m : Nat} (M : mRun σ τ 96 0) (hm : m < 96) (hr : r < 7) : mRow τ (mD σ) (uV (mD σ) m) m r := M.2.2.2.1 m r hm hr (.inl hm)
theorem mr_lev {σ τ : zS} {m : Nat} (M : mRun σ τ 96 0) (hm : m < 96) : uLvs (σ.1 55 0) (fun r => τ.1 87 0 (7 * m + r)) 7 = uLevs (mD σ) (uV (mD σ) m) :=
  uLvs_congr (fun r hr => ⟨rfl, fun ht => (mr_l M hm hr ht).1⟩)
theorem mr_ev {σ τ : zS} {h m : Nat} (R : yRel (yR σ τ)) (M : mRun σ τ 96 0) (hm : m < 96) (hh : (h : Int) < σ.1 10 0 4) :
    ((uEv (mNm (yR σ τ) h m) (mPart (yR σ τ) (mRul σ (σ.1 61 0 h).toNat) 0) []).headD 0 = uSays (mD σ) h m (uLevs (mD σ) (uV (mD σ) m)) 0 ∧ (uEv (mNm (yR σ τ) h m) (mPart (yR σ τ) (mRul σ (σ.1 61 0 h).toNat) 1) []).headD 0 = uSays (mD σ) h m (uLevs (mD σ) (uV (mD σ) m)) 1) ∧ mTok (yR σ τ) (mRul σ (σ.1 61 0 h).toNat) ∧ (0 ≤ σ.1 61 0 h ∧ σ.1 61 0 h < 4) ∧ (0 ≤ σ.1 70 0 (σ.1 61 0 h).toNat ∧ σ.1 70 0 (σ.1 61 0 h).toNat < 6) ∧ 0 ≤ σ.1 62 0 h ∧ σ.1 62 0 h < 7 := by
  have K := (yMok R).2.1 h ((yuN R).mpr hh)
  obtain ⟨k1, k2, k3, k4⟩ := K
  exact ⟨mEv_eq (σ := yR σ τ) hm k4 (mr_lev M hm) (M.2.1 _ _ (by have := k2; show (σ.1 62 0 h).toNat < 7; have : 0 ≤ σ.1 62 0 h ∧ σ.1 62 0 h < 7 := k2; omega) hm), k4, k1, k3, k2⟩
def vSays (D : uT) (h m p : Int) : Int := if (0 ≤ h ∧ h < D 19 0) ∧ (0 ≤ m ∧ m ≤ 95) ∧ 0 ≤ p ∧ p ≤ 1 then uSays D h.toNat m.toNat (uLevs D (uV D m.toNat)) p.toNat else -4611686018427387904
theorem yE_N {σ : zS} {G G2 G3 : Nat → Nat → Nat → Int} : ∀ k, k = 10 ∨ 46 ≤ k → (zN (zN (zG σ G) G2) G3).1 k = σ.1 k := fun k h => by
  rw [zN_N]
  show (if k = 44 then G3 44 else if k = 45 then G3 45 else (zG σ G).1 k) = σ.1 k
  rw [if_neg (by omega), if_neg (by omega)]
  exact if_neg (fk_no h)
theorem yr_N {σ : zS} {G : Nat → Nat → Nat → Int} (R : yRel σ) : yRel (zN σ G) := R
theorem yr_K {σ : zS} {G : Nat → Nat → Int} (R : yRel σ) : yRel (zK σ 98 G) := R
theorem yc_85 {d : Nat} (h m p : Int) : yC (d + 60) 85 [.inl h, .inl m, .inl p] (fun s => .inr (.inl (vSays (mD s) h m p))) := fun σ Q R q => by
  have q : ∀ s, yE σ s → yRel s → Q (some (.inr (.inl (vSays (mD σ) h m p)))) s := q
  obtain ⟨n8, n0, n16⟩ := yN8 R
  have oH : 0 ≤ σ.1 8 0 8 ∧ σ.1 8 0 8 ≤ 1000 := by omega
  by_cases P : (0 ≤ h ∧ h < mD σ 19 0) ∧ (0 ≤ m ∧ m ≤ 95) ∧ 0 ≤ p ∧ p ≤ 1
  case neg =>
    rw [show vSays (mD σ) h m p = -4611686018427387904 from if_neg P] at q
    have qn := q
    have q := q _ yE_r R
    have nb : ¬ ((0 ≤ h ∧ h < σ.1 8 0 8) ∧ (0 ≤ m ∧ m ≤ 95) ∧ 0 ≤ p ∧ p ≤ 1) := by rw [n8]; exact P
    clear P
    refine zb_85 oH
      (fun a0 a1 a2 => (absurd (by omega) nb))
      (fun a0 a1 a2 => (absurd (by omega) nb))
      (fun a0 a1 a2 G1 a4 a5 a6 => (absurd (by omega) nb))
      (fun a0 a1 a2 G1 a4 a5 a6 => (absurd (by omega) nb))
      (fun a0 a1 a2 G1 a4 a5 a6 => (absurd (by omega) nb))
      (fun a0 a1 a2 G1 a4 a5 a6 => (absurd (by omega) nb))
      (fun a0 a1 a2 G1 a4 a5 a6 => (absurd (by omega) nb))
      (fun a0 a1 a2 G1 a4 a5 a6 => (absurd (by omega) nb))
      (fun a0 a1 a2 G1 a4 a5 a6 G2 a8 => (absurd (by omega) nb))
      (fun a0 a1 a2 G1 a4 a5 a6 G2 a8 => (absurd (by omega) nb))
      (fun a0 a1 a2 G1 a4 a5 a6 G2 a8 => (absurd (by omega) nb))
      (fun a0 a1 a2 G1 a4 a5 a6 G2 a8 G3 a10 => (absurd (by omega) nb))
      (fun a0 a1 a2 => q)
      (fun a0 a1 => q)
      (fun a0 => q)
  have P' : (0 ≤ h ∧ h < σ.1 8 0 8) ∧ (0 ≤ m ∧ m ≤ 95) ∧ 0 ≤ p ∧ p ≤ 1 := by rw [n8]; exact P
  obtain ⟨h, rfl⟩ := Int.eq_ofNat_of_zero_le P.1.1
  obtain ⟨m, rfl⟩ := Int.eq_ofNat_of_zero_le P.2.1.1
  have hh : (h : Int) < σ.1 10 0 4 := P.1.2
  have hu : h < uN (mD σ) := (yuN R).mpr hh
  have hm1 : (m : Int) < ((m + 1 : Nat) : Int) := by omega
  have m96 : m < 96 := by omega
  have p01 : p = 0 ∨ p = 1 := by omega
  have z1 : zW ((m : Int) + 1) = ((m + 1 : Nat) : Int) := by unfold zW; omega
  have rb : 0 ≤ cH σ h 2 ∧ cH σ h 2 < 7 := by
    have a := ((yHol R).2.1 h hh).2.2.1
    have b := ((yHol R).2.2 h hh).2.2.1
    rw [a]; omega
  have vS : ∀ G1 G2 G3 : Nat → Nat → Nat → Int, cWk (zG σ G1) 0 (mD σ) ((m + 1 : Nat) : Int) → yRel (zG σ G1) → (∀ j, j < 6 → G2 44 0 j = cNmv (zG σ G1) h m (uLvs (cTh (zG σ G1)) (fun r => (zG σ G1).1 26 (7 * 0 + r) m) 7) j) → G3 44 = (zN (zG σ G1) G2).1 44 →
      vSays (mD σ) h m p = (uEv (fun c => (zN (zG σ G1) G2).1 44 0 c.toNat) (cPart (zN (zG σ G1) G2) (6 * 0 + ((zG σ G1).1 43 0 (((zG σ G1).1 1 (16 * 0 + h) 1).toNat)).toNat) p) []).headD 0 := fun G1 G2 G3 W R2 g2 g3 => by
    have E := yEv (l := uLevs (mD σ) (uV (mD σ) m)) R2 (h := h) hu m96
    rw [cw_lev W hm1] at g2
    unfold vSays
    rw [if_pos P]
    have e : (uEv (fun c => (zN (zG σ G1) G2).1 44 0 c.toNat) (cPart (zN (zG σ G1) G2) (6 * 0 + ((zG σ G1).1 43 0 (((zG σ G1).1 1 (16 * 0 + h) 1).toNat)).toNat) p) []).headD 0 = cEv (zG σ G1) (6 * 0 + ((zG σ G1).1 43 0 ((zG σ G1).1 1 (16 * 0 + h) 1).toNat).toNat) h m (uLevs (mD σ) (uV (mD σ) m)) p := by
      show (uEv (fun c => G2 44 0 c.toNat) (cPart (zG σ G1) (6 * 0 + ((zG σ G1).1 43 0 (((zG σ G1).1 1 (16 * 0 + h) 1).toNat)).toNat) p) []).headD 0 = _
      unfold cEv
      rw [uEv_congr (nm' := fun c => cNmv (zG σ G1) h m (uLevs (mD σ) (uV (mD σ) m)) c.toNat) (fun c hc h6 => g2 _ (by have := cPart_mem E.2.2.1 hc h6; omega))]
    rw [e]
    rcases p01 with rfl | rfl
    · exact E.1.symm
    · exact E.2.1.symm
  refine zb_85 oH
      (fun a0 a1 a2 => (by rw [z1]; omega))
      (fun a0 a1 a2 => R)
      (fun a0 a1 a2 G1 a4 a5 a6 => (by omega))
      (fun a0 a1 a2 G1 a4 a5 a6 => (yEv (l := 0) R hu m96).2.2.2.1)
      (fun a0 a1 a2 G1 a4 a5 a6 => (by omega))
      (fun a0 a1 a2 G1 a4 a5 a6 => (by omega))
      (fun a0 a1 a2 G1 a4 a5 a6 => (by omega))
      (fun a0 a1 a2 G1 a4 a5 a6 => rb)
      (fun a0 a1 a2 G1 a4 a5 a6 G2 a8 => (yEv (l := 0) R hu m96).2.2.2.2)
      (fun a0 a1 a2 G1 a4 a5 a6 G2 a8 => (yEv (l := 0) R hu m96).2.2.1)
      (fun a0 a1 a2 G1 a4 a5 a6 G2 a8 => p01)
      (fun a0 a1 a2 G1 a4 a5 a6 G2 a8 G3 a10 => (yAl (vS G1 G2 G3 (z1 ▸ a4) a5 a8 a10) (q _ ⟨rfl, yE_N⟩ (yr_N (yr_N a5)))))
      (fun a0 a1 a2 => (by exfalso; omega))
      (fun a0 a1 => (by exfalso; omega))
      (fun a0 => (by exfalso; omega))
theorem ym_164 {d : Nat} (h m p : Int) : yM (d + 60) 164 [.inl h, .inl m, .inl p] (fun s => .inr (.inl (vSays (mD s) h m p))) := fun σ Q R q => by
  have q : ∀ s, yRel s → Q (some (.inr (.inl (vSays (mD σ) h m p)))) s := q
  obtain ⟨n8, n0, n16⟩ := yN8 R
  have oH : 0 ≤ σ.1 8 0 8 ∧ σ.1 8 0 8 ≤ 1000 := by omega
  by_cases P : (0 ≤ h ∧ h < mD σ 19 0) ∧ (0 ≤ m ∧ m ≤ 95) ∧ 0 ≤ p ∧ p ≤ 1
  case neg =>
    rw [show vSays (mD σ) h m p = -4611686018427387904 from if_neg P] at q
    have qn := q
    have q := q _ R
    have nb : ¬ ((0 ≤ h ∧ h < σ.1 10 0 4) ∧ (0 ≤ m ∧ m ≤ 95) ∧ 0 ≤ p ∧ p ≤ 1) := P
    clear P
    refine zb_164 (fun a0 a1 a2 a3 => (absurd (by omega) nb))
      (fun a0 a1 a2 a3 G1 a5 a6 => (absurd (by omega) nb))
      (fun a0 a1 a2 a3 G1 a5 a6 => (absurd (by omega) nb))
      (fun a0 a1 a2 a3 G1 a5 a6 a7 => (absurd (by omega) nb))
      (fun a0 a1 a2 a3 G1 a5 a6 a7 => (absurd (by omega) nb))
      (fun a0 a1 a2 a3 G1 a5 a6 a7 => (absurd (by omega) nb))
      (fun a0 a1 a2 a3 G1 a5 a6 a7 => (absurd (by omega) nb))
      (fun a0 a1 a2 a3 G1 a5 a6 a7 => (absurd (by omega) nb))
      (fun a0 a1 a2 a3 G1 a5 a6 a7 => (absurd (by omega) nb))
      (fun a0 a1 a2 a3 G1 a5 a6 a7 => (absurd (by omega) nb))
      (fun a0 a1 a2 a3 G1 a5 a6 a7 => (absurd (by omega) nb))
      (fun a0 a1 a2 a3 G1 a5 a6 a7 => (absurd (by omega) nb))
      (fun a0 a1 a2 a3 G1 a5 a6 a7 => (absurd (by omega) nb))
      (fun a0 a1 a2 a3 G1 a5 a6 a7 => (absurd (by omega) nb))
      (fun a0 a1 a2 a3 G1 a5 a6 a7 => (absurd (by omega) nb))
      (fun a0 a1 a2 => q)
      (fun a0 a1 a2 a3 G1 a5 a6 a7 G2 => (absurd (by omega) nb))
      (fun a0 a1 a2 a3 G1 a5 a6 a7 G3 => (absurd (by omega) nb))
      (fun a0 a1 a2 a3 => q)
      (fun a0 a1 => q)
      (fun a0 => q)
  have P' : (0 ≤ h ∧ h < σ.1 10 0 4) ∧ (0 ≤ m ∧ m ≤ 95) ∧ 0 ≤ p ∧ p ≤ 1 := P
  obtain ⟨h, rfl⟩ := Int.eq_ofNat_of_zero_le P.1.1
  obtain ⟨m, rfl⟩ := Int.eq_ofNat_of_zero_le P.2.1.1
  have hh : (h : Int) < σ.1 10 0 4 := P.1.2
  have hu : h < uN (mD σ) := (yuN R).mpr hh
  have hm1 : (m : Int) < ((m + 1 : Nat) : Int) := by omega
  have m96 : m < 96 := by omega
  have p01 : p = 0 ∨ p = 1 := by omega
  refine zb_164 (fun a0 a1 a2 a3 => R)
      (fun a0 a1 a2 a3 G1 a5 a6 => (by omega))
      (fun a0 a1 a2 a3 G1 a5 a6 => (mr_ev a6 a5 m96 hh).2.2.1)
      (fun a0 a1 a2 a3 G1 a5 a6 a7 => (mr_ev a6 a5 m96 hh).2.2.2.1)
      (fun a0 a1 a2 a3 G1 a5 a6 a7 => (by omega))
      (fun a0 a1 a2 a3 G1 a5 a6 a7 => (by omega))
      (fun a0 a1 a2 a3 G1 a5 a6 a7 => (mr_ev a6 a5 m96 hh).2.2.2.2)
      (fun a0 a1 a2 a3 G1 a5 a6 a7 => (mr_ev a6 a5 m96 hh).2.1)
      (fun a0 a1 a2 a3 G1 a5 a6 a7 => (Or.inl rfl))
      (fun a0 a1 a2 a3 G1 a5 a6 a7 => (mr_ev a6 a5 m96 hh).2.2.2.1)
      (fun a0 a1 a2 a3 G1 a5 a6 a7 => (by omega))
      (fun a0 a1 a2 a3 G1 a5 a6 a7 => (by omega))
      (fun a0 a1 a2 a3 G1 a5 a6 a7 => (mr_ev a6 a5 m96 hh).2.2.2.2)
      (fun a0 a1 a2 a3 G1 a5 a6 a7 => (mr_ev a6 a5 m96 hh).2.1)
      (fun a0 a1 a2 a3 G1 a5 a6 a7 => (Or.inr rfl))
      (fun a0 a1 a2 => (by exfalso; omega))
      (fun a0 a1 a2 a3 G1 a5 a6 a7 G2 => (yAl (by unfold vSays; rw [if_pos P, p01.resolve_right a7]; exact (mr_ev a6 a5 m96 hh).1.1.symm) (q _ (yr_K a6))))
      (fun a0 a1 a2 a3 G1 a5 a6 a7 G3 => (yAl (by unfold vSays; rw [if_pos P, a7]; exact (mr_ev a6 a5 m96 hh).1.2.symm) (q _ (yr_K a6))))
      (fun a0 a1 a2 a3 => (by exfalso; omega))
      (fun a0 a1 => (by exfalso; omega))
      (fun a0 => (by exfalso; omega))
theorem yp_says {d : Nat} {σ : zS} (R : yRel σ) (h m p : Int) : yPl d 85 164 [.inl h, .inl m, .inl p] σ :=
  yp_ofl (f := fun s => vSays (mD s) h m p) (yc_85 h m p) (ym_164 h m p) (fun σ s e => by show vSays (mD s) h m p = _; rw [e.1]) R
def vTold (D : uT) (r m w : Int) : Int := if (0 ≤ r ∧ r ≤ 6) ∧ (0 ≤ m ∧ m ≤ 95) ∧ 0 ≤ w ∧ w ≤ 6 then (if w = 0 then D 0 (96 * r.toNat + m.toNat) else if w = 1 then uRet D (uV D m.toNat) r.toNat else if w = 2 then uCm D (uV D m.toNat) m.toNat r.toNat (uAm D (uV D m.toNat) m.toNat r.toNat) else if w = 3 then uWat D (uV D m.toNat) m.toNat r.toNat (uAm D (uV D m.toNat) m.toNat r.toNat) else if w = 4 then (uAm D (uV D m.toNat) m.toNat (r.toNat + 1)).1 else if w = 5 then uCs D (uV D m.toNat) m.toNat r.toNat (uAm D (uV D m.toNat) m.toNat r.toNat) else (uAm D (uV D m.toNat) m.toNat (r.toNat + 1)).2.1) else -2
theorem uOn_b {D : uT} {m r : Nat} (O : uOk D) (hm : m < 96) (hr : r < 7) : (0 ≤ (uAm D (uV D m) m (r + 1)).1 ∧ (uAm D (uV D m) m (r + 1)).1 ≤ 2089807) ∧ 0 ≤ (uAm D (uV D m) m (r + 1)).2.1 ∧ (uAm D (uV D m) m (r + 1)).2.1 ≤ 25000000 := by
  have B := uBd O hm hr (uV_k O m (Nat.le_of_lt hm))
  obtain ⟨-, -, -, -, -, -, -, w, ws, -⟩ := B
  have S := uServe_b (D := D) (w := fun h => uWants D h m (uLevs D (uV D m))) (r := r) (L := uOrd D) (q := (uWat D (uV D m) m r (uAm D (uV D m) m r), uWs D (uV D m) m r (uAm D (uV D m) m r), (uAm D (uV D m) m r).2.2.1, (uAm D (uV D m) m r).2.2.2)) (fun h hh => (uWants_b O (uOrd_mem.mp hh) hm).1) w.1 ws.1
  exact ⟨⟨S.1, Int.le_trans S.2.1 w.2⟩, S.2.2.1, Int.le_trans S.2.2.2 ws.2⟩
theorem zWi {x : Int} (h : 0 ≤ x ∧ x ≤ 2147483647) : zW x = x := by unfold zW; omega
theorem yc_86 {d : Nat} (r m w : Int) : yC (d + 60) 86 [.inl r, .inl m, .inl w] (fun s => .inl (vTold (mD s) r m w)) := fun σ Q R q => by
  have q : ∀ s, yE σ s → yRel s → Q (some (.inl (vTold (mD σ) r m w))) s := q
  by_cases P : (0 ≤ r ∧ r ≤ 6) ∧ (0 ≤ m ∧ m ≤ 95) ∧ 0 ≤ w ∧ w ≤ 6
  case neg =>
    rw [show vTold (mD σ) r m w = -2 from if_neg P] at q
    have qn := q
    have q := q _ yE_r R
    have nb : ¬ ((0 ≤ r ∧ r ≤ 6) ∧ (0 ≤ m ∧ m ≤ 95) ∧ 0 ≤ w ∧ w ≤ 6) := P
    clear P
    refine zb_86 (fun a0 a1 a2 => (absurd (by omega) nb))
      (fun a0 a1 a2 => (absurd (by omega) nb))
      (fun a0 a1 a2 G1 a4 a5 a6 => (absurd (by omega) nb))
      (fun a0 a1 a2 G1 a4 a5 a6 a7 => (absurd (by omega) nb))
      (fun a0 a1 a2 G1 a4 a5 a6 a7 => (absurd (by omega) nb))
      (fun a0 a1 a2 G1 a4 a5 a6 a7 => (absurd (by omega) nb))
      (fun a0 a1 a2 G1 a4 a5 a6 a7 => (absurd (by omega) nb))
      (fun a0 a1 a2 G1 a4 a5 a6 a7 => (absurd (by omega) nb))
      (fun a0 a1 a2 G1 a4 a5 a6 a7 => (absurd (by omega) nb))
      (fun a0 a1 a2 G1 a4 a5 a6 a7 => (absurd (by omega) nb))
      (fun a0 a1 a2 G1 a4 a5 a6 a7 => (absurd (by omega) nb))
      (fun a0 a1 a2 G1 a4 a5 a6 a7 => (absurd (by omega) nb))
      (fun a0 a1 a2 G1 a4 a5 a6 a7 => (absurd (by omega) nb))
      (fun a0 a1 a2 G1 a4 a5 a6 a7 => (absurd (by omega) nb))
      (fun a0 a1 a2 G1 a4 a5 a6 a7 => (absurd (by omega) nb))
      (fun a0 a1 a2 G1 a4 a5 a6 a7 => (absurd (by omega) nb))
      (fun a0 a1 a2 G1 a4 a5 a6 a7 => (absurd (by omega) nb))
      (fun a0 a1 a2 G1 a4 a5 a6 a7 => (absurd (by omega) nb))
      (fun a0 a1 a2 G1 a4 a5 a6 a7 => (absurd (by omega) nb))
      (fun a0 a1 a2 => q)
      (fun a0 a1 => q)
      (fun a0 => q)
  have P' : (0 ≤ r ∧ r ≤ 6) ∧ (0 ≤ m ∧ m ≤ 95) ∧ 0 ≤ w ∧ w ≤ 6 := P
  obtain ⟨r, rfl⟩ := Int.eq_ofNat_of_zero_le P.1.1
  obtain ⟨m, rfl⟩ := Int.eq_ofNat_of_zero_le P.2.1.1
  have r7 : r < 7 := by omega
  have hm1 : (m : Int) < ((m + 1 : Nat) : Int) := by omega
  have m96 : m < 96 := by omega
  have z1 : zW ((m : Int) + 1) = ((m + 1 : Nat) : Int) := by unfold zW; omega
  refine zb_86 (fun a0 a1 a2 => (by rw [z1]; omega))
      (fun a0 a1 a2 => R)
      (fun a0 a1 a2 G1 a4 a5 a6 => (by omega))
      (fun a0 a1 a2 G1 a4 a5 a6 a7 => (by omega))
      (fun a0 a1 a2 G1 a4 a5 a6 a7 => (by omega))
      (fun a0 a1 a2 G1 a4 a5 a6 a7 => (by omega))
      (fun a0 a1 a2 G1 a4 a5 a6 a7 => (by omega))
      (fun a0 a1 a2 G1 a4 a5 a6 a7 => (by omega))
      (fun a0 a1 a2 G1 a4 a5 a6 a7 => (by omega))
      (fun a0 a1 a2 G1 a4 a5 a6 a7 => (by omega))
      (fun a0 a1 a2 G1 a4 a5 a6 a7 => (by omega))
      (fun a0 a1 a2 G1 a4 a5 a6 a7 => (by omega))
      (fun a0 a1 a2 G1 a4 a5 a6 a7 => (yA (by unfold vTold; rw [if_pos P, if_neg (by omega), if_neg (by omega), if_neg (by omega), if_neg (by omega), if_neg (by omega), if_neg (by omega)]; exact (cw_r (z1 ▸ a4) hm1 r7).2.2.2.2.1.symm) (q _ yE_G a5)))
      (fun a0 a1 a2 G1 a4 a5 a6 a7 => (yA (by unfold vTold; rw [if_pos P, if_pos a7]; exact ((cw_d a4).1.1 r m r7 m96).symm) (q _ yE_G a5)))
      (fun a0 a1 a2 G1 a4 a5 a6 a7 => (yA (by unfold vTold; rw [if_pos P, if_neg (by omega), if_pos a7]; exact (cw_ret (yOk R) (z1 ▸ a4) hm1 r7).symm) (q _ yE_G a5)))
      (fun a0 a1 a2 G1 a4 a5 a6 a7 => (yA (by unfold vTold; rw [if_pos P, if_neg (by omega), if_neg (by omega), if_pos a7]; exact (cw_r (z1 ▸ a4) hm1 r7).1.symm) (q _ yE_G a5)))
      (fun a0 a1 a2 G1 a4 a5 a6 a7 => (yA (by unfold vTold; rw [if_pos P, if_neg (by omega), if_neg (by omega), if_neg (by omega), if_pos a7]; exact (cw_r (z1 ▸ a4) hm1 r7).2.2.1.symm) (q _ yE_G a5)))
      (fun a0 a1 a2 G1 a4 a5 a6 a7 => (yA (by unfold vTold; rw [if_pos P, if_neg (by omega), if_neg (by omega), if_neg (by omega), if_neg (by omega), if_pos a7]; exact (cw_r (z1 ▸ a4) hm1 r7).2.2.2.1.symm) (q _ yE_G a5)))
      (fun a0 a1 a2 G1 a4 a5 a6 a7 => (yA (by unfold vTold; rw [if_pos P, if_neg (by omega), if_neg (by omega), if_neg (by omega), if_neg (by omega), if_neg (by omega), if_pos a7]; exact (cw_r (z1 ▸ a4) hm1 r7).2.1.symm) (q _ yE_G a5)))
      (fun a0 a1 a2 => (by exfalso; omega))
      (fun a0 a1 => (by exfalso; omega))
      (fun a0 => (by exfalso; omega))
theorem ym_165 {d : Nat} (r m w : Int) : yM (d + 60) 165 [.inl r, .inl m, .inl w] (fun s => .inl (vTold (mD s) r m w)) := fun σ Q R q => by
  have q : ∀ s, yRel s → Q (some (.inl (vTold (mD σ) r m w))) s := q
  by_cases P : (0 ≤ r ∧ r ≤ 6) ∧ (0 ≤ m ∧ m ≤ 95) ∧ 0 ≤ w ∧ w ≤ 6
  case neg =>
    rw [show vTold (mD σ) r m w = -2 from if_neg P] at q
    have qn := q
    have q := q _ R
    have nb : ¬ ((0 ≤ r ∧ r ≤ 6) ∧ (0 ≤ m ∧ m ≤ 95) ∧ 0 ≤ w ∧ w ≤ 6) := P
    clear P
    refine zb_165 (fun a0 a1 => R)
      (fun a0 a1 G1 a3 a4 a5 => (absurd (by omega) nb))
      (fun a0 a1 G1 a3 a4 a5 => (absurd (by omega) nb))
      (fun a0 a1 G1 a3 a4 a5 => (absurd (by omega) nb))
      (fun a0 a1 G1 a3 a4 a5 => (absurd (by omega) nb))
      (fun a0 a1 G1 a3 a4 a5 => (absurd (by omega) nb))
      (fun a0 a1 G1 a3 a4 a5 => (absurd (by omega) nb))
      (fun a0 a1 G1 a3 a4 a5 => (absurd (by omega) nb))
      (fun a0 a1 G1 a3 a4 a5 => (qn _ a4))
      (fun a0 a1 G1 a3 a4 a5 => (absurd (by omega) nb))
      (fun a0 a1 G1 a3 a4 a5 => (absurd (by omega) nb))
      (fun a0 a1 G1 a3 a4 a5 => (absurd (by omega) nb))
      (fun a0 a1 G1 a3 a4 a5 => (absurd (by omega) nb))
      (fun a0 a1 G1 a3 a4 a5 => (absurd (by omega) nb))
      (fun a0 a1 G1 a3 a4 a5 => (absurd (by omega) nb))
      (fun a0 a1 G1 a3 a4 a5 => (absurd (by omega) nb))
      (fun a0 a1 => q)
      (fun a0 => q)
  have P' : (0 ≤ r ∧ r ≤ 6) ∧ (0 ≤ m ∧ m ≤ 95) ∧ 0 ≤ w ∧ w ≤ 6 := P
  obtain ⟨r, rfl⟩ := Int.eq_ofNat_of_zero_le P.1.1
  obtain ⟨m, rfl⟩ := Int.eq_ofNat_of_zero_le P.2.1.1
  have r7 : r < 7 := by omega
  have hm1 : (m : Int) < ((m + 1 : Nat) : Int) := by omega
  have m96 : m < 96 := by omega
  have zx : zW ((zW (7 * (m : Int))) + (r : Int)) = ((7 * m + r : Nat) : Int) := by unfold zW; omega
  have ix : (0 : Int) ≤ ((7 * m + r : Nat) : Int) ∧ ((7 * m + r : Nat) : Int) < 672 := by omega
  have Bd := uBd (yOk R) m96 r7 (uV_k (yOk R) m (Nat.le_of_lt m96))
  have bC : uCs (mD σ) (uV (mD σ) m) m r (uAm (mD σ) (uV (mD σ) m) m r) = zW (uCs (mD σ) (uV (mD σ) m) m r (uAm (mD σ) (uV (mD σ) m) m r)) := (zWi (by have := Bd.2.2.2.2.2.1; exact ⟨this.1, Int.le_trans this.2 (by decide)⟩)).symm
  have bS : (uAm (mD σ) (uV (mD σ) m) m (r + 1)).2.1 = zW (uAm (mD σ) (uV (mD σ) m) m (r + 1)).2.1 := (zWi ⟨(uOn_b (yOk R) m96 r7).2.1, Int.le_trans (uOn_b (yOk R) m96 r7).2.2 (by decide)⟩).symm
  refine zb_165 (fun a0 a1 => R)
      (fun a0 a1 G1 a3 a4 a5 => (by rw [zx]; exact ix))
      (fun a0 a1 G1 a3 a4 a5 => (by rw [zx]; exact ix))
      (fun a0 a1 G1 a3 a4 a5 => (by rw [zx]; exact ix))
      (fun a0 a1 G1 a3 a4 a5 => (by rw [zx]; exact ix))
      (fun a0 a1 G1 a3 a4 a5 => (by rw [zx]; exact ix))
      (fun a0 a1 G1 a3 a4 a5 => (by rw [zx]; exact ix))
      (fun a0 a1 G1 a3 a4 a5 => (by rw [zx]; exact ix))
      (fun a0 a1 G1 a3 a4 a5 => (by exfalso; omega))
      (fun a0 a1 G1 a3 a4 a5 => (yA (by unfold vTold; rw [if_pos P, if_pos a5, zx]; exact (mr_r a3 m96 r7).1.symm) (q _ a4)))
      (fun a0 a1 G1 a3 a4 a5 => (yA (by unfold vTold; rw [if_pos P, if_neg (by omega), if_pos a5, zx]; exact (mr_r a3 m96 r7).2.1.symm) (q _ a4)))
      (fun a0 a1 G1 a3 a4 a5 => (yA (by unfold vTold; rw [if_pos P, if_neg (by omega), if_neg (by omega), if_pos a5, zx]; exact (mr_r a3 m96 r7).2.2.1.symm) (q _ a4)))
      (fun a0 a1 G1 a3 a4 a5 => (yA (by unfold vTold; rw [if_pos P, if_neg (by omega), if_neg (by omega), if_neg (by omega), if_pos a5, zx]; exact (mr_r a3 m96 r7).2.2.2.1.symm) (q _ a4)))
      (fun a0 a1 G1 a3 a4 a5 => (yA (by unfold vTold; rw [if_pos P, if_neg (by omega), if_neg (by omega), if_neg (by omega), if_neg (by omega), if_pos a5, zx]; exact (mr_r a3 m96 r7).2.2.2.2.1.symm) (q _ a4)))
      (fun a0 a1 G1 a3 a4 a5 => (yA (by unfold vTold; rw [if_pos P, if_neg (by omega), if_neg (by omega), if_neg (by omega), if_neg (by omega), if_neg (by omega), if_pos a5, zx]; exact bC.trans (congrArg zW (mr_r a3 m96 r7).2.2.2.2.2.1.symm)) (q _ a4)))
      (fun a0 a1 G1 a3 a4 a5 => (yA (by unfold vTold; rw [if_pos P, if_neg (by omega), if_neg (by omega), if_neg (by omega), if_neg (by omega), if_neg (by omega), if_neg (by omega), zx]; exact bS.trans (congrArg zW (mr_r a3 m96 r7).2.2.2.2.2.2.1.symm)) (q _ a4)))
      (fun a0 a1 => (by exfalso; omega))
      (fun a0 => (by exfalso; omega))
theorem yp_toldm {d : Nat} {σ : zS} (R : yRel σ) (r m w : Int) : yPi d 86 165 [.inl r, .inl m, .inl w] σ :=
  yp_of (f := fun s => vTold (mD s) r m w) (yc_86 r m w) (ym_165 r m w) (fun σ s e => by show vTold (mD s) r m w = _; rw [e.1]) R
def vLake (D : uT) (r m w : Int) : Int := if (0 ≤ r ∧ r ≤ 6) ∧ (0 ≤ m ∧ m ≤ 95) ∧ 0 ≤ w ∧ w ≤ 5 then (if D 3 r.toNat = 0 then -5 else if w = 0 then uV D m.toNat 0 r.toNat else if w = 1 then uStm D (uV D m.toNat) r.toNat else if w = 2 then uOut D (uV D m.toNat) m.toNat r.toNat (uAm D (uV D m.toNat) m.toNat r.toNat) else if w = 3 then zW ((uV D m.toNat 0 r.toNat).tdiv 100) else if w = 4 then zW (zW ((uV D m.toNat 0 r.toNat).tdiv 100) * uOut D (uV D m.toNat) m.toNat r.toNat (uAm D (uV D m.toNat) m.toNat r.toNat)) else uV D m.toNat 1 r.toNat) else -2
theorem cw_st {s : zS} {f : Nat} {D : uT} {M : Int} {r m : Nat} (W : cWk s f D M) (hm : (m : Int) < M) (hr : r < 7) (ht : ¬ D 3 r = 0) : cStm s f r m = uStm D (uV D m) r ∧ cHead s f r m = zW ((uV D m 0 r).tdiv 100) ∧ s.1 21 (7 * f + r) m = uOut D (uV D m) m r (uAm D (uV D m) m r) ∧ cPow s f r m = zW (zW ((uV D m 0 r).tdiv 100) * uOut D (uV D m) m r (uAm D (uV D m) m r)) := by
  have t : ¬ cTh s r = 0 := by rw [cw_th W hr]; exact ht
  have l := (cw_l W hm hr ht).1
  have w := (cw_r W hm hr).2.2.1
  have d3 := ((cw_d W).1.2.2.1 r hr ht).2.1
  have e1 : cStm s f r m = uStm D (uV D m) r := by unfold cStm uStm; rw [if_neg t, l, d3]
  have e2 : cHead s f r m = zW ((uV D m 0 r).tdiv 100) := by unfold cHead; rw [if_neg t, l]
  have e3 : s.1 21 (7 * f + r) m = uOut D (uV D m) m r (uAm D (uV D m) m r) := w.trans (if_neg ht)
  exact ⟨e1, e2, e3, by unfold cPow; rw [e2, e3]⟩
theorem yc_87 {d : Nat} (r m w : Int) : yC (d + 60) 87 [.inl r, .inl m, .inl w] (fun s => .inl (vLake (mD s) r m w)) := fun σ Q R q => by
  have q : ∀ s, yE σ s → yRel s → Q (some (.inl (vLake (mD σ) r m w))) s := q
  by_cases P : (0 ≤ r ∧ r ≤ 6) ∧ (0 ≤ m ∧ m ≤ 95) ∧ 0 ≤ w ∧ w ≤ 5
  case neg =>
    rw [show vLake (mD σ) r m w = -2 from if_neg P] at q
    have qn := q
    have q := q _ yE_r R
    have nb : ¬ ((0 ≤ r ∧ r ≤ 6) ∧ (0 ≤ m ∧ m ≤ 95) ∧ 0 ≤ w ∧ w ≤ 5) := P
    clear P
    refine zb_87 (fun a0 a1 a2 => (by omega))
      (fun a0 a1 a2 a3 => (absurd (by omega) nb))
      (fun a0 a1 a2 a3 => (absurd (by omega) nb))
      (fun a0 a1 a2 a3 G1 a5 a6 a7 a8 => (absurd (by omega) nb))
      (fun a0 a1 a2 a3 G1 a5 a6 a7 a8 => (absurd (by omega) nb))
      (fun a0 a1 a2 a3 G1 a5 a6 a7 a8 => (absurd (by omega) nb))
      (fun a0 a1 a2 a3 G1 a5 a6 a7 a8 => (absurd (by omega) nb))
      (fun a0 a1 a2 a3 G1 a5 a6 a7 a8 => (absurd (by omega) nb))
      (fun a0 a1 a2 a3 G1 a5 a6 a7 a8 => (absurd (by omega) nb))
      (fun a0 a1 a2 a3 G1 a5 a6 a7 a8 => (absurd (by omega) nb))
      (fun a0 a1 a2 a3 G1 a5 a6 a7 a8 => (absurd (by omega) nb))
      (fun a0 a1 a2 a3 G1 a5 a6 a7 a8 => (absurd (by omega) nb))
      (fun a0 a1 a2 a3 G1 a5 a6 a7 a8 => (absurd (by omega) nb))
      (fun a0 a1 a2 a3 G1 a5 a6 a7 a8 => (absurd (by omega) nb))
      (fun a0 a1 a2 a3 G1 a5 a6 a7 a8 => (absurd (by omega) nb))
      (fun a0 a1 a2 a3 G1 a5 a6 a7 a8 => (absurd (by omega) nb))
      (fun a0 a1 a2 a3 G1 a5 a6 a7 a8 => (absurd (by omega) nb))
      (fun a0 a1 a2 a3 G1 a5 a6 a7 a8 => (absurd (by omega) nb))
      (fun a0 a1 a2 a3 => (absurd (by omega) nb))
      (fun a0 a1 a2 => q)
      (fun a0 a1 => q)
      (fun a0 => q)
  have P' : (0 ≤ r ∧ r ≤ 6) ∧ (0 ≤ m ∧ m ≤ 95) ∧ 0 ≤ w ∧ w ≤ 5 := P
  obtain ⟨r, rfl⟩ := Int.eq_ofNat_of_zero_le P.1.1
  obtain ⟨m, rfl⟩ := Int.eq_ofNat_of_zero_le P.2.1.1
  have r7 : r < 7 := by omega
  have hm1 : (m : Int) < ((m + 1 : Nat) : Int) := by omega
  have m96 : m < 96 := by omega
  have z1 : zW ((m : Int) + 1) = ((m + 1 : Nat) : Int) := by unfold zW; omega
  have tE : σ.1 3 (7 * 0 + r) 0 = mD σ 3 r := ((yTd R).1.2.1 r r7).2
  refine zb_87 (fun a0 a1 a2 => (by omega))
      (fun a0 a1 a2 a3 => (by rw [z1]; omega))
      (fun a0 a1 a2 a3 => R)
      (fun a0 a1 a2 a3 G1 a5 a6 a7 a8 => (by omega))
      (fun a0 a1 a2 a3 G1 a5 a6 a7 a8 => (by omega))
      (fun a0 a1 a2 a3 G1 a5 a6 a7 a8 => (by omega))
      (fun a0 a1 a2 a3 G1 a5 a6 a7 a8 => (by omega))
      (fun a0 a1 a2 a3 G1 a5 a6 a7 a8 => (by omega))
      (fun a0 a1 a2 a3 G1 a5 a6 a7 a8 => (by omega))
      (fun a0 a1 a2 a3 G1 a5 a6 a7 a8 => (by omega))
      (fun a0 a1 a2 a3 G1 a5 a6 a7 a8 => (by omega))
      (fun a0 a1 a2 a3 G1 a5 a6 a7 a8 => (by omega))
      (fun a0 a1 a2 a3 G1 a5 a6 a7 a8 => (yA (by unfold vLake; rw [if_pos P, Int.toNat_natCast, Int.toNat_natCast, if_neg (show ¬ mD σ 3 r = 0 from tE ▸ a3), if_neg (by omega), if_neg (by omega), if_neg (by omega), if_neg (by omega), if_neg (by omega)]; exact (cw_l (z1 ▸ a5) hm1 r7 (show ¬ mD σ 3 r = 0 from tE ▸ a3)).2.symm) (q _ yE_G a6)))
      (fun a0 a1 a2 a3 G1 a5 a6 a7 a8 => (yA (by unfold vLake; rw [if_pos P, Int.toNat_natCast, Int.toNat_natCast, if_neg (show ¬ mD σ 3 r = 0 from tE ▸ a3), if_pos a8]; exact (cw_l (z1 ▸ a5) hm1 r7 (show ¬ mD σ 3 r = 0 from tE ▸ a3)).1.symm) (q _ yE_G a6)))
      (fun a0 a1 a2 a3 G1 a5 a6 a7 a8 => (yA (by unfold vLake; rw [if_pos P, Int.toNat_natCast, Int.toNat_natCast, if_neg (show ¬ mD σ 3 r = 0 from tE ▸ a3), if_neg (by omega), if_pos a8]; exact (cw_st (z1 ▸ a5) hm1 r7 (show ¬ mD σ 3 r = 0 from tE ▸ a3)).1.symm) (q _ yE_G a6)))
      (fun a0 a1 a2 a3 G1 a5 a6 a7 a8 => (yA (by unfold vLake; rw [if_pos P, Int.toNat_natCast, Int.toNat_natCast, if_neg (show ¬ mD σ 3 r = 0 from tE ▸ a3), if_neg (by omega), if_neg (by omega), if_pos a8]; exact (cw_st (z1 ▸ a5) hm1 r7 (show ¬ mD σ 3 r = 0 from tE ▸ a3)).2.2.1.symm) (q _ yE_G a6)))
      (fun a0 a1 a2 a3 G1 a5 a6 a7 a8 => (yA (by unfold vLake; rw [if_pos P, Int.toNat_natCast, Int.toNat_natCast, if_neg (show ¬ mD σ 3 r = 0 from tE ▸ a3), if_neg (by omega), if_neg (by omega), if_neg (by omega), if_pos a8]; exact (cw_st (z1 ▸ a5) hm1 r7 (show ¬ mD σ 3 r = 0 from tE ▸ a3)).2.1.symm) (q _ yE_G a6)))
      (fun a0 a1 a2 a3 G1 a5 a6 a7 a8 => (yA (by unfold vLake; rw [if_pos P, Int.toNat_natCast, Int.toNat_natCast, if_neg (show ¬ mD σ 3 r = 0 from tE ▸ a3), if_neg (by omega), if_neg (by omega), if_neg (by omega), if_neg (by omega), if_pos a8]; exact (cw_st (z1 ▸ a5) hm1 r7 (show ¬ mD σ 3 r = 0 from tE ▸ a3)).2.2.2.symm) (q _ yE_G a6)))
      (fun a0 a1 a2 a3 => (yA (by unfold vLake; rw [if_pos P, Int.toNat_natCast, Int.toNat_natCast, if_pos (show mD σ 3 r = 0 from tE ▸ a3)]) (q _ yE_r R)))
      (fun a0 a1 a2 => (by exfalso; omega))
      (fun a0 a1 => (by exfalso; omega))
      (fun a0 => (by exfalso; omega))
theorem ym_166 {d : Nat} (r m w : Int) : yM (d + 60) 166 [.inl r, .inl m, .inl w] (fun s => .inl (vLake (mD s) r m w)) := fun σ Q R q => by
  have q : ∀ s, yRel s → Q (some (.inl (vLake (mD σ) r m w))) s := q
  by_cases P : (0 ≤ r ∧ r ≤ 6) ∧ (0 ≤ m ∧ m ≤ 95) ∧ 0 ≤ w ∧ w ≤ 5
  case neg =>
    rw [show vLake (mD σ) r m w = -2 from if_neg P] at q
    have qn := q
    have q := q _ R
    have nb : ¬ ((0 ≤ r ∧ r ≤ 6) ∧ (0 ≤ m ∧ m ≤ 95) ∧ 0 ≤ w ∧ w ≤ 5) := P
    clear P
    refine zb_166 (fun a0 a1 a2 a3 => (by omega))
      (fun a0 a1 a2 a3 a4 => (absurd (by omega) nb))
      (fun a0 a1 a2 a3 a4 G1 a6 a7 a8 => (absurd (by omega) nb))
      (fun a0 a1 a2 a3 a4 G1 a6 a7 a8 => (absurd (by omega) nb))
      (fun a0 a1 a2 a3 a4 G1 a6 a7 a8 => (absurd (by omega) nb))
      (fun a0 a1 a2 a3 a4 G1 a6 a7 a8 => (absurd (by omega) nb))
      (fun a0 a1 a2 a3 a4 G1 a6 a7 a8 => (absurd (by omega) nb))
      (fun a0 a1 a2 a3 a4 G1 a6 a7 a8 => (absurd (by omega) nb))
      (fun a0 a1 a2 => q)
      (fun a0 a1 a2 a3 a4 G1 a6 a7 a8 => (absurd (by omega) nb))
      (fun a0 a1 a2 a3 a4 G1 a6 a7 a8 => (absurd (by omega) nb))
      (fun a0 a1 a2 a3 a4 G1 a6 a7 a8 => (absurd (by omega) nb))
      (fun a0 a1 a2 a3 a4 G1 a6 a7 a8 => (absurd (by omega) nb))
      (fun a0 a1 a2 a3 a4 G1 a6 a7 a8 => (absurd (by omega) nb))
      (fun a0 a1 a2 a3 a4 G1 a6 a7 a8 => (absurd (by omega) nb))
      (fun a0 a1 a2 a3 a4 => (absurd (by omega) nb))
      (fun a0 a1 a2 a3 => q)
      (fun a0 a1 => q)
      (fun a0 => q)
  have P' : (0 ≤ r ∧ r ≤ 6) ∧ (0 ≤ m ∧ m ≤ 95) ∧ 0 ≤ w ∧ w ≤ 5 := P
  obtain ⟨r, rfl⟩ := Int.eq_ofNat_of_zero_le P.1.1
  obtain ⟨m, rfl⟩ := Int.eq_ofNat_of_zero_le P.2.1.1
  have r7 : r < 7 := by omega
  have hm1 : (m : Int) < ((m + 1 : Nat) : Int) := by omega
  have m96 : m < 96 := by omega
  have zx : zW ((zW (7 * (m : Int))) + (r : Int)) = ((7 * m + r : Nat) : Int) := by unfold zW; omega
  have ix : (0 : Int) ≤ ((7 * m + r : Nat) : Int) ∧ ((7 * m + r : Nat) : Int) < 672 := by omega
  have tE : σ.1 55 0 r = mD σ 3 r := rfl
  have bV : uV (mD σ) m 1 r = zW (uV (mD σ) m 1 r) := (zWi (by have := (uBd (yOk R) m96 r7 (uV_k (yOk R) m (Nat.le_of_lt m96))).2.2.2.2.2.2.1; exact ⟨this.1, Int.le_trans this.2 (by decide)⟩)).symm
  refine zb_166 (fun a0 a1 a2 a3 => (by omega))
      (fun a0 a1 a2 a3 a4 => R)
      (fun a0 a1 a2 a3 a4 G1 a6 a7 a8 => (by rw [zx]; exact ix))
      (fun a0 a1 a2 a3 a4 G1 a6 a7 a8 => (by rw [zx]; exact ix))
      (fun a0 a1 a2 a3 a4 G1 a6 a7 a8 => (by rw [zx]; exact ix))
      (fun a0 a1 a2 a3 a4 G1 a6 a7 a8 => (by rw [zx]; exact ix))
      (fun a0 a1 a2 a3 a4 G1 a6 a7 a8 => (by rw [zx]; exact ix))
      (fun a0 a1 a2 a3 a4 G1 a6 a7 a8 => (by rw [zx]; exact ix))
      (fun a0 a1 a2 => (by exfalso; omega))
      (fun a0 a1 a2 a3 a4 G1 a6 a7 a8 => (yA (by unfold vLake; rw [if_pos P, Int.toNat_natCast, Int.toNat_natCast, if_neg (show ¬ mD σ 3 r = 0 from tE ▸ a4), if_neg (by omega), if_neg (by omega), if_neg (by omega), if_neg (by omega), if_neg (by omega), zx]; exact bV.trans (congrArg zW (mr_l a6 m96 r7 (show ¬ mD σ 3 r = 0 from tE ▸ a4)).2.symm)) (q _ a7)))
      (fun a0 a1 a2 a3 a4 G1 a6 a7 a8 => (yA (by unfold vLake; rw [if_pos P, Int.toNat_natCast, Int.toNat_natCast, if_neg (show ¬ mD σ 3 r = 0 from tE ▸ a4), if_pos a8, zx]; exact (mr_l a6 m96 r7 (show ¬ mD σ 3 r = 0 from tE ▸ a4)).1.symm) (q _ a7)))
      (fun a0 a1 a2 a3 a4 G1 a6 a7 a8 => (yA (by unfold vLake; rw [if_pos P, Int.toNat_natCast, Int.toNat_natCast, if_neg (show ¬ mD σ 3 r = 0 from tE ▸ a4), if_neg (by omega), if_pos a8, zx]; exact ((mr_r a6 m96 r7).2.2.2.2.2.2.2 (show ¬ mD σ 3 r = 0 from tE ▸ a4)).1.symm) (q _ a7)))
      (fun a0 a1 a2 a3 a4 G1 a6 a7 a8 => (yA (by unfold vLake; rw [if_pos P, Int.toNat_natCast, Int.toNat_natCast, if_neg (show ¬ mD σ 3 r = 0 from tE ▸ a4), if_neg (by omega), if_neg (by omega), if_pos a8, zx]; exact ((mr_r a6 m96 r7).2.2.2.2.2.2.2 (show ¬ mD σ 3 r = 0 from tE ▸ a4)).2.1.symm) (q _ a7)))
      (fun a0 a1 a2 a3 a4 G1 a6 a7 a8 => (yA (by unfold vLake; rw [if_pos P, Int.toNat_natCast, Int.toNat_natCast, if_neg (show ¬ mD σ 3 r = 0 from tE ▸ a4), if_neg (by omega), if_neg (by omega), if_neg (by omega), if_pos a8, zx]; exact ((mr_r a6 m96 r7).2.2.2.2.2.2.2 (show ¬ mD σ 3 r = 0 from tE ▸ a4)).2.2.1.symm) (q _ a7)))
      (fun a0 a1 a2 a3 a4 G1 a6 a7 a8 => (yA (by unfold vLake; rw [if_pos P, Int.toNat_natCast, Int.toNat_natCast, if_neg (show ¬ mD σ 3 r = 0 from tE ▸ a4), if_neg (by omega), if_neg (by omega), if_neg (by omega), if_neg (by omega), if_pos a8, zx]; exact congrArg zW ((mr_r a6 m96 r7).2.2.2.2.2.2.2 (show ¬ mD σ 3 r = 0 from tE ▸ a4)).2.2.2.1.symm) (q _ a7)))
      (fun a0 a1 a2 a3 a4 => (yA (by unfold vLake; rw [if_pos P, Int.toNat_natCast, Int.toNat_natCast, if_pos (show mD σ 3 r = 0 from tE ▸ a4)]) (q _ R)))
      (fun a0 a1 a2 a3 => (by exfalso; omega))
      (fun a0 a1 => (by exfalso; omega))
      (fun a0 => (by exfalso; omega))
theorem yp_lakem {d : Nat} {σ : zS} (R : yRel σ) (r m w : Int) : yPi d 87 166 [.inl r, .inl m, .inl w] σ :=
  yp_of (f := fun s => vLake (mD s) r m w) (yc_87 r m w) (ym_166 r m w) (fun σ s e => by show vLake (mD s) r m w = _; rw [e.1]) R
