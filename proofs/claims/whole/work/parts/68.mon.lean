-- months worked, both sides (wip/whole/gen/laws43.py)
theorem rRul_1 {σ : zS} (H : rHol σ) (Tx : rTxs σ) (Ru : rRules σ) : rRul σ (-1) := fun h hh => by
  have a := (H.2.1 h hh).2.1
  have b := (H.2.2 h hh).2.1
  obtain ⟨s, hs⟩ := Int.eq_ofNat_of_zero_le b.1
  have s4 : s < 4 := by omega
  obtain ⟨r1, r2, r3⟩ := Ru s s4
  have a1 : σ.1 1 (16 * 0 + h) 1 = (s : Int) := a.trans hs
  have T2 := Tx.1.2
  obtain ⟨t, ht⟩ := Int.eq_ofNat_of_zero_le r2
  have X : rTx σ t := Tx.2 t (by omega)
  have e1 : cTv σ (-1) h = t := by
    unfold cTv
    rw [if_pos rfl, a1, Int.toNat_natCast, r1, ht, Int.toNat_natCast]
  have e2 : mRul σ s = t := by unfold mRul; rw [ht, Int.toNat_natCast]
  rw [hs, Int.toNat_natCast]
  refine ⟨⟨⟨fun _ => ?_, fun q => absurd rfl q⟩, by rw [e1, e2]⟩, by rw [ht]; omega, by rw [e2]; exact X⟩
  rw [a1, Int.toNat_natCast, r1, ht]; omega
theorem yOk {σ : zS} (R : yRel σ) : uOk (mD σ) := by
  obtain ⟨S, G, L, H, C, Tx, Ru, K, Tp, Sh, B⟩ := R
  exact rOk S G L H
theorem yMok {σ : zS} (R : yRel σ) : mOk σ := by
  obtain ⟨S, G, L, H, C, Tx, Ru, K, Tp, Sh, B⟩ := R
  exact rMok S G L H C (rRul_1 H Tx Ru) (by rw [K.2]; decide)
theorem yTd {σ : zS} (R : yRel σ) : cTd σ (mD σ) (-1) (-1) := by
  obtain ⟨S, G, L, H, C, Tx, Ru, K, Tp, Sh, B⟩ := R
  have := rTd S G L H C (rRul_1 H Tx Ru) K.2
  rw [K.1] at this
  exact this
/-- a flow is worked for the first M months -/
def cWk (s : zS) (f : Nat) (D : uT) (M : Int) : Prop := ∃ k rd : Nat, M ≤ (k : Int) ∧ k ≤ rd ∧ cFl s f D k rd
theorem yr_zG {σ : zS} {G : Nat → Nat → Nat → Int} {k rd : Nat} (R : yRel σ) (h : k ≤ rd) (F : cFl (zG σ G) 0 (mD σ) k rd) : yRel (zG σ G) := by
  obtain ⟨S, Ga, L, H, C, Tx, Ru, K, Tp, Sh, B⟩ := R
  exact ⟨S, Ga, L, H, C, Tx, Ru, K, Tp, Sh, Or.inl F.2.2.2.1.2.2.1, fun _ => ⟨k, rd, h, F⟩⟩
theorem ys_2 {d : Nat} {σ : zS} {Q : Option zV → zS → Prop} {M : Int} (o1 : 0 ≤ M ∧ M ≤ 96) (R : yRel σ)
    (h : ∀ G : Nat → Nat → Nat → Int, cWk (zG σ G) 0 (mD σ) M → yRel (zG σ G) → cOth σ G 0 → Q none (zG σ G)) : zM (d + 14) 2 [.inr (.inr (0, 0)), .inl M] σ Q := by
  have B := R.2.2.2.2.2.2.2.2.2.2
  refine zs_2 (yOk R) (by decide) o1 ?_ (fun G k rd h1 h2 F O => h G ⟨k, rd, h1, h2, F⟩ (yr_zG R h2 F) O)
  by_cases e : σ.1 0 0 4 = 0
  · exact Or.inr (B.2 e)
  · exact Or.inl ⟨e, yTd R⟩
theorem yr_yR {σ τ : zS} (R : yRel σ) : yRel (yR σ τ) := R
theorem ys_158 {d : Nat} {σ : zS} {Q : Option zV → zS → Prop} (R : yRel σ) (h : ∀ τ : zS, mRun σ τ 96 0 → yRel (yR σ τ) → Q none (yR σ τ)) : zM (d + 6) 158 [.inr (.inr (10, 0))] σ Q :=
  zs_158 (yMok R) (fun τ m => h τ m (yr_yR R))
-- X10_allOf
theorem zb_160 {d : Nat} {σ : zS} {Q : Option zV → zS → Prop} {h a b w m : Int}
    (o1 : ¬ b ≤ m → (0 : Int) ≤ zW ((zW (17 * m)) + h) ∧ zW ((zW (17 * m)) + h) < (1632 : Int))
    (h1 : b ≤ m → Q (some (.inr (.inl w))) σ)
    (h2 : ¬ b ≤ m → zX (d + 0) 160 4 [some (.inr (.inr (10, 0))), some (.inl h), some (.inl a), some (.inl b), some (.inr (.inl (zWl (w + (σ.1 92 0 ((zW ((zW (17 * m)) + h)).toNat)))))), none, some (.inl (zW (m + 1)))] [] σ Q) :
    zX (d + 0) 160 4 [some (.inr (.inr (10, 0))), some (.inl h), some (.inl a), some (.inl b), some (.inr (.inl w)), none, some (.inl m)] [] σ Q := by
  refine zX_run (n' := 6) (ls' := [some (.inr (.inr (10, 0))), some (.inl h), some (.inl a), some (.inl b), some (.inr (.inl w)), none, some (.inl m)]) (st' := [.inl b, .inl m]) (σ' := σ) 2 rfl ?_
  refine zX_c3 rfl (fun a1 => ?_) (fun a1 => ?_)
  · skip
    refine zX_run (n' := 22) (ls' := [some (.inr (.inr (10, 0))), some (.inl h), some (.inl a), some (.inl b), some (.inr (.inl w)), none, some (.inl m)]) (st' := [.inr (.inl w)]) (σ' := σ) 1 rfl ?_
    exact zX_retL rfl rfl (h1 a1)
  · skip
    refine zX_run (n' := 15) (ls' := [some (.inr (.inr (10, 0))), some (.inl h), some (.inl a), some (.inl b), some (.inr (.inl w)), none, some (.inl m)]) (st' := [.inl (zW ((zW (17 * m)) + h)), .inr (.inr (92, 0)), .inr (.inl w)]) (σ' := σ) 8 rfl ?_
    refine zX_ald1 (L := 1632) rfl (by decide) rfl (o1 a1) ?_
    refine zX_run (n' := 4) (ls' := [some (.inr (.inr (10, 0))), some (.inl h), some (.inl a), some (.inl b), some (.inr (.inl (zWl (w + (σ.1 92 0 ((zW ((zW (17 * m)) + h)).toNat)))))), none, some (.inl (zW (m + 1)))]) (st' := []) (σ' := σ) 5 rfl ?_
    exact h2 a1
-- X10_allOf
theorem zb_160e {d : Nat} {σ : zS} {Q : Option zV → zS → Prop} {h : Int} {a : Int} {b : Int}
    (h1 : zX (d + 0) 160 4 [some (.inr (.inr (10, 0))), some (.inl h), some (.inl a), some (.inl b), some (.inr (.inl 0)), none, some (.inl a)] [] σ Q) :
    zM (d + 0) 160 [.inr (.inr (10, 0)), .inl h, .inl a, .inl b] σ Q := by
  refine zX_run (n' := 4) (ls' := [some (.inr (.inr (10, 0))), some (.inl h), some (.inl a), some (.inl b), some (.inr (.inl 0)), none, some (.inl a)]) (st' := []) (σ' := σ) 4 rfl ?_
  exact h1
theorem uSw_congr {f g : Nat → Int} {a : Nat} : ∀ {n : Nat}, (∀ k, a ≤ k → k < a + n → f k = g k) → uSw f a n = uSw g a n
  | 0, _ => rfl
  | n + 1, h => by unfold uSw; rw [h (a + n) (by omega) (by omega), uSw_congr (n := n) (fun k h1 h2 => h k h1 (by omega))]
theorem zs_160 {d : Nat} {σ : zS} {Q : Option zV → zS → Prop} {h a b : Int} (o1 : 0 ≤ h ∧ h < 17) (o2 : 0 ≤ a ∧ a ≤ b ∧ b ≤ 96)
    (q : Q (some (.inr (.inl (uSw (fun m => σ.1 92 0 (17 * m + h.toNat)) a.toNat (b.toNat - a.toNat))))) σ) : zM (d + 0) 160 [.inr (.inr (10, 0)), .inl h, .inl a, .inl b] σ Q := by
  obtain ⟨h, rfl⟩ := Int.eq_ofNat_of_zero_le o1.1
  obtain ⟨a, rfl⟩ := Int.eq_ofNat_of_zero_le o2.1
  obtain ⟨b, rfl⟩ := Int.eq_ofNat_of_zero_le (show 0 ≤ b by omega)
  refine zb_160e ?_
  have L := zLoop (P := fun k => zX (d + 0) 160 4 [some (.inr (.inr (10, 0))), some (.inl (h : Int)), some (.inl (a : Int)), some (.inl (b : Int)), some (.inr (.inl (uSw (fun m => σ.1 92 0 (17 * m + h)) a (k - a)))), none, some (.inl (k : Int))] [] σ Q) (k := a) (N := b) (by omega) ?_ (fun k hk1 hk ih => ?_)
  · rw [Nat.sub_self] at L; exact L
  · exact zb_160 (fun q => absurd (Int.le_refl _) q) (fun _ => q) (fun q => absurd (Int.le_refl _) q)
  · have z : zW ((zW (17 * (k : Int))) + (h : Int)) = ((17 * k + h : Nat) : Int) := by unfold zW; omega
    refine zb_160 (fun _ => by rw [z]; omega) (fun q => absurd q (by omega)) (fun _ => ?_)
    rw [z, Int.toNat_natCast, zWs (by omega)]
    rw [show k + 1 - a = (k - a) + 1 by omega, uSw, show a + (k - a) = k by omega] at ih
    exact ih
-- X10_all
theorem zb_162 {d : Nat} {σ : zS} {Q : Option zV → zS → Prop} {h : Int} {a : Int} {b : Int}
    (o1 : 0 ≤ h ∧ h < σ.1 10 0 4 → 0 ≤ a ∧ a ≤ b ∧ b ≤ 96 → yRel σ)
    (o2 : 0 ≤ h ∧ h < σ.1 10 0 4 → 0 ≤ a ∧ a ≤ b ∧ b ≤ 96 → ∀ G1 : zS, mRun σ G1 96 0 → yRel (yR σ G1) → 0 ≤ h ∧ h < 17)
    (o3 : 0 ≤ h ∧ h < σ.1 10 0 4 → 0 ≤ a ∧ a ≤ b ∧ b ≤ 96 → ∀ G1 : zS, mRun σ G1 96 0 → yRel (yR σ G1) → 0 ≤ a ∧ a ≤ b ∧ b ≤ 96)
    (h1 : 0 ≤ h ∧ h < σ.1 10 0 4 → 0 ≤ a ∧ a ≤ b ∧ b ≤ 96 → ∀ G1 : zS, mRun σ G1 96 0 → yRel (yR σ G1) → Q (some (.inr (.inl (uSw (fun m => (yR σ G1).1 92 0 (17 * m + h.toNat)) a.toNat (b.toNat - a.toNat))))) (yR σ G1))
    (h2 : 0 ≤ h ∧ h < σ.1 10 0 4 → ¬ (0 ≤ a ∧ a ≤ b ∧ b ≤ 96) → Q (some (.inr (.inl (-4611686018427387904)))) σ)
    (h3 : ¬ (0 ≤ h ∧ h < σ.1 10 0 4) → Q (some (.inr (.inl (-4611686018427387904)))) σ) :
    zM (d + 7) 162 [.inr (.inr (10, 0)), .inl h, .inl a, .inl b] σ Q := by
  refine zX_run (n' := 2) (ls' := [some (.inr (.inr (10, 0))), some (.inl h), some (.inl a), some (.inl b)]) (st' := [.inl h, .inr (.inr (10, 0))]) (σ' := σ) 2 rfl ?_
  refine zX_call rfl rfl ?_
  refine zs_121 (fun a1 => ?_) (fun a2 => ?_)
  · skip
    refine zX_run (n' := 6) (ls' := [some (.inr (.inr (10, 0))), some (.inl h), some (.inl a), some (.inl b)]) (st' := [.inl b, .inl a]) (σ' := σ) 3 rfl ?_
    refine zX_call rfl rfl ?_
    refine zs_133 (fun a3 => ?_) (fun a4 => ?_)
    · skip
      refine zX_run (n' := 11) (ls' := [some (.inr (.inr (10, 0))), some (.inl h), some (.inl a), some (.inl b)]) (st' := [.inr (.inr (10, 0))]) (σ' := σ) 2 rfl ?_
      refine zX_call rfl rfl ?_
      refine ys_158 (o1 a1 a3) (fun G1 a5 a6 => ?_)
      · skip
        refine zX_run (n' := 16) (ls' := [some (.inr (.inr (10, 0))), some (.inl h), some (.inl a), some (.inl b)]) (st' := [.inl b, .inl a, .inl h, .inr (.inr (10, 0))]) (σ' := (yR σ G1)) 4 rfl ?_
        refine zX_call rfl rfl ?_
        refine zs_160 (o2 a1 a3 G1 a5 a6) (o3 a1 a3 G1 a5 a6) ?_
        · skip
          exact zX_retL rfl rfl (h1 a1 a3 G1 a5 a6)
    · skip
      refine zX_run (n' := 9) (ls' := [some (.inr (.inr (10, 0))), some (.inl h), some (.inl a), some (.inl b)]) (st' := [.inr (.inl (-4611686018427387904))]) (σ' := σ) 2 rfl ?_
      exact zX_retL rfl rfl (h2 a1 a4)
  · skip
    refine zX_run (n' := 9) (ls' := [some (.inr (.inr (10, 0))), some (.inl h), some (.inl a), some (.inl b)]) (st' := [.inr (.inl (-4611686018427387904))]) (σ' := σ) 2 rfl ?_
    exact zX_retL rfl rfl (h3 a2)
-- X9_takes
theorem zb_78 {d : Nat} {σ : zS} {Q : Option zV → zS → Prop} {h : Int} {m : Int} {w : Int}
    (o1 : 0 ≤ σ.1 8 0 8 ∧ σ.1 8 0 8 ≤ 1000)
    (o2 : 0 ≤ h ∧ h < σ.1 8 0 8 → 0 ≤ m ∧ m ≤ 95 → 0 ≤ w ∧ w ≤ 4 → (0 : Int) ≤ h ∧ h < (16 : Int))
    (o3 : 0 ≤ h ∧ h < σ.1 8 0 8 → 0 ≤ m ∧ m ≤ 95 → 0 ≤ w ∧ w ≤ 4 → ¬ w = 0 → (0 : Int) ≤ (zW (m + 1)) ∧ (zW (m + 1)) ≤ (96 : Int))
    (o4 : 0 ≤ h ∧ h < σ.1 8 0 8 → 0 ≤ m ∧ m ≤ 95 → 0 ≤ w ∧ w ≤ 4 → ¬ w = 0 → yRel σ)
    (o5 : 0 ≤ h ∧ h < σ.1 8 0 8 → 0 ≤ m ∧ m ≤ 95 → 0 ≤ w ∧ w ≤ 4 → ¬ w = 0 → ∀ G1 : Nat → Nat → Nat → Int, cWk (zG σ G1) 0 (mD σ) (zW (m + 1)) → yRel (zG σ G1) → cOth σ G1 0 → (0 : Int) ≤ m ∧ m < (96 : Int))
    (o6 : 0 ≤ h ∧ h < σ.1 8 0 8 → 0 ≤ m ∧ m ≤ 95 → 0 ≤ w ∧ w ≤ 4 → ¬ w = 0 → ∀ G1 : Nat → Nat → Nat → Int, cWk (zG σ G1) 0 (mD σ) (zW (m + 1)) → yRel (zG σ G1) → cOth σ G1 0 → w = 3 → 0 ≤ (zG σ G1).1 1 (16 * 0 + h.toNat) 0 ∧ (zG σ G1).1 1 (16 * 0 + h.toNat) 0 ≤ 5)
    (o7 : 0 ≤ h ∧ h < σ.1 8 0 8 → 0 ≤ m ∧ m ≤ 95 → 0 ≤ w ∧ w ≤ 4 → w = 0 → 0 ≤ (σ.1 1 (16 * 0 + h.toNat) 2) ∧ (σ.1 1 (16 * 0 + h.toNat) 2) < 7)
    (o8 : 0 ≤ h ∧ h < σ.1 8 0 8 → 0 ≤ m ∧ m ≤ 95 → 0 ≤ w ∧ w ≤ 4 → w = 0 → 0 ≤ m ∧ m < 96)
    (h1 : 0 ≤ h ∧ h < σ.1 8 0 8 → 0 ≤ m ∧ m ≤ 95 → 0 ≤ w ∧ w ≤ 4 → ¬ w = 0 → ∀ G1 : Nat → Nat → Nat → Int, cWk (zG σ G1) 0 (mD σ) (zW (m + 1)) → yRel (zG σ G1) → cOth σ G1 0 → w < 1 ∨ 3 < w → Q (some (.inl (zBin 3 (zBin 7 ((zG σ G1).1 13 0 (m.toNat)) h) 1))) (zG σ G1))
    (h2 : 0 ≤ h ∧ h < σ.1 8 0 8 → 0 ≤ m ∧ m ≤ 95 → 0 ≤ w ∧ w ≤ 4 → ¬ w = 0 → ∀ G1 : Nat → Nat → Nat → Int, cWk (zG σ G1) 0 (mD σ) (zW (m + 1)) → yRel (zG σ G1) → cOth σ G1 0 → w = 1 → Q (some (.inl ((zG σ G1).1 17 (16 * 0 + h.toNat) (m.toNat)))) (zG σ G1))
    (h3 : 0 ≤ h ∧ h < σ.1 8 0 8 → 0 ≤ m ∧ m ≤ 95 → 0 ≤ w ∧ w ≤ 4 → ¬ w = 0 → ∀ G1 : Nat → Nat → Nat → Int, cWk (zG σ G1) 0 (mD σ) (zW (m + 1)) → yRel (zG σ G1) → cOth σ G1 0 → w = 2 → Q (some (.inl ((zG σ G1).1 18 (16 * 0 + h.toNat) (m.toNat)))) (zG σ G1))
    (h4 : 0 ≤ h ∧ h < σ.1 8 0 8 → 0 ≤ m ∧ m ≤ 95 → 0 ≤ w ∧ w ≤ 4 → ¬ w = 0 → ∀ G1 : Nat → Nat → Nat → Int, cWk (zG σ G1) 0 (mD σ) (zW (m + 1)) → yRel (zG σ G1) → cOth σ G1 0 → w = 3 → Q (some (.inl (uGb ((zG σ G1).1 1 (16 * 0 + h.toNat) 0) ((zG σ G1).1 18 (16 * 0 + h.toNat) (m.toNat))))) (zG σ G1))
    (h5 : 0 ≤ h ∧ h < σ.1 8 0 8 → 0 ≤ m ∧ m ≤ 95 → 0 ≤ w ∧ w ≤ 4 → w = 0 → Q (some (.inl (uAsk (σ.1 1 (16 * 0 + h.toNat) 0) (σ.1 1 (16 * 0 + h.toNat) 3) (zW (m - zW (zW (m.tdiv 12) * 12))) (cRead σ (σ.1 1 (16 * 0 + h.toNat) 2).toNat m.toNat)))) σ)
    (h6 : 0 ≤ h ∧ h < σ.1 8 0 8 → 0 ≤ m ∧ m ≤ 95 → ¬ (0 ≤ w ∧ w ≤ 4) → Q (some (.inl (-2))) σ)
    (h7 : 0 ≤ h ∧ h < σ.1 8 0 8 → ¬ (0 ≤ m ∧ m ≤ 95) → Q (some (.inl (-2))) σ)
    (h8 : ¬ (0 ≤ h ∧ h < σ.1 8 0 8) → Q (some (.inl (-2))) σ) :
    zM (d + 15) 78 [.inr (.inr (9, 0)), .inl h, .inl m, .inl w] σ Q := by
  refine zX_run (n' := 2) (ls' := [some (.inr (.inr (9, 0))), some (.inl h), some (.inl m), some (.inl w), none, none]) (st' := [.inl h, .inr (.inr (9, 0))]) (σ' := σ) 2 rfl ?_
  refine zX_call rfl rfl ?_
  refine zs_112 o1 (fun a1 => ?_) (fun a2 => ?_)
  · skip
    refine zX_run (n' := 5) (ls' := [some (.inr (.inr (9, 0))), some (.inl h), some (.inl m), some (.inl w), none, none]) (st' := [.inl m]) (σ' := σ) 2 rfl ?_
    refine zX_call rfl rfl ?_
    refine zs_106 (fun a3 => ?_) (fun a4 => ?_)
    · skip
      refine zX_run (n' := 10) (ls' := [some (.inr (.inr (9, 0))), some (.inl h), some (.inl m), some (.inl w), none, none]) (st' := [.inl 4, .inl 0, .inl w]) (σ' := σ) 4 rfl ?_
      refine zX_call rfl rfl ?_
      refine zs_104 (fun a5 => ?_) (fun a6 => ?_)
      · skip
        refine zX_run (n' := 18) (ls' := [some (.inr (.inr (9, 0))), some (.inl h), some (.inl m), some (.inl w), none, none]) (st' := [.inl h, .inr (.inr (39, 0))]) (σ' := σ) 5 rfl ?_
        refine zX_ald5 (L := 16) rfl (by decide) rfl (o2 a1 a3 a5) ?_
        refine zX_run (n' := 21) (ls' := [some (.inr (.inr (9, 0))), some (.inl h), some (.inl m), some (.inl w), some (.inr (.inr (1, 16 * 0 + h.toNat))), none]) (st' := [.inl w]) (σ' := σ) 2 rfl ?_
        refine zX_i1 rfl (fun a7 => ?_) (fun a7 => ?_)
        · skip
          refine zX_run (n' := 37) (ls' := [some (.inr (.inr (9, 0))), some (.inl h), some (.inl m), some (.inl w), some (.inr (.inr (1, 16 * 0 + h.toNat))), none]) (st' := [.inl (zW (m + 1)), .inr (.inr (0, 0))]) (σ' := σ) 5 rfl ?_
          refine zX_call rfl rfl ?_
          refine ys_2 (o3 a1 a3 a5 a7) (o4 a1 a3 a5 a7) (fun G1 a8 a9 a10 => ?_)
          · skip
            refine zX_run (n' := 42) (ls' := [some (.inr (.inr (9, 0))), some (.inl h), some (.inl m), some (.inl w), some (.inr (.inr (1, 16 * 0 + h.toNat))), none]) (st' := [.inl h, .inr (.inr (12, 0))]) (σ' := (zG σ G1)) 4 rfl ?_
            refine zX_ald5 (L := 16) rfl (by decide) rfl (o2 a1 a3 a5) ?_
            refine zX_run (n' := 45) (ls' := [some (.inr (.inr (9, 0))), some (.inl h), some (.inl m), some (.inl w), some (.inr (.inr (1, 16 * 0 + h.toNat))), none]) (st' := [.inl m, .inr (.inr (18, 16 * 0 + h.toNat))]) (σ' := (zG σ G1)) 2 rfl ?_
            refine zX_ald1 (L := 96) rfl (by decide) rfl (o5 a1 a3 a5 a7 G1 a8 a9 a10) ?_
            refine zX_run (n' := 48) (ls' := [some (.inr (.inr (9, 0))), some (.inl h), some (.inl m), some (.inl w), some (.inr (.inr (1, 16 * 0 + h.toNat))), some (.inl ((zG σ G1).1 18 (16 * 0 + h.toNat) (m.toNat)))]) (st' := [.inl w]) (σ' := (zG σ G1)) 2 rfl ?_
            refine zX_sw rfl (fun a11 => ?_) ⟨fun a11 => ?_, fun a11 => ?_, fun a11 => ?_, trivial⟩
            · skip
              refine zX_run (n' := 68) (ls' := [some (.inr (.inr (9, 0))), some (.inl h), some (.inl m), some (.inl w), some (.inr (.inr (1, 16 * 0 + h.toNat))), some (.inl ((zG σ G1).1 18 (16 * 0 + h.toNat) (m.toNat)))]) (st' := [.inl m, .inr (.inr (13, 0))]) (σ' := (zG σ G1)) 4 rfl ?_
              refine zX_ald1 (L := 96) rfl (by decide) rfl (o5 a1 a3 a5 a7 G1 a8 a9 a10) ?_
              refine zX_run (n' := 73) (ls' := [some (.inr (.inr (9, 0))), some (.inl h), some (.inl m), some (.inl w), some (.inr (.inr (1, 16 * 0 + h.toNat))), some (.inl ((zG σ G1).1 18 (16 * 0 + h.toNat) (m.toNat)))]) (st' := [.inl (zBin 3 (zBin 7 ((zG σ G1).1 13 0 (m.toNat)) h) 1)]) (σ' := (zG σ G1)) 4 rfl ?_
              exact zX_ret rfl rfl (h1 a1 a3 a5 a7 G1 a8 a9 a10 a11)
            · skip
              refine zX_run (n' := 53) (ls' := [some (.inr (.inr (9, 0))), some (.inl h), some (.inl m), some (.inl w), some (.inr (.inr (1, 16 * 0 + h.toNat))), some (.inl ((zG σ G1).1 18 (16 * 0 + h.toNat) (m.toNat)))]) (st' := [.inl h, .inr (.inr (12, 0))]) (σ' := (zG σ G1)) 4 rfl ?_
              refine zX_ald5 (L := 16) rfl (by decide) rfl (o2 a1 a3 a5) ?_
              refine zX_run (n' := 56) (ls' := [some (.inr (.inr (9, 0))), some (.inl h), some (.inl m), some (.inl w), some (.inr (.inr (1, 16 * 0 + h.toNat))), some (.inl ((zG σ G1).1 18 (16 * 0 + h.toNat) (m.toNat)))]) (st' := [.inl m, .inr (.inr (17, 16 * 0 + h.toNat))]) (σ' := (zG σ G1)) 2 rfl ?_
              refine zX_ald1 (L := 96) rfl (by decide) rfl (o5 a1 a3 a5 a7 G1 a8 a9 a10) ?_
              exact zX_ret rfl rfl (h2 a1 a3 a5 a7 G1 a8 a9 a10 a11)
            · skip
              refine zX_run (n' := 59) (ls' := [some (.inr (.inr (9, 0))), some (.inl h), some (.inl m), some (.inl w), some (.inr (.inr (1, 16 * 0 + h.toNat))), some (.inl ((zG σ G1).1 18 (16 * 0 + h.toNat) (m.toNat)))]) (st' := [.inl ((zG σ G1).1 18 (16 * 0 + h.toNat) (m.toNat))]) (σ' := (zG σ G1)) 1 rfl ?_
              exact zX_ret rfl rfl (h3 a1 a3 a5 a7 G1 a8 a9 a10 a11)
            · skip
              refine zX_run (n' := 62) (ls' := [some (.inr (.inr (9, 0))), some (.inl h), some (.inl m), some (.inl w), some (.inr (.inr (1, 16 * 0 + h.toNat))), some (.inl ((zG σ G1).1 18 (16 * 0 + h.toNat) (m.toNat)))]) (st' := [.inl ((zG σ G1).1 18 (16 * 0 + h.toNat) (m.toNat)), .inr (.inr (1, 16 * 0 + h.toNat))]) (σ' := (zG σ G1)) 2 rfl ?_
              refine zX_call rfl rfl ?_
              refine zs_30 (o6 a1 a3 a5 a7 G1 a8 a9 a10 a11) ?_
              · skip
                exact zX_ret rfl rfl (h4 a1 a3 a5 a7 G1 a8 a9 a10 a11)
        · skip
          refine zX_run (n' := 29) (ls' := [some (.inr (.inr (9, 0))), some (.inl h), some (.inl m), some (.inl w), some (.inr (.inr (1, 16 * 0 + h.toNat))), none]) (st' := [.inl m, .inl (σ.1 1 (16 * 0 + h.toNat) 2), .inr (.inr (8, 0)), .inl m, .inr (.inr (1, 16 * 0 + h.toNat))]) (σ' := σ) 7 rfl ?_
          refine zX_call rfl rfl ?_
          refine zs_61 (o7 a1 a3 a5 a7) (o8 a1 a3 a5 a7) ?_
          · skip
            refine zX_call rfl rfl ?_
            refine zs_27 ?_
            · skip
              exact zX_ret rfl rfl (h5 a1 a3 a5 a7)
      · skip
        refine zX_run (n' := 13) (ls' := [some (.inr (.inr (9, 0))), some (.inl h), some (.inl m), some (.inl w), none, none]) (st' := [.inl (-2)]) (σ' := σ) 2 rfl ?_
        exact zX_ret rfl rfl (h6 a1 a3 a6)
    · skip
      refine zX_run (n' := 13) (ls' := [some (.inr (.inr (9, 0))), some (.inl h), some (.inl m), some (.inl w), none, none]) (st' := [.inl (-2)]) (σ' := σ) 2 rfl ?_
      exact zX_ret rfl rfl (h7 a1 a4)
  · skip
    refine zX_run (n' := 13) (ls' := [some (.inr (.inr (9, 0))), some (.inl h), some (.inl m), some (.inl w), none, none]) (st' := [.inl (-2)]) (σ' := σ) 2 rfl ?_
    exact zX_ret rfl rfl (h8 a2)
-- X10_takes
theorem zb_161 {d : Nat} {σ : zS} {Q : Option zV → zS → Prop} {h : Int} {m : Int} {w : Int}
    (o1 : 0 ≤ h ∧ h < σ.1 10 0 4 → 0 ≤ m ∧ m < 96 → ¬ w < 0 → w ≤ 4 → yRel σ)
    (o2 : 0 ≤ h ∧ h < σ.1 10 0 4 → 0 ≤ m ∧ m < 96 → ¬ w < 0 → w ≤ 4 → ∀ G1 : zS, mRun σ G1 96 0 → yRel (yR σ G1) → ¬ w = 0 → ¬ w = 1 → ¬ w = 2 → ¬ w = 3 → 0 ≤ h ∧ h < 17)
    (o3 : 0 ≤ h ∧ h < σ.1 10 0 4 → 0 ≤ m ∧ m < 96 → ¬ w < 0 → w ≤ 4 → ∀ G1 : zS, mRun σ G1 96 0 → yRel (yR σ G1) → ¬ w = 0 → ¬ w = 1 → ¬ w = 2 → ¬ w = 3 → 0 ≤ (yR σ G1).1 10 0 5 ∧ (yR σ G1).1 10 0 5 ≤ 16)
    (o4 : 0 ≤ h ∧ h < σ.1 10 0 4 → 0 ≤ m ∧ m < 96 → ¬ w < 0 → w ≤ 4 → ∀ G1 : zS, mRun σ G1 96 0 → yRel (yR σ G1) → ¬ w = 0 → ¬ w = 1 → ¬ w = 2 → ¬ w = 3 → ∀ c : Nat, (c : Int) < (yR σ G1).1 10 0 5 → 0 ≤ (yR σ G1).1 67 0 c ∧ (yR σ G1).1 67 0 c < 17)
    (o5 : 0 ≤ h ∧ h < σ.1 10 0 4 → 0 ≤ m ∧ m < 96 → ¬ w < 0 → w ≤ 4 → ∀ G1 : zS, mRun σ G1 96 0 → yRel (yR σ G1) → ¬ w = 0 → ¬ w = 1 → ¬ w = 2 → w = 3 → (0 : Int) ≤ zW ((zW (17 * m)) + h) ∧ zW ((zW (17 * m)) + h) < (1632 : Int))
    (o6 : 0 ≤ h ∧ h < σ.1 10 0 4 → 0 ≤ m ∧ m < 96 → ¬ w < 0 → w ≤ 4 → ∀ G1 : zS, mRun σ G1 96 0 → yRel (yR σ G1) → ¬ w = 0 → ¬ w = 1 → w = 2 → (0 : Int) ≤ zW ((zW (17 * m)) + h) ∧ zW ((zW (17 * m)) + h) < (1632 : Int))
    (o7 : 0 ≤ h ∧ h < σ.1 10 0 4 → 0 ≤ m ∧ m < 96 → ¬ w < 0 → w ≤ 4 → ∀ G1 : zS, mRun σ G1 96 0 → yRel (yR σ G1) → ¬ w = 0 → w = 1 → (0 : Int) ≤ zW ((zW (17 * m)) + h) ∧ zW ((zW (17 * m)) + h) < (1632 : Int))
    (o8 : 0 ≤ h ∧ h < σ.1 10 0 4 → 0 ≤ m ∧ m < 96 → ¬ w < 0 → w ≤ 4 → ∀ G1 : zS, mRun σ G1 96 0 → yRel (yR σ G1) → w = 0 → 0 ≤ h ∧ h < 17)
    (o9 : 0 ≤ h ∧ h < σ.1 10 0 4 → 0 ≤ m ∧ m < 96 → ¬ w < 0 → w ≤ 4 → ∀ G1 : zS, mRun σ G1 96 0 → yRel (yR σ G1) → w = 0 → 0 ≤ m ∧ m < 96)
    (o10 : 0 ≤ h ∧ h < σ.1 10 0 4 → 0 ≤ m ∧ m < 96 → ¬ w < 0 → w ≤ 4 → ∀ G1 : zS, mRun σ G1 96 0 → yRel (yR σ G1) → w = 0 → 0 ≤ (yR σ G1).1 62 0 h.toNat ∧ (yR σ G1).1 62 0 h.toNat < 7)
    (h1 : 0 ≤ h ∧ h < σ.1 10 0 4 → 0 ≤ m ∧ m < 96 → w < 0 → Q (some (.inl (-2))) σ)
    (h2 : 0 ≤ h ∧ h < σ.1 10 0 4 → 0 ≤ m ∧ m < 96 → ¬ w < 0 → w ≤ 4 → ∀ G1 : zS, mRun σ G1 96 0 → yRel (yR σ G1) → ¬ w = 0 → ¬ w = 1 → ¬ w = 2 → ¬ w = 3 → mSh (yR σ G1) h.toNat m = true → Q (some (.inl 1)) (yR σ G1))
    (h3 : 0 ≤ h ∧ h < σ.1 10 0 4 → 0 ≤ m ∧ m < 96 → ¬ w < 0 → w ≤ 4 → ∀ G1 : zS, mRun σ G1 96 0 → yRel (yR σ G1) → ¬ w = 0 → ¬ w = 1 → ¬ w = 2 → ¬ w = 3 → ¬ mSh (yR σ G1) h.toNat m = true → Q (some (.inl 0)) (yR σ G1))
    (h4 : 0 ≤ h ∧ h < σ.1 10 0 4 → 0 ≤ m ∧ m < 96 → ¬ w < 0 → w ≤ 4 → ∀ G1 : zS, mRun σ G1 96 0 → yRel (yR σ G1) → ¬ w = 0 → ¬ w = 1 → ¬ w = 2 → w = 3 → Q (some (.inl ((yR σ G1).1 93 0 ((zW ((zW (17 * m)) + h)).toNat)))) (yR σ G1))
    (h5 : 0 ≤ h ∧ h < σ.1 10 0 4 → 0 ≤ m ∧ m < 96 → ¬ w < 0 → w ≤ 4 → ∀ G1 : zS, mRun σ G1 96 0 → yRel (yR σ G1) → ¬ w = 0 → ¬ w = 1 → w = 2 → Q (some (.inl ((yR σ G1).1 92 0 ((zW ((zW (17 * m)) + h)).toNat)))) (yR σ G1))
    (h6 : 0 ≤ h ∧ h < σ.1 10 0 4 → 0 ≤ m ∧ m < 96 → ¬ w < 0 → w ≤ 4 → ∀ G1 : zS, mRun σ G1 96 0 → yRel (yR σ G1) → ¬ w = 0 → w = 1 → Q (some (.inl ((yR σ G1).1 91 0 ((zW ((zW (17 * m)) + h)).toNat)))) (yR σ G1))
    (h7 : 0 ≤ h ∧ h < σ.1 10 0 4 → 0 ≤ m ∧ m < 96 → ¬ w < 0 → w ≤ 4 → ∀ G1 : zS, mRun σ G1 96 0 → yRel (yR σ G1) → w = 0 → Q (some (.inl (uAsk ((yR σ G1).1 60 0 h.toNat) ((yR σ G1).1 63 0 h.toNat) (zW (m - zW (zW (m.tdiv 12) * 12))) ((yR σ G1).1 100 0 (7 * m.toNat + ((yR σ G1).1 62 0 h.toNat).toNat))))) (yR σ G1))
    (h8 : 0 ≤ h ∧ h < σ.1 10 0 4 → 0 ≤ m ∧ m < 96 → ¬ w < 0 → ¬ w ≤ 4 → Q (some (.inl (-2))) σ)
    (h9 : 0 ≤ h ∧ h < σ.1 10 0 4 → ¬ (0 ≤ m ∧ m < 96) → Q (some (.inl (-2))) σ)
    (h10 : ¬ (0 ≤ h ∧ h < σ.1 10 0 4) → Q (some (.inl (-2))) σ) :
    zM (d + 7) 161 [.inr (.inr (10, 0)), .inl h, .inl m, .inl w] σ Q := by
  refine zX_run (n' := 2) (ls' := [some (.inr (.inr (10, 0))), some (.inl h), some (.inl m), some (.inl w), none]) (st' := [.inl h, .inr (.inr (10, 0))]) (σ' := σ) 2 rfl ?_
  refine zX_call rfl rfl ?_
  refine zs_121 (fun a1 => ?_) (fun a2 => ?_)
  · skip
    refine zX_run (n' := 5) (ls' := [some (.inr (.inr (10, 0))), some (.inl h), some (.inl m), some (.inl w), none]) (st' := [.inl m]) (σ' := σ) 2 rfl ?_
    refine zX_call rfl rfl ?_
    refine zs_120 (fun a3 => ?_) (fun a4 => ?_)
    · skip
      refine zX_run (n' := 8) (ls' := [some (.inr (.inr (10, 0))), some (.inl h), some (.inl m), some (.inl w), none]) (st' := [.inl w]) (σ' := σ) 2 rfl ?_
      refine zX_i2 rfl (fun a5 => ?_) (fun a5 => ?_)
      · skip
        refine zX_run (n' := 13) (ls' := [some (.inr (.inr (10, 0))), some (.inl h), some (.inl m), some (.inl w), none]) (st' := [.inl (-2)]) (σ' := σ) 1 rfl ?_
        exact zX_ret rfl rfl (h1 a1 a3 a5)
      · skip
        refine zX_run (n' := 11) (ls' := [some (.inr (.inr (10, 0))), some (.inl h), some (.inl m), some (.inl w), none]) (st' := [.inl 4, .inl w]) (σ' := σ) 2 rfl ?_
        refine zX_c5 rfl (fun a6 => ?_) (fun a6 => ?_)
        · skip
          refine zX_run (n' := 15) (ls' := [some (.inr (.inr (10, 0))), some (.inl h), some (.inl m), some (.inl w), none]) (st' := [.inr (.inr (10, 0))]) (σ' := σ) 1 rfl ?_
          refine zX_call rfl rfl ?_
          refine ys_158 (o1 a1 a3 a5 a6) (fun G1 a7 a8 => ?_)
          · skip
            refine zX_run (n' := 23) (ls' := [some (.inr (.inr (10, 0))), some (.inl h), some (.inl m), some (.inl w), some (.inl (zW ((zW (17 * m)) + h)))]) (st' := [.inl w]) (σ' := (yR σ G1)) 7 rfl ?_
            refine zX_i1 rfl (fun a9 => ?_) (fun a9 => ?_)
            · skip
              refine zX_run (n' := 31) (ls' := [some (.inr (.inr (10, 0))), some (.inl h), some (.inl m), some (.inl w), some (.inl (zW ((zW (17 * m)) + h)))]) (st' := [.inl 1, .inl w]) (σ' := (yR σ G1)) 2 rfl ?_
              refine zX_c1 rfl (fun a10 => ?_) (fun a10 => ?_)
              · skip
                refine zX_run (n' := 39) (ls' := [some (.inr (.inr (10, 0))), some (.inl h), some (.inl m), some (.inl w), some (.inl (zW ((zW (17 * m)) + h)))]) (st' := [.inl 2, .inl w]) (σ' := (yR σ G1)) 2 rfl ?_
                refine zX_c1 rfl (fun a11 => ?_) (fun a11 => ?_)
                · skip
                  refine zX_run (n' := 47) (ls' := [some (.inr (.inr (10, 0))), some (.inl h), some (.inl m), some (.inl w), some (.inl (zW ((zW (17 * m)) + h)))]) (st' := [.inl 3, .inl w]) (σ' := (yR σ G1)) 2 rfl ?_
                  refine zX_c1 rfl (fun a12 => ?_) (fun a12 => ?_)
                  · skip
                    refine zX_run (n' := 56) (ls' := [some (.inr (.inr (10, 0))), some (.inl h), some (.inl m), some (.inl w), some (.inl (zW ((zW (17 * m)) + h)))]) (st' := [.inl m, .inl h, .inr (.inr (10, 0))]) (σ' := (yR σ G1)) 3 rfl ?_
                    refine zX_call rfl rfl ?_
                    refine zs_140 (o2 a1 a3 a5 a6 G1 a7 a8 a9 a10 a11 a12) (o3 a1 a3 a5 a6 G1 a7 a8 a9 a10 a11 a12) (o4 a1 a3 a5 a6 G1 a7 a8 a9 a10 a11 a12) (fun a13 => ?_) (fun a14 => ?_)
                    · skip
                      refine zX_run (n' := 61) (ls' := [some (.inr (.inr (10, 0))), some (.inl h), some (.inl m), some (.inl w), some (.inl (zW ((zW (17 * m)) + h)))]) (st' := [.inl 1]) (σ' := (yR σ G1)) 3 rfl ?_
                      exact zX_ret rfl rfl (h2 a1 a3 a5 a6 G1 a7 a8 a9 a10 a11 a12 a13)
                    · skip
                      refine zX_run (n' := 61) (ls' := [some (.inr (.inr (10, 0))), some (.inl h), some (.inl m), some (.inl w), some (.inl (zW ((zW (17 * m)) + h)))]) (st' := [.inl 0]) (σ' := (yR σ G1)) 2 rfl ?_
                      exact zX_ret rfl rfl (h3 a1 a3 a5 a6 G1 a7 a8 a9 a10 a11 a12 a14)
                  · skip
                    refine zX_run (n' := 51) (ls' := [some (.inr (.inr (10, 0))), some (.inl h), some (.inl m), some (.inl w), some (.inl (zW ((zW (17 * m)) + h)))]) (st' := [.inl (zW ((zW (17 * m)) + h)), .inr (.inr (93, 0))]) (σ' := (yR σ G1)) 3 rfl ?_
                    refine zX_ald1 (L := 1632) rfl (by decide) rfl (o5 a1 a3 a5 a6 G1 a7 a8 a9 a10 a11 a12) ?_
                    refine zX_run (n' := 61) (ls' := [some (.inr (.inr (10, 0))), some (.inl h), some (.inl m), some (.inl w), some (.inl (zW ((zW (17 * m)) + h)))]) (st' := [.inl ((yR σ G1).1 93 0 ((zW ((zW (17 * m)) + h)).toNat))]) (σ' := (yR σ G1)) 1 rfl ?_
                    exact zX_ret rfl rfl (h4 a1 a3 a5 a6 G1 a7 a8 a9 a10 a11 a12)
                · skip
                  refine zX_run (n' := 43) (ls' := [some (.inr (.inr (10, 0))), some (.inl h), some (.inl m), some (.inl w), some (.inl (zW ((zW (17 * m)) + h)))]) (st' := [.inl (zW ((zW (17 * m)) + h)), .inr (.inr (92, 0))]) (σ' := (yR σ G1)) 3 rfl ?_
                  refine zX_ald1 (L := 1632) rfl (by decide) rfl (o6 a1 a3 a5 a6 G1 a7 a8 a9 a10 a11) ?_
                  refine zX_run (n' := 61) (ls' := [some (.inr (.inr (10, 0))), some (.inl h), some (.inl m), some (.inl w), some (.inl (zW ((zW (17 * m)) + h)))]) (st' := [.inl ((yR σ G1).1 92 0 ((zW ((zW (17 * m)) + h)).toNat))]) (σ' := (yR σ G1)) 1 rfl ?_
                  exact zX_ret rfl rfl (h5 a1 a3 a5 a6 G1 a7 a8 a9 a10 a11)
              · skip
                refine zX_run (n' := 35) (ls' := [some (.inr (.inr (10, 0))), some (.inl h), some (.inl m), some (.inl w), some (.inl (zW ((zW (17 * m)) + h)))]) (st' := [.inl (zW ((zW (17 * m)) + h)), .inr (.inr (91, 0))]) (σ' := (yR σ G1)) 3 rfl ?_
                refine zX_ald1 (L := 1632) rfl (by decide) rfl (o7 a1 a3 a5 a6 G1 a7 a8 a9 a10) ?_
                refine zX_run (n' := 61) (ls' := [some (.inr (.inr (10, 0))), some (.inl h), some (.inl m), some (.inl w), some (.inl (zW ((zW (17 * m)) + h)))]) (st' := [.inl ((yR σ G1).1 91 0 ((zW ((zW (17 * m)) + h)).toNat))]) (σ' := (yR σ G1)) 1 rfl ?_
                exact zX_ret rfl rfl (h6 a1 a3 a5 a6 G1 a7 a8 a9 a10)
            · skip
              refine zX_run (n' := 27) (ls' := [some (.inr (.inr (10, 0))), some (.inl h), some (.inl m), some (.inl w), some (.inl (zW ((zW (17 * m)) + h)))]) (st' := [.inl m, .inl h, .inr (.inr (10, 0))]) (σ' := (yR σ G1)) 3 rfl ?_
              refine zX_call rfl rfl ?_
              refine zs_138 (o8 a1 a3 a5 a6 G1 a7 a8 a9) (o9 a1 a3 a5 a6 G1 a7 a8 a9) (o10 a1 a3 a5 a6 G1 a7 a8 a9) ?_
              · skip
                refine zX_run (n' := 61) (ls' := [some (.inr (.inr (10, 0))), some (.inl h), some (.inl m), some (.inl w), some (.inl (zW ((zW (17 * m)) + h)))]) (st' := [.inl (uAsk ((yR σ G1).1 60 0 h.toNat) ((yR σ G1).1 63 0 h.toNat) (zW (m - zW (zW (m.tdiv 12) * 12))) ((yR σ G1).1 100 0 (7 * m.toNat + ((yR σ G1).1 62 0 h.toNat).toNat)))]) (σ' := (yR σ G1)) 1 rfl ?_
                exact zX_ret rfl rfl (h7 a1 a3 a5 a6 G1 a7 a8 a9)
        · skip
          refine zX_run (n' := 13) (ls' := [some (.inr (.inr (10, 0))), some (.inl h), some (.inl m), some (.inl w), none]) (st' := [.inl (-2)]) (σ' := σ) 1 rfl ?_
          exact zX_ret rfl rfl (h8 a1 a3 a5 a6)
    · skip
      refine zX_run (n' := 13) (ls' := [some (.inr (.inr (10, 0))), some (.inl h), some (.inl m), some (.inl w), none]) (st' := [.inl (-2)]) (σ' := σ) 2 rfl ?_
      exact zX_ret rfl rfl (h9 a1 a4)
  · skip
    refine zX_run (n' := 13) (ls' := [some (.inr (.inr (10, 0))), some (.inl h), some (.inl m), some (.inl w), none]) (st' := [.inl (-2)]) (σ' := σ) 2 rfl ?_
    exact zX_ret rfl rfl (h10 a2)
-- X9_all
theorem zb_79 {d : Nat} {σ : zS} {Q : Option zV → zS → Prop} {h : Int} {a : Int} {b : Int}
    (o1 : 0 ≤ σ.1 8 0 8 ∧ σ.1 8 0 8 ≤ 1000)
    (o2 : 0 ≤ h ∧ h < σ.1 8 0 8 → 0 ≤ a ∧ a ≤ b ∧ b ≤ 96 → (0 : Int) ≤ b ∧ b ≤ (96 : Int))
    (o3 : 0 ≤ h ∧ h < σ.1 8 0 8 → 0 ≤ a ∧ a ≤ b ∧ b ≤ 96 → yRel σ)
    (o4 : 0 ≤ h ∧ h < σ.1 8 0 8 → 0 ≤ a ∧ a ≤ b ∧ b ≤ 96 → ∀ G1 : Nat → Nat → Nat → Int, cWk (zG σ G1) 0 (mD σ) b → yRel (zG σ G1) → cOth σ G1 0 → 0 ≤ h ∧ h < 16)
    (o5 : 0 ≤ h ∧ h < σ.1 8 0 8 → 0 ≤ a ∧ a ≤ b ∧ b ≤ 96 → ∀ G1 : Nat → Nat → Nat → Int, cWk (zG σ G1) 0 (mD σ) b → yRel (zG σ G1) → cOth σ G1 0 → 0 ≤ a ∧ a ≤ b ∧ b ≤ 96)
    (h1 : 0 ≤ h ∧ h < σ.1 8 0 8 → 0 ≤ a ∧ a ≤ b ∧ b ≤ 96 → ∀ G1 : Nat → Nat → Nat → Int, cWk (zG σ G1) 0 (mD σ) b → yRel (zG σ G1) → cOth σ G1 0 → Q (some (.inr (.inl (uSw ((zG σ G1).1 18 (16 * 0 + h.toNat)) a.toNat (b.toNat - a.toNat))))) (zG σ G1))
    (h2 : 0 ≤ h ∧ h < σ.1 8 0 8 → ¬ (0 ≤ a ∧ a ≤ b ∧ b ≤ 96) → Q (some (.inr (.inl (-4611686018427387904)))) σ)
    (h3 : ¬ (0 ≤ h ∧ h < σ.1 8 0 8) → Q (some (.inr (.inl (-4611686018427387904)))) σ) :
    zM (d + 15) 79 [.inr (.inr (9, 0)), .inl h, .inl a, .inl b] σ Q := by
  refine zX_run (n' := 2) (ls' := [some (.inr (.inr (9, 0))), some (.inl h), some (.inl a), some (.inl b)]) (st' := [.inl h, .inr (.inr (9, 0))]) (σ' := σ) 2 rfl ?_
  refine zX_call rfl rfl ?_
  refine zs_112 o1 (fun a1 => ?_) (fun a2 => ?_)
  · skip
    refine zX_run (n' := 6) (ls' := [some (.inr (.inr (9, 0))), some (.inl h), some (.inl a), some (.inl b)]) (st' := [.inl b, .inl a]) (σ' := σ) 3 rfl ?_
    refine zX_call rfl rfl ?_
    refine zs_107 (fun a3 => ?_) (fun a4 => ?_)
    · skip
      refine zX_run (n' := 13) (ls' := [some (.inr (.inr (9, 0))), some (.inl h), some (.inl a), some (.inl b)]) (st' := [.inl b, .inr (.inr (0, 0))]) (σ' := σ) 4 rfl ?_
      refine zX_call rfl rfl ?_
      refine ys_2 (o2 a1 a3) (o3 a1 a3) (fun G1 a5 a6 a7 => ?_)
      · skip
        refine zX_run (n' := 19) (ls' := [some (.inr (.inr (9, 0))), some (.inl h), some (.inl a), some (.inl b)]) (st' := [.inl b, .inl a, .inl h, .inr (.inr (0, 0))]) (σ' := (zG σ G1)) 5 rfl ?_
        refine zX_call rfl rfl ?_
        refine zs_21 (o4 a1 a3 G1 a5 a6 a7) (o5 a1 a3 G1 a5 a6 a7) ?_
        · skip
          exact zX_retL rfl rfl (h1 a1 a3 G1 a5 a6 a7)
    · skip
      refine zX_run (n' := 9) (ls' := [some (.inr (.inr (9, 0))), some (.inl h), some (.inl a), some (.inl b)]) (st' := [.inr (.inl (-4611686018427387904))]) (σ' := σ) 2 rfl ?_
      exact zX_retL rfl rfl (h2 a1 a4)
  · skip
    refine zX_run (n' := 9) (ls' := [some (.inr (.inr (9, 0))), some (.inl h), some (.inl a), some (.inl b)]) (st' := [.inr (.inl (-4611686018427387904))]) (σ' := σ) 2 rfl ?_
    exact zX_retL rfl rfl (h3 a2)
-- X9_says
theorem zb_85 {d : Nat} {σ : zS} {Q : Option zV → zS → Prop} {h : Int} {m : Int} {p : Int}
    (o1 : 0 ≤ σ.1 8 0 8 ∧ σ.1 8 0 8 ≤ 1000)
    (o2 : 0 ≤ h ∧ h < σ.1 8 0 8 → 0 ≤ m ∧ m ≤ 95 → 0 ≤ p ∧ p ≤ 1 → (0 : Int) ≤ (zW (m + 1)) ∧ (zW (m + 1)) ≤ (96 : Int))
    (o3 : 0 ≤ h ∧ h < σ.1 8 0 8 → 0 ≤ m ∧ m ≤ 95 → 0 ≤ p ∧ p ≤ 1 → yRel σ)
    (o4 : 0 ≤ h ∧ h < σ.1 8 0 8 → 0 ≤ m ∧ m ≤ 95 → 0 ≤ p ∧ p ≤ 1 → ∀ G1 : Nat → Nat → Nat → Int, cWk (zG σ G1) 0 (mD σ) (zW (m + 1)) → yRel (zG σ G1) → cOth σ G1 0 → (0 : Int) ≤ h ∧ h < (16 : Int))
    (o5 : 0 ≤ h ∧ h < σ.1 8 0 8 → 0 ≤ m ∧ m ≤ 95 → 0 ≤ p ∧ p ≤ 1 → ∀ G1 : Nat → Nat → Nat → Int, cWk (zG σ G1) 0 (mD σ) (zW (m + 1)) → yRel (zG σ G1) → cOth σ G1 0 → (0 : Int) ≤ (zG σ G1).1 1 (16 * 0 + h.toNat) 1 ∧ (zG σ G1).1 1 (16 * 0 + h.toNat) 1 < (4 : Int))
    (o6 : 0 ≤ h ∧ h < σ.1 8 0 8 → 0 ≤ m ∧ m ≤ 95 → 0 ≤ p ∧ p ≤ 1 → ∀ G1 : Nat → Nat → Nat → Int, cWk (zG σ G1) 0 (mD σ) (zW (m + 1)) → yRel (zG σ G1) → cOth σ G1 0 → 0 ≤ m ∧ m < 97)
    (o7 : 0 ≤ h ∧ h < σ.1 8 0 8 → 0 ≤ m ∧ m ≤ 95 → 0 ≤ p ∧ p ≤ 1 → ∀ G1 : Nat → Nat → Nat → Int, cWk (zG σ G1) 0 (mD σ) (zW (m + 1)) → yRel (zG σ G1) → cOth σ G1 0 → 0 ≤ h ∧ h < 16)
    (o8 : 0 ≤ h ∧ h < σ.1 8 0 8 → 0 ≤ m ∧ m ≤ 95 → 0 ≤ p ∧ p ≤ 1 → ∀ G1 : Nat → Nat → Nat → Int, cWk (zG σ G1) 0 (mD σ) (zW (m + 1)) → yRel (zG σ G1) → cOth σ G1 0 → 0 ≤ m ∧ m < 96)
    (o9 : 0 ≤ h ∧ h < σ.1 8 0 8 → 0 ≤ m ∧ m ≤ 95 → 0 ≤ p ∧ p ≤ 1 → ∀ G1 : Nat → Nat → Nat → Int, cWk (zG σ G1) 0 (mD σ) (zW (m + 1)) → yRel (zG σ G1) → cOth σ G1 0 → 0 ≤ cH (zG σ G1) h.toNat 2 ∧ cH (zG σ G1) h.toNat 2 < 7)
    (o10 : 0 ≤ h ∧ h < σ.1 8 0 8 → 0 ≤ m ∧ m ≤ 95 → 0 ≤ p ∧ p ≤ 1 → ∀ G1 : Nat → Nat → Nat → Int, cWk (zG σ G1) 0 (mD σ) (zW (m + 1)) → yRel (zG σ G1) → cOth σ G1 0 → ∀ G2 : Nat → Nat → Nat → Int, (∀ j, j < 6 → G2 44 0 j = cNmv (zG σ G1) h.toNat m.toNat (uLvs (cTh (zG σ G1)) (fun r => (zG σ G1).1 26 (7 * 0 + r) m.toNat) 7) j) → (0 : Int) ≤ (zG σ G1).1 43 0 (((zG σ G1).1 1 (16 * 0 + h.toNat) 1).toNat) ∧ (zG σ G1).1 43 0 (((zG σ G1).1 1 (16 * 0 + h.toNat) 1).toNat) < (6 : Int))
    (o11 : 0 ≤ h ∧ h < σ.1 8 0 8 → 0 ≤ m ∧ m ≤ 95 → 0 ≤ p ∧ p ≤ 1 → ∀ G1 : Nat → Nat → Nat → Int, cWk (zG σ G1) 0 (mD σ) (zW (m + 1)) → yRel (zG σ G1) → cOth σ G1 0 → ∀ G2 : Nat → Nat → Nat → Int, (∀ j, j < 6 → G2 44 0 j = cNmv (zG σ G1) h.toNat m.toNat (uLvs (cTh (zG σ G1)) (fun r => (zG σ G1).1 26 (7 * 0 + r) m.toNat) 7) j) → cTok (zN (zG σ G1) G2) (6 * 0 + ((zG σ G1).1 43 0 (((zG σ G1).1 1 (16 * 0 + h.toNat) 1).toNat)).toNat))
    (o12 : 0 ≤ h ∧ h < σ.1 8 0 8 → 0 ≤ m ∧ m ≤ 95 → 0 ≤ p ∧ p ≤ 1 → ∀ G1 : Nat → Nat → Nat → Int, cWk (zG σ G1) 0 (mD σ) (zW (m + 1)) → yRel (zG σ G1) → cOth σ G1 0 → ∀ G2 : Nat → Nat → Nat → Int, (∀ j, j < 6 → G2 44 0 j = cNmv (zG σ G1) h.toNat m.toNat (uLvs (cTh (zG σ G1)) (fun r => (zG σ G1).1 26 (7 * 0 + r) m.toNat) 7) j) → (p : Int) = 0 ∨ (p : Int) = 1)
    (h1 : 0 ≤ h ∧ h < σ.1 8 0 8 → 0 ≤ m ∧ m ≤ 95 → 0 ≤ p ∧ p ≤ 1 → ∀ G1 : Nat → Nat → Nat → Int, cWk (zG σ G1) 0 (mD σ) (zW (m + 1)) → yRel (zG σ G1) → cOth σ G1 0 → ∀ G2 : Nat → Nat → Nat → Int, (∀ j, j < 6 → G2 44 0 j = cNmv (zG σ G1) h.toNat m.toNat (uLvs (cTh (zG σ G1)) (fun r => (zG σ G1).1 26 (7 * 0 + r) m.toNat) 7) j) → ∀ G3 : Nat → Nat → Nat → Int, G3 44 = (zN (zG σ G1) G2).1 44 → Q (some (.inr (.inl (((uEv (fun c => (zN (zG σ G1) G2).1 44 0 c.toNat) (cPart (zN (zG σ G1) G2) (6 * 0 + ((zG σ G1).1 43 0 (((zG σ G1).1 1 (16 * 0 + h.toNat) 1).toNat)).toNat) p) []).headD 0))))) (zN (zN (zG σ G1) G2) G3))
    (h2 : 0 ≤ h ∧ h < σ.1 8 0 8 → 0 ≤ m ∧ m ≤ 95 → ¬ (0 ≤ p ∧ p ≤ 1) → Q (some (.inr (.inl (-4611686018427387904)))) σ)
    (h3 : 0 ≤ h ∧ h < σ.1 8 0 8 → ¬ (0 ≤ m ∧ m ≤ 95) → Q (some (.inr (.inl (-4611686018427387904)))) σ)
    (h4 : ¬ (0 ≤ h ∧ h < σ.1 8 0 8) → Q (some (.inr (.inl (-4611686018427387904)))) σ) :
    zM (d + 15) 85 [.inr (.inr (9, 0)), .inl h, .inl m, .inl p] σ Q := by
  refine zX_run (n' := 2) (ls' := [some (.inr (.inr (9, 0))), some (.inl h), some (.inl m), some (.inl p), none]) (st' := [.inl h, .inr (.inr (9, 0))]) (σ' := σ) 2 rfl ?_
  refine zX_call rfl rfl ?_
  refine zs_112 o1 (fun a1 => ?_) (fun a2 => ?_)
  · skip
    refine zX_run (n' := 5) (ls' := [some (.inr (.inr (9, 0))), some (.inl h), some (.inl m), some (.inl p), none]) (st' := [.inl m]) (σ' := σ) 2 rfl ?_
    refine zX_call rfl rfl ?_
    refine zs_106 (fun a3 => ?_) (fun a4 => ?_)
    · skip
      refine zX_run (n' := 10) (ls' := [some (.inr (.inr (9, 0))), some (.inl h), some (.inl m), some (.inl p), none]) (st' := [.inl 1, .inl 0, .inl p]) (σ' := σ) 4 rfl ?_
      refine zX_call rfl rfl ?_
      refine zs_104 (fun a5 => ?_) (fun a6 => ?_)
      · skip
        refine zX_run (n' := 19) (ls' := [some (.inr (.inr (9, 0))), some (.inl h), some (.inl m), some (.inl p), none]) (st' := [.inl (zW (m + 1)), .inr (.inr (0, 0))]) (σ' := σ) 6 rfl ?_
        refine zX_call rfl rfl ?_
        refine ys_2 (o2 a1 a3 a5) (o3 a1 a3 a5) (fun G1 a7 a8 a9 => ?_)
        · skip
          refine zX_run (n' := 27) (ls' := [some (.inr (.inr (9, 0))), some (.inl h), some (.inl m), some (.inl p), none]) (st' := [.inl h, .inr (.inr (39, 0)), .inr (.inr (43, 0))]) (σ' := (zG σ G1)) 7 rfl ?_
          refine zX_ald5 (L := 16) rfl (by decide) rfl (o4 a1 a3 a5 G1 a7 a8 a9) ?_
          refine zX_run (n' := 29) (ls' := [some (.inr (.inr (9, 0))), some (.inl h), some (.inl m), some (.inl p), none]) (st' := [.inl ((zG σ G1).1 1 (16 * 0 + h.toNat) 1), .inr (.inr (43, 0))]) (σ' := (zG σ G1)) 1 rfl ?_
          refine zX_ald1 (L := 4) rfl (by decide) rfl (o5 a1 a3 a5 G1 a7 a8 a9) ?_
          refine zX_run (n' := 38) (ls' := [some (.inr (.inr (9, 0))), some (.inl h), some (.inl m), some (.inl p), some (.inl ((zG σ G1).1 43 0 (((zG σ G1).1 1 (16 * 0 + h.toNat) 1).toNat)))]) (st' := [.inl m, .inr (.inr (0, 0)), .inl m, .inl h, .inr (.inr (8, 0))]) (σ' := (zG σ G1)) 8 rfl ?_
          refine zX_call rfl rfl ?_
          refine zs_15 (o6 a1 a3 a5 G1 a7 a8 a9) ?_
          · skip
            refine zX_call rfl rfl ?_
            refine zs_66 (o7 a1 a3 a5 G1 a7 a8 a9) (o8 a1 a3 a5 G1 a7 a8 a9) (o9 a1 a3 a5 G1 a7 a8 a9) (fun G2 a10 => ?_)
            · skip
              refine zX_run (n' := 44) (ls' := [some (.inr (.inr (9, 0))), some (.inl h), some (.inl m), some (.inl p), some (.inl ((zG σ G1).1 43 0 (((zG σ G1).1 1 (16 * 0 + h.toNat) 1).toNat)))]) (st' := [.inl ((zG σ G1).1 43 0 (((zG σ G1).1 1 (16 * 0 + h.toNat) 1).toNat)), .inr (.inr (42, 0))]) (σ' := (zN (zG σ G1) G2)) 4 rfl ?_
              refine zX_ald5 (L := 6) rfl (by decide) rfl (o10 a1 a3 a5 G1 a7 a8 a9 G2 a10) ?_
              refine zX_run (n' := 52) (ls' := [some (.inr (.inr (9, 0))), some (.inl h), some (.inl m), some (.inl p), some (.inl ((zG σ G1).1 43 0 (((zG σ G1).1 1 (16 * 0 + h.toNat) 1).toNat)))]) (st' := [.inr (.inr (45, 0)), .inr (.inr (44, 0)), .inl p, .inr (.inr (7, 6 * 0 + ((zG σ G1).1 43 0 (((zG σ G1).1 1 (16 * 0 + h.toNat) 1).toNat)).toNat))]) (σ' := (zN (zG σ G1) G2)) 7 rfl ?_
              refine zX_call rfl rfl ?_
              refine zs_58 (o11 a1 a3 a5 G1 a7 a8 a9 G2 a10) (o12 a1 a3 a5 G1 a7 a8 a9 G2 a10) (fun G3 a11 => ?_)
              · skip
                refine zX_run (n' := 54) (ls' := [some (.inr (.inr (9, 0))), some (.inl h), some (.inl m), some (.inl p), some (.inl ((zG σ G1).1 43 0 (((zG σ G1).1 1 (16 * 0 + h.toNat) 1).toNat)))]) (st' := [.inr (.inl (((uEv (fun c => (zN (zG σ G1) G2).1 44 0 c.toNat) (cPart (zN (zG σ G1) G2) (6 * 0 + ((zG σ G1).1 43 0 (((zG σ G1).1 1 (16 * 0 + h.toNat) 1).toNat)).toNat) p) []).headD 0)))]) (σ' := (zN (zN (zG σ G1) G2) G3)) 1 rfl ?_
                exact zX_retL rfl rfl (h1 a1 a3 a5 G1 a7 a8 a9 G2 a10 G3 a11)
      · skip
        refine zX_run (n' := 13) (ls' := [some (.inr (.inr (9, 0))), some (.inl h), some (.inl m), some (.inl p), none]) (st' := [.inr (.inl (-4611686018427387904))]) (σ' := σ) 2 rfl ?_
        exact zX_retL rfl rfl (h2 a1 a3 a6)
    · skip
      refine zX_run (n' := 13) (ls' := [some (.inr (.inr (9, 0))), some (.inl h), some (.inl m), some (.inl p), none]) (st' := [.inr (.inl (-4611686018427387904))]) (σ' := σ) 2 rfl ?_
      exact zX_retL rfl rfl (h3 a1 a4)
  · skip
    refine zX_run (n' := 13) (ls' := [some (.inr (.inr (9, 0))), some (.inl h), some (.inl m), some (.inl p), none]) (st' := [.inr (.inl (-4611686018427387904))]) (σ' := σ) 2 rfl ?_
    exact zX_retL rfl rfl (h4 a2)
-- X10_says_
theorem zb_164 {d : Nat} {σ : zS} {Q : Option zV → zS → Prop} {h : Int} {m : Int} {p : Int}
    (o1 : 0 ≤ h ∧ h < σ.1 10 0 4 → 0 ≤ m ∧ m < 96 → ¬ p < 0 → p ≤ 1 → yRel σ)
    (o2 : 0 ≤ h ∧ h < σ.1 10 0 4 → 0 ≤ m ∧ m < 96 → ¬ p < 0 → p ≤ 1 → ∀ G1 : zS, mRun σ G1 96 0 → yRel (yR σ G1) → (0 : Int) ≤ h ∧ h < (17 : Int))
    (o3 : 0 ≤ h ∧ h < σ.1 10 0 4 → 0 ≤ m ∧ m < 96 → ¬ p < 0 → p ≤ 1 → ∀ G1 : zS, mRun σ G1 96 0 → yRel (yR σ G1) → (0 : Int) ≤ (yR σ G1).1 61 0 (h.toNat) ∧ (yR σ G1).1 61 0 (h.toNat) < (4 : Int))
    (o4 : 0 ≤ h ∧ h < σ.1 10 0 4 → 0 ≤ m ∧ m < 96 → ¬ p < 0 → p ≤ 1 → ∀ G1 : zS, mRun σ G1 96 0 → yRel (yR σ G1) → ¬ p = 1 → 0 ≤ ((yR σ G1).1 70 0 (((yR σ G1).1 61 0 (h.toNat)).toNat)) ∧ ((yR σ G1).1 70 0 (((yR σ G1).1 61 0 (h.toNat)).toNat)) < 6)
    (o5 : 0 ≤ h ∧ h < σ.1 10 0 4 → 0 ≤ m ∧ m < 96 → ¬ p < 0 → p ≤ 1 → ∀ G1 : zS, mRun σ G1 96 0 → yRel (yR σ G1) → ¬ p = 1 → 0 ≤ h ∧ h < 17)
    (o6 : 0 ≤ h ∧ h < σ.1 10 0 4 → 0 ≤ m ∧ m < 96 → ¬ p < 0 → p ≤ 1 → ∀ G1 : zS, mRun σ G1 96 0 → yRel (yR σ G1) → ¬ p = 1 → 0 ≤ m ∧ m < 96)
    (o7 : 0 ≤ h ∧ h < σ.1 10 0 4 → 0 ≤ m ∧ m < 96 → ¬ p < 0 → p ≤ 1 → ∀ G1 : zS, mRun σ G1 96 0 → yRel (yR σ G1) → ¬ p = 1 → 0 ≤ (yR σ G1).1 62 0 h.toNat ∧ (yR σ G1).1 62 0 h.toNat < 7)
    (o8 : 0 ≤ h ∧ h < σ.1 10 0 4 → 0 ≤ m ∧ m < 96 → ¬ p < 0 → p ≤ 1 → ∀ G1 : zS, mRun σ G1 96 0 → yRel (yR σ G1) → ¬ p = 1 → mTok (yR σ G1) ((yR σ G1).1 70 0 (((yR σ G1).1 61 0 (h.toNat)).toNat)).toNat)
    (o9 : 0 ≤ h ∧ h < σ.1 10 0 4 → 0 ≤ m ∧ m < 96 → ¬ p < 0 → p ≤ 1 → ∀ G1 : zS, mRun σ G1 96 0 → yRel (yR σ G1) → ¬ p = 1 → (0 : Int) = 0 ∨ (0 : Int) = 1)
    (o10 : 0 ≤ h ∧ h < σ.1 10 0 4 → 0 ≤ m ∧ m < 96 → ¬ p < 0 → p ≤ 1 → ∀ G1 : zS, mRun σ G1 96 0 → yRel (yR σ G1) → p = 1 → 0 ≤ ((yR σ G1).1 70 0 (((yR σ G1).1 61 0 (h.toNat)).toNat)) ∧ ((yR σ G1).1 70 0 (((yR σ G1).1 61 0 (h.toNat)).toNat)) < 6)
    (o11 : 0 ≤ h ∧ h < σ.1 10 0 4 → 0 ≤ m ∧ m < 96 → ¬ p < 0 → p ≤ 1 → ∀ G1 : zS, mRun σ G1 96 0 → yRel (yR σ G1) → p = 1 → 0 ≤ h ∧ h < 17)
    (o12 : 0 ≤ h ∧ h < σ.1 10 0 4 → 0 ≤ m ∧ m < 96 → ¬ p < 0 → p ≤ 1 → ∀ G1 : zS, mRun σ G1 96 0 → yRel (yR σ G1) → p = 1 → 0 ≤ m ∧ m < 96)
    (o13 : 0 ≤ h ∧ h < σ.1 10 0 4 → 0 ≤ m ∧ m < 96 → ¬ p < 0 → p ≤ 1 → ∀ G1 : zS, mRun σ G1 96 0 → yRel (yR σ G1) → p = 1 → 0 ≤ (yR σ G1).1 62 0 h.toNat ∧ (yR σ G1).1 62 0 h.toNat < 7)
    (o14 : 0 ≤ h ∧ h < σ.1 10 0 4 → 0 ≤ m ∧ m < 96 → ¬ p < 0 → p ≤ 1 → ∀ G1 : zS, mRun σ G1 96 0 → yRel (yR σ G1) → p = 1 → mTok (yR σ G1) ((yR σ G1).1 70 0 (((yR σ G1).1 61 0 (h.toNat)).toNat)).toNat)
    (o15 : 0 ≤ h ∧ h < σ.1 10 0 4 → 0 ≤ m ∧ m < 96 → ¬ p < 0 → p ≤ 1 → ∀ G1 : zS, mRun σ G1 96 0 → yRel (yR σ G1) → p = 1 → (1 : Int) = 0 ∨ (1 : Int) = 1)
    (h1 : 0 ≤ h ∧ h < σ.1 10 0 4 → 0 ≤ m ∧ m < 96 → p < 0 → Q (some (.inr (.inl (-4611686018427387904)))) σ)
    (h2 : 0 ≤ h ∧ h < σ.1 10 0 4 → 0 ≤ m ∧ m < 96 → ¬ p < 0 → p ≤ 1 → ∀ G1 : zS, mRun σ G1 96 0 → yRel (yR σ G1) → ¬ p = 1 → ∀ G2 : Nat → Nat → Int, Q (some (.inr (.inl (((uEv (mNm (yR σ G1) h.toNat m.toNat) (mPart (yR σ G1) ((yR σ G1).1 70 0 (((yR σ G1).1 61 0 (h.toNat)).toNat)).toNat 0) []).headD 0))))) (zK (yR σ G1) 98 G2))
    (h3 : 0 ≤ h ∧ h < σ.1 10 0 4 → 0 ≤ m ∧ m < 96 → ¬ p < 0 → p ≤ 1 → ∀ G1 : zS, mRun σ G1 96 0 → yRel (yR σ G1) → p = 1 → ∀ G3 : Nat → Nat → Int, Q (some (.inr (.inl (((uEv (mNm (yR σ G1) h.toNat m.toNat) (mPart (yR σ G1) ((yR σ G1).1 70 0 (((yR σ G1).1 61 0 (h.toNat)).toNat)).toNat 1) []).headD 0))))) (zK (yR σ G1) 98 G3))
    (h4 : 0 ≤ h ∧ h < σ.1 10 0 4 → 0 ≤ m ∧ m < 96 → ¬ p < 0 → ¬ p ≤ 1 → Q (some (.inr (.inl (-4611686018427387904)))) σ)
    (h5 : 0 ≤ h ∧ h < σ.1 10 0 4 → ¬ (0 ≤ m ∧ m < 96) → Q (some (.inr (.inl (-4611686018427387904)))) σ)
    (h6 : ¬ (0 ≤ h ∧ h < σ.1 10 0 4) → Q (some (.inr (.inl (-4611686018427387904)))) σ) :
    zM (d + 7) 164 [.inr (.inr (10, 0)), .inl h, .inl m, .inl p] σ Q := by
  refine zX_run (n' := 2) (ls' := [some (.inr (.inr (10, 0))), some (.inl h), some (.inl m), some (.inl p)]) (st' := [.inl h, .inr (.inr (10, 0))]) (σ' := σ) 2 rfl ?_
  refine zX_call rfl rfl ?_
  refine zs_121 (fun a1 => ?_) (fun a2 => ?_)
  · skip
    refine zX_run (n' := 5) (ls' := [some (.inr (.inr (10, 0))), some (.inl h), some (.inl m), some (.inl p)]) (st' := [.inl m]) (σ' := σ) 2 rfl ?_
    refine zX_call rfl rfl ?_
    refine zs_120 (fun a3 => ?_) (fun a4 => ?_)
    · skip
      refine zX_run (n' := 8) (ls' := [some (.inr (.inr (10, 0))), some (.inl h), some (.inl m), some (.inl p)]) (st' := [.inl p]) (σ' := σ) 2 rfl ?_
      refine zX_i2 rfl (fun a5 => ?_) (fun a5 => ?_)
      · skip
        refine zX_run (n' := 13) (ls' := [some (.inr (.inr (10, 0))), some (.inl h), some (.inl m), some (.inl p)]) (st' := [.inr (.inl (-4611686018427387904))]) (σ' := σ) 1 rfl ?_
        exact zX_retL rfl rfl (h1 a1 a3 a5)
      · skip
        refine zX_run (n' := 11) (ls' := [some (.inr (.inr (10, 0))), some (.inl h), some (.inl m), some (.inl p)]) (st' := [.inl 1, .inl p]) (σ' := σ) 2 rfl ?_
        refine zX_c5 rfl (fun a6 => ?_) (fun a6 => ?_)
        · skip
          refine zX_run (n' := 15) (ls' := [some (.inr (.inr (10, 0))), some (.inl h), some (.inl m), some (.inl p)]) (st' := [.inr (.inr (10, 0))]) (σ' := σ) 1 rfl ?_
          refine zX_call rfl rfl ?_
          refine ys_158 (o1 a1 a3 a5 a6) (fun G1 a7 a8 => ?_)
          · skip
            refine zX_run (n' := 22) (ls' := [some (.inr (.inr (10, 0))), some (.inl h), some (.inl m), some (.inl p)]) (st' := [.inl h, .inr (.inr (61, 0)), .inr (.inr (70, 0)), .inr (.inr (10, 0))]) (σ' := (yR σ G1)) 6 rfl ?_
            refine zX_ald1 (L := 17) rfl (by decide) rfl (o2 a1 a3 a5 a6 G1 a7 a8) ?_
            refine zX_ald1 (L := 4) rfl (by decide) rfl (o3 a1 a3 a5 a6 G1 a7 a8) ?_
            refine zX_run (n' := 28) (ls' := [some (.inr (.inr (10, 0))), some (.inl h), some (.inl m), some (.inl p)]) (st' := [.inl 1, .inl p, .inl m, .inl h, .inl ((yR σ G1).1 70 0 (((yR σ G1).1 61 0 (h.toNat)).toNat)), .inr (.inr (10, 0))]) (σ' := (yR σ G1)) 4 rfl ?_
            refine zX_c1 rfl (fun a9 => ?_) (fun a9 => ?_)
            · skip
              refine zX_run (n' := 32) (ls' := [some (.inr (.inr (10, 0))), some (.inl h), some (.inl m), some (.inl p)]) (st' := [.inl 0, .inl m, .inl h, .inl ((yR σ G1).1 70 0 (((yR σ G1).1 61 0 (h.toNat)).toNat)), .inr (.inr (10, 0))]) (σ' := (yR σ G1)) 1 rfl ?_
              refine zX_call rfl rfl ?_
              refine zs_155 (o4 a1 a3 a5 a6 G1 a7 a8 a9) (o5 a1 a3 a5 a6 G1 a7 a8 a9) (o6 a1 a3 a5 a6 G1 a7 a8 a9) (o7 a1 a3 a5 a6 G1 a7 a8 a9) (o8 a1 a3 a5 a6 G1 a7 a8 a9) (o9 a1 a3 a5 a6 G1 a7 a8 a9) (fun G2 => ?_)
              · skip
                refine zX_run (n' := 34) (ls' := [some (.inr (.inr (10, 0))), some (.inl h), some (.inl m), some (.inl p)]) (st' := [.inr (.inl (((uEv (mNm (yR σ G1) h.toNat m.toNat) (mPart (yR σ G1) ((yR σ G1).1 70 0 (((yR σ G1).1 61 0 (h.toNat)).toNat)).toNat 0) []).headD 0)))]) (σ' := (zK (yR σ G1) 98 G2)) 1 rfl ?_
                exact zX_retL rfl rfl (h2 a1 a3 a5 a6 G1 a7 a8 a9 G2)
            · skip
              refine zX_run (n' := 32) (ls' := [some (.inr (.inr (10, 0))), some (.inl h), some (.inl m), some (.inl p)]) (st' := [.inl 1, .inl m, .inl h, .inl ((yR σ G1).1 70 0 (((yR σ G1).1 61 0 (h.toNat)).toNat)), .inr (.inr (10, 0))]) (σ' := (yR σ G1)) 2 rfl ?_
              refine zX_call rfl rfl ?_
              refine zs_155 (o10 a1 a3 a5 a6 G1 a7 a8 a9) (o11 a1 a3 a5 a6 G1 a7 a8 a9) (o12 a1 a3 a5 a6 G1 a7 a8 a9) (o13 a1 a3 a5 a6 G1 a7 a8 a9) (o14 a1 a3 a5 a6 G1 a7 a8 a9) (o15 a1 a3 a5 a6 G1 a7 a8 a9) (fun G3 => ?_)
              · skip
                refine zX_run (n' := 34) (ls' := [some (.inr (.inr (10, 0))), some (.inl h), some (.inl m), some (.inl p)]) (st' := [.inr (.inl (((uEv (mNm (yR σ G1) h.toNat m.toNat) (mPart (yR σ G1) ((yR σ G1).1 70 0 (((yR σ G1).1 61 0 (h.toNat)).toNat)).toNat 1) []).headD 0)))]) (σ' := (zK (yR σ G1) 98 G3)) 1 rfl ?_
                exact zX_retL rfl rfl (h3 a1 a3 a5 a6 G1 a7 a8 a9 G3)
        · skip
          refine zX_run (n' := 13) (ls' := [some (.inr (.inr (10, 0))), some (.inl h), some (.inl m), some (.inl p)]) (st' := [.inr (.inl (-4611686018427387904))]) (σ' := σ) 1 rfl ?_
          exact zX_retL rfl rfl (h4 a1 a3 a5 a6)
    · skip
      refine zX_run (n' := 13) (ls' := [some (.inr (.inr (10, 0))), some (.inl h), some (.inl m), some (.inl p)]) (st' := [.inr (.inl (-4611686018427387904))]) (σ' := σ) 2 rfl ?_
      exact zX_retL rfl rfl (h5 a1 a4)
  · skip
    refine zX_run (n' := 13) (ls' := [some (.inr (.inr (10, 0))), some (.inl h), some (.inl m), some (.inl p)]) (st' := [.inr (.inl (-4611686018427387904))]) (σ' := σ) 2 rfl ?_
    exact zX_retL rfl rfl (h6 a2)
-- X9_told
theorem zb_86 {d : Nat} {σ : zS} {Q : Option zV → zS → Prop} {r : Int} {m : Int} {w : Int}
    (o1 : 0 ≤ r ∧ r ≤ 6 → 0 ≤ m ∧ m ≤ 95 → 0 ≤ w ∧ w ≤ 6 → (0 : Int) ≤ (zW (m + 1)) ∧ (zW (m + 1)) ≤ (96 : Int))
    (o2 : 0 ≤ r ∧ r ≤ 6 → 0 ≤ m ∧ m ≤ 95 → 0 ≤ w ∧ w ≤ 6 → yRel σ)
    (o3 : 0 ≤ r ∧ r ≤ 6 → 0 ≤ m ∧ m ≤ 95 → 0 ≤ w ∧ w ≤ 6 → ∀ G1 : Nat → Nat → Nat → Int, cWk (zG σ G1) 0 (mD σ) (zW (m + 1)) → yRel (zG σ G1) → cOth σ G1 0 → (0 : Int) ≤ r ∧ r < (7 : Int))
    (o4 : 0 ≤ r ∧ r ≤ 6 → 0 ≤ m ∧ m ≤ 95 → 0 ≤ w ∧ w ≤ 6 → ∀ G1 : Nat → Nat → Nat → Int, cWk (zG σ G1) 0 (mD σ) (zW (m + 1)) → yRel (zG σ G1) → cOth σ G1 0 → w < 0 ∨ 5 < w → (0 : Int) ≤ m ∧ m < (96 : Int))
    (o5 : 0 ≤ r ∧ r ≤ 6 → 0 ≤ m ∧ m ≤ 95 → 0 ≤ w ∧ w ≤ 6 → ∀ G1 : Nat → Nat → Nat → Int, cWk (zG σ G1) 0 (mD σ) (zW (m + 1)) → yRel (zG σ G1) → cOth σ G1 0 → w = 0 → 0 ≤ r ∧ r < 7)
    (o6 : 0 ≤ r ∧ r ≤ 6 → 0 ≤ m ∧ m ≤ 95 → 0 ≤ w ∧ w ≤ 6 → ∀ G1 : Nat → Nat → Nat → Int, cWk (zG σ G1) 0 (mD σ) (zW (m + 1)) → yRel (zG σ G1) → cOth σ G1 0 → w = 0 → 0 ≤ m ∧ m < 96)
    (o7 : 0 ≤ r ∧ r ≤ 6 → 0 ≤ m ∧ m ≤ 95 → 0 ≤ w ∧ w ≤ 6 → ∀ G1 : Nat → Nat → Nat → Int, cWk (zG σ G1) 0 (mD σ) (zW (m + 1)) → yRel (zG σ G1) → cOth σ G1 0 → w = 1 → 0 ≤ r ∧ r < 7)
    (o8 : 0 ≤ r ∧ r ≤ 6 → 0 ≤ m ∧ m ≤ 95 → 0 ≤ w ∧ w ≤ 6 → ∀ G1 : Nat → Nat → Nat → Int, cWk (zG σ G1) 0 (mD σ) (zW (m + 1)) → yRel (zG σ G1) → cOth σ G1 0 → w = 1 → 0 ≤ m ∧ m < 96)
    (o9 : 0 ≤ r ∧ r ≤ 6 → 0 ≤ m ∧ m ≤ 95 → 0 ≤ w ∧ w ≤ 6 → ∀ G1 : Nat → Nat → Nat → Int, cWk (zG σ G1) 0 (mD σ) (zW (m + 1)) → yRel (zG σ G1) → cOth σ G1 0 → w = 2 → (0 : Int) ≤ m ∧ m < (96 : Int))
    (o10 : 0 ≤ r ∧ r ≤ 6 → 0 ≤ m ∧ m ≤ 95 → 0 ≤ w ∧ w ≤ 6 → ∀ G1 : Nat → Nat → Nat → Int, cWk (zG σ G1) 0 (mD σ) (zW (m + 1)) → yRel (zG σ G1) → cOth σ G1 0 → w = 3 → (0 : Int) ≤ m ∧ m < (96 : Int))
    (o11 : 0 ≤ r ∧ r ≤ 6 → 0 ≤ m ∧ m ≤ 95 → 0 ≤ w ∧ w ≤ 6 → ∀ G1 : Nat → Nat → Nat → Int, cWk (zG σ G1) 0 (mD σ) (zW (m + 1)) → yRel (zG σ G1) → cOth σ G1 0 → w = 4 → (0 : Int) ≤ m ∧ m < (96 : Int))
    (o12 : 0 ≤ r ∧ r ≤ 6 → 0 ≤ m ∧ m ≤ 95 → 0 ≤ w ∧ w ≤ 6 → ∀ G1 : Nat → Nat → Nat → Int, cWk (zG σ G1) 0 (mD σ) (zW (m + 1)) → yRel (zG σ G1) → cOth σ G1 0 → w = 5 → (0 : Int) ≤ m ∧ m < (96 : Int))
    (h1 : 0 ≤ r ∧ r ≤ 6 → 0 ≤ m ∧ m ≤ 95 → 0 ≤ w ∧ w ≤ 6 → ∀ G1 : Nat → Nat → Nat → Int, cWk (zG σ G1) 0 (mD σ) (zW (m + 1)) → yRel (zG σ G1) → cOth σ G1 0 → w < 0 ∨ 5 < w → Q (some (.inl ((zG σ G1).1 23 (7 * 0 + r.toNat) (m.toNat)))) (zG σ G1))
    (h2 : 0 ≤ r ∧ r ≤ 6 → 0 ≤ m ∧ m ≤ 95 → 0 ≤ w ∧ w ≤ 6 → ∀ G1 : Nat → Nat → Nat → Int, cWk (zG σ G1) 0 (mD σ) (zW (m + 1)) → yRel (zG σ G1) → cOth σ G1 0 → w = 0 → Q (some (.inl (cSide (zG σ G1) r.toNat m.toNat))) (zG σ G1))
    (h3 : 0 ≤ r ∧ r ≤ 6 → 0 ≤ m ∧ m ≤ 95 → 0 ≤ w ∧ w ≤ 6 → ∀ G1 : Nat → Nat → Nat → Int, cWk (zG σ G1) 0 (mD σ) (zW (m + 1)) → yRel (zG σ G1) → cOth σ G1 0 → w = 1 → Q (some (.inl (cRet (zG σ G1) 0 r.toNat m.toNat))) (zG σ G1))
    (h4 : 0 ≤ r ∧ r ≤ 6 → 0 ≤ m ∧ m ≤ 95 → 0 ≤ w ∧ w ≤ 6 → ∀ G1 : Nat → Nat → Nat → Int, cWk (zG σ G1) 0 (mD σ) (zW (m + 1)) → yRel (zG σ G1) → cOth σ G1 0 → w = 2 → Q (some (.inl ((zG σ G1).1 19 (7 * 0 + r.toNat) (m.toNat)))) (zG σ G1))
    (h5 : 0 ≤ r ∧ r ≤ 6 → 0 ≤ m ∧ m ≤ 95 → 0 ≤ w ∧ w ≤ 6 → ∀ G1 : Nat → Nat → Nat → Int, cWk (zG σ G1) 0 (mD σ) (zW (m + 1)) → yRel (zG σ G1) → cOth σ G1 0 → w = 3 → Q (some (.inl ((zG σ G1).1 21 (7 * 0 + r.toNat) (m.toNat)))) (zG σ G1))
    (h6 : 0 ≤ r ∧ r ≤ 6 → 0 ≤ m ∧ m ≤ 95 → 0 ≤ w ∧ w ≤ 6 → ∀ G1 : Nat → Nat → Nat → Int, cWk (zG σ G1) 0 (mD σ) (zW (m + 1)) → yRel (zG σ G1) → cOth σ G1 0 → w = 4 → Q (some (.inl ((zG σ G1).1 22 (7 * 0 + r.toNat) (m.toNat)))) (zG σ G1))
    (h7 : 0 ≤ r ∧ r ≤ 6 → 0 ≤ m ∧ m ≤ 95 → 0 ≤ w ∧ w ≤ 6 → ∀ G1 : Nat → Nat → Nat → Int, cWk (zG σ G1) 0 (mD σ) (zW (m + 1)) → yRel (zG σ G1) → cOth σ G1 0 → w = 5 → Q (some (.inl ((zG σ G1).1 20 (7 * 0 + r.toNat) (m.toNat)))) (zG σ G1))
    (h8 : 0 ≤ r ∧ r ≤ 6 → 0 ≤ m ∧ m ≤ 95 → ¬ (0 ≤ w ∧ w ≤ 6) → Q (some (.inl (-2))) σ)
    (h9 : 0 ≤ r ∧ r ≤ 6 → ¬ (0 ≤ m ∧ m ≤ 95) → Q (some (.inl (-2))) σ)
    (h10 : ¬ (0 ≤ r ∧ r ≤ 6) → Q (some (.inl (-2))) σ) :
    zM (d + 15) 86 [.inr (.inr (9, 0)), .inl r, .inl m, .inl w] σ Q := by
  refine zX_run (n' := 1) (ls' := [some (.inr (.inr (9, 0))), some (.inl r), some (.inl m), some (.inl w), none]) (st' := [.inl r]) (σ' := σ) 1 rfl ?_
  refine zX_call rfl rfl ?_
  refine zs_105 (fun a1 => ?_) (fun a2 => ?_)
  · skip
    refine zX_run (n' := 4) (ls' := [some (.inr (.inr (9, 0))), some (.inl r), some (.inl m), some (.inl w), none]) (st' := [.inl m]) (σ' := σ) 2 rfl ?_
    refine zX_call rfl rfl ?_
    refine zs_106 (fun a3 => ?_) (fun a4 => ?_)
    · skip
      refine zX_run (n' := 9) (ls' := [some (.inr (.inr (9, 0))), some (.inl r), some (.inl m), some (.inl w), none]) (st' := [.inl 6, .inl 0, .inl w]) (σ' := σ) 4 rfl ?_
      refine zX_call rfl rfl ?_
      refine zs_104 (fun a5 => ?_) (fun a6 => ?_)
      · skip
        refine zX_run (n' := 18) (ls' := [some (.inr (.inr (9, 0))), some (.inl r), some (.inl m), some (.inl w), none]) (st' := [.inl (zW (m + 1)), .inr (.inr (0, 0))]) (σ' := σ) 6 rfl ?_
        refine zX_call rfl rfl ?_
        refine ys_2 (o1 a1 a3 a5) (o2 a1 a3 a5) (fun G1 a7 a8 a9 => ?_)
        · skip
          refine zX_run (n' := 23) (ls' := [some (.inr (.inr (9, 0))), some (.inl r), some (.inl m), some (.inl w), none]) (st' := [.inl r, .inr (.inr (11, 0))]) (σ' := (zG σ G1)) 4 rfl ?_
          refine zX_ald5 (L := 7) rfl (by decide) rfl (o3 a1 a3 a5 G1 a7 a8 a9) ?_
          refine zX_run (n' := 26) (ls' := [some (.inr (.inr (9, 0))), some (.inl r), some (.inl m), some (.inl w), some (.inr (.inr (4, 7 * 0 + r.toNat)))]) (st' := [.inl w]) (σ' := (zG σ G1)) 2 rfl ?_
          refine zX_sw rfl (fun a10 => ?_) ⟨fun a10 => ?_, fun a10 => ?_, fun a10 => ?_, fun a10 => ?_, fun a10 => ?_, fun a10 => ?_, trivial⟩
          · skip
            refine zX_run (n' := 62) (ls' := [some (.inr (.inr (9, 0))), some (.inl r), some (.inl m), some (.inl w), some (.inr (.inr (4, 7 * 0 + r.toNat)))]) (st' := [.inl m, .inr (.inr (23, 7 * 0 + r.toNat))]) (σ' := (zG σ G1)) 3 rfl ?_
            refine zX_ald1 (L := 96) rfl (by decide) rfl (o4 a1 a3 a5 G1 a7 a8 a9 a10) ?_
            exact zX_ret rfl rfl (h1 a1 a3 a5 G1 a7 a8 a9 a10)
          · skip
            refine zX_run (n' := 31) (ls' := [some (.inr (.inr (9, 0))), some (.inl r), some (.inl m), some (.inl w), some (.inr (.inr (4, 7 * 0 + r.toNat)))]) (st' := [.inl m, .inl r, .inr (.inr (8, 0))]) (σ' := (zG σ G1)) 4 rfl ?_
            refine zX_call rfl rfl ?_
            refine zs_60 (o5 a1 a3 a5 G1 a7 a8 a9 a10) (o6 a1 a3 a5 G1 a7 a8 a9 a10) ?_
            · skip
              exact zX_ret rfl rfl (h2 a1 a3 a5 G1 a7 a8 a9 a10)
          · skip
            refine zX_run (n' := 37) (ls' := [some (.inr (.inr (9, 0))), some (.inl r), some (.inl m), some (.inl w), some (.inr (.inr (4, 7 * 0 + r.toNat)))]) (st' := [.inl m, .inl r, .inr (.inr (0, 0))]) (σ' := (zG σ G1)) 4 rfl ?_
            refine zX_call rfl rfl ?_
            refine zs_16 (o7 a1 a3 a5 G1 a7 a8 a9 a10) (o8 a1 a3 a5 G1 a7 a8 a9 a10) ?_
            · skip
              exact zX_ret rfl rfl (h3 a1 a3 a5 G1 a7 a8 a9 a10)
          · skip
            refine zX_run (n' := 42) (ls' := [some (.inr (.inr (9, 0))), some (.inl r), some (.inl m), some (.inl w), some (.inr (.inr (4, 7 * 0 + r.toNat)))]) (st' := [.inl m, .inr (.inr (19, 7 * 0 + r.toNat))]) (σ' := (zG σ G1)) 3 rfl ?_
            refine zX_ald1 (L := 96) rfl (by decide) rfl (o9 a1 a3 a5 G1 a7 a8 a9 a10) ?_
            exact zX_ret rfl rfl (h4 a1 a3 a5 G1 a7 a8 a9 a10)
          · skip
            refine zX_run (n' := 47) (ls' := [some (.inr (.inr (9, 0))), some (.inl r), some (.inl m), some (.inl w), some (.inr (.inr (4, 7 * 0 + r.toNat)))]) (st' := [.inl m, .inr (.inr (21, 7 * 0 + r.toNat))]) (σ' := (zG σ G1)) 3 rfl ?_
            refine zX_ald1 (L := 96) rfl (by decide) rfl (o10 a1 a3 a5 G1 a7 a8 a9 a10) ?_
            exact zX_ret rfl rfl (h5 a1 a3 a5 G1 a7 a8 a9 a10)
          · skip
            refine zX_run (n' := 52) (ls' := [some (.inr (.inr (9, 0))), some (.inl r), some (.inl m), some (.inl w), some (.inr (.inr (4, 7 * 0 + r.toNat)))]) (st' := [.inl m, .inr (.inr (22, 7 * 0 + r.toNat))]) (σ' := (zG σ G1)) 3 rfl ?_
            refine zX_ald1 (L := 96) rfl (by decide) rfl (o11 a1 a3 a5 G1 a7 a8 a9 a10) ?_
            exact zX_ret rfl rfl (h6 a1 a3 a5 G1 a7 a8 a9 a10)
          · skip
            refine zX_run (n' := 57) (ls' := [some (.inr (.inr (9, 0))), some (.inl r), some (.inl m), some (.inl w), some (.inr (.inr (4, 7 * 0 + r.toNat)))]) (st' := [.inl m, .inr (.inr (20, 7 * 0 + r.toNat))]) (σ' := (zG σ G1)) 3 rfl ?_
            refine zX_ald1 (L := 96) rfl (by decide) rfl (o12 a1 a3 a5 G1 a7 a8 a9 a10) ?_
            exact zX_ret rfl rfl (h7 a1 a3 a5 G1 a7 a8 a9 a10)
      · skip
        refine zX_run (n' := 12) (ls' := [some (.inr (.inr (9, 0))), some (.inl r), some (.inl m), some (.inl w), none]) (st' := [.inl (-2)]) (σ' := σ) 2 rfl ?_
        exact zX_ret rfl rfl (h8 a1 a3 a6)
    · skip
      refine zX_run (n' := 12) (ls' := [some (.inr (.inr (9, 0))), some (.inl r), some (.inl m), some (.inl w), none]) (st' := [.inl (-2)]) (σ' := σ) 2 rfl ?_
      exact zX_ret rfl rfl (h9 a1 a4)
  · skip
    refine zX_run (n' := 12) (ls' := [some (.inr (.inr (9, 0))), some (.inl r), some (.inl m), some (.inl w), none]) (st' := [.inl (-2)]) (σ' := σ) 2 rfl ?_
    exact zX_ret rfl rfl (h10 a2)
-- X10_told
theorem zb_165 {d : Nat} {σ : zS} {Q : Option zV → zS → Prop} {r : Int} {m : Int} {w : Int}
    (o1 : 0 ≤ r ∧ r < 7 → 0 ≤ m ∧ m < 96 → yRel σ)
    (o2 : 0 ≤ r ∧ r < 7 → 0 ≤ m ∧ m < 96 → ∀ G1 : zS, mRun σ G1 96 0 → yRel (yR σ G1) → w = 0 → (0 : Int) ≤ zW ((zW (7 * m)) + r) ∧ zW ((zW (7 * m)) + r) < (672 : Int))
    (o3 : 0 ≤ r ∧ r < 7 → 0 ≤ m ∧ m < 96 → ∀ G1 : zS, mRun σ G1 96 0 → yRel (yR σ G1) → w = 1 → (0 : Int) ≤ zW ((zW (7 * m)) + r) ∧ zW ((zW (7 * m)) + r) < (672 : Int))
    (o4 : 0 ≤ r ∧ r < 7 → 0 ≤ m ∧ m < 96 → ∀ G1 : zS, mRun σ G1 96 0 → yRel (yR σ G1) → w = 2 → (0 : Int) ≤ zW ((zW (7 * m)) + r) ∧ zW ((zW (7 * m)) + r) < (672 : Int))
    (o5 : 0 ≤ r ∧ r < 7 → 0 ≤ m ∧ m < 96 → ∀ G1 : zS, mRun σ G1 96 0 → yRel (yR σ G1) → w = 3 → (0 : Int) ≤ zW ((zW (7 * m)) + r) ∧ zW ((zW (7 * m)) + r) < (672 : Int))
    (o6 : 0 ≤ r ∧ r < 7 → 0 ≤ m ∧ m < 96 → ∀ G1 : zS, mRun σ G1 96 0 → yRel (yR σ G1) → w = 4 → (0 : Int) ≤ zW ((zW (7 * m)) + r) ∧ zW ((zW (7 * m)) + r) < (672 : Int))
    (o7 : 0 ≤ r ∧ r < 7 → 0 ≤ m ∧ m < 96 → ∀ G1 : zS, mRun σ G1 96 0 → yRel (yR σ G1) → w = 5 → (0 : Int) ≤ zW ((zW (7 * m)) + r) ∧ zW ((zW (7 * m)) + r) < (672 : Int))
    (o8 : 0 ≤ r ∧ r < 7 → 0 ≤ m ∧ m < 96 → ∀ G1 : zS, mRun σ G1 96 0 → yRel (yR σ G1) → w = 6 → (0 : Int) ≤ zW ((zW (7 * m)) + r) ∧ zW ((zW (7 * m)) + r) < (672 : Int))
    (h1 : 0 ≤ r ∧ r < 7 → 0 ≤ m ∧ m < 96 → ∀ G1 : zS, mRun σ G1 96 0 → yRel (yR σ G1) → w < 0 ∨ 6 < w → Q (some (.inl (-2))) (yR σ G1))
    (h2 : 0 ≤ r ∧ r < 7 → 0 ≤ m ∧ m < 96 → ∀ G1 : zS, mRun σ G1 96 0 → yRel (yR σ G1) → w = 0 → Q (some (.inl ((yR σ G1).1 78 0 ((zW ((zW (7 * m)) + r)).toNat)))) (yR σ G1))
    (h3 : 0 ≤ r ∧ r < 7 → 0 ≤ m ∧ m < 96 → ∀ G1 : zS, mRun σ G1 96 0 → yRel (yR σ G1) → w = 1 → Q (some (.inl ((yR σ G1).1 79 0 ((zW ((zW (7 * m)) + r)).toNat)))) (yR σ G1))
    (h4 : 0 ≤ r ∧ r < 7 → 0 ≤ m ∧ m < 96 → ∀ G1 : zS, mRun σ G1 96 0 → yRel (yR σ G1) → w = 2 → Q (some (.inl ((yR σ G1).1 80 0 ((zW ((zW (7 * m)) + r)).toNat)))) (yR σ G1))
    (h5 : 0 ≤ r ∧ r < 7 → 0 ≤ m ∧ m < 96 → ∀ G1 : zS, mRun σ G1 96 0 → yRel (yR σ G1) → w = 3 → Q (some (.inl ((yR σ G1).1 81 0 ((zW ((zW (7 * m)) + r)).toNat)))) (yR σ G1))
    (h6 : 0 ≤ r ∧ r < 7 → 0 ≤ m ∧ m < 96 → ∀ G1 : zS, mRun σ G1 96 0 → yRel (yR σ G1) → w = 4 → Q (some (.inl ((yR σ G1).1 82 0 ((zW ((zW (7 * m)) + r)).toNat)))) (yR σ G1))
    (h7 : 0 ≤ r ∧ r < 7 → 0 ≤ m ∧ m < 96 → ∀ G1 : zS, mRun σ G1 96 0 → yRel (yR σ G1) → w = 5 → Q (some (.inl (zW ((yR σ G1).2 83 0 ((zW ((zW (7 * m)) + r)).toNat))))) (yR σ G1))
    (h8 : 0 ≤ r ∧ r < 7 → 0 ≤ m ∧ m < 96 → ∀ G1 : zS, mRun σ G1 96 0 → yRel (yR σ G1) → w = 6 → Q (some (.inl (zW ((yR σ G1).2 84 0 ((zW ((zW (7 * m)) + r)).toNat))))) (yR σ G1))
    (h9 : 0 ≤ r ∧ r < 7 → ¬ (0 ≤ m ∧ m < 96) → Q (some (.inl (-2))) σ)
    (h10 : ¬ (0 ≤ r ∧ r < 7) → Q (some (.inl (-2))) σ) :
    zM (d + 7) 165 [.inr (.inr (10, 0)), .inl r, .inl m, .inl w] σ Q := by
  refine zX_run (n' := 1) (ls' := [some (.inr (.inr (10, 0))), some (.inl r), some (.inl m), some (.inl w), none]) (st' := [.inl r]) (σ' := σ) 1 rfl ?_
  refine zX_call rfl rfl ?_
  refine zs_119 (fun a1 => ?_) (fun a2 => ?_)
  · skip
    refine zX_run (n' := 4) (ls' := [some (.inr (.inr (10, 0))), some (.inl r), some (.inl m), some (.inl w), none]) (st' := [.inl m]) (σ' := σ) 2 rfl ?_
    refine zX_call rfl rfl ?_
    refine zs_120 (fun a3 => ?_) (fun a4 => ?_)
    · skip
      refine zX_run (n' := 9) (ls' := [some (.inr (.inr (10, 0))), some (.inl r), some (.inl m), some (.inl w), none]) (st' := [.inr (.inr (10, 0))]) (σ' := σ) 2 rfl ?_
      refine zX_call rfl rfl ?_
      refine ys_158 (o1 a1 a3) (fun G1 a5 a6 => ?_)
      · skip
        refine zX_run (n' := 17) (ls' := [some (.inr (.inr (10, 0))), some (.inl r), some (.inl m), some (.inl w), some (.inl (zW ((zW (7 * m)) + r)))]) (st' := [.inl w]) (σ' := (yR σ G1)) 7 rfl ?_
        refine zX_sw rfl (fun a7 => ?_) ⟨fun a7 => ?_, fun a7 => ?_, fun a7 => ?_, fun a7 => ?_, fun a7 => ?_, fun a7 => ?_, fun a7 => ?_, trivial⟩
        · skip
          refine zX_run (n' := 56) (ls' := [some (.inr (.inr (10, 0))), some (.inl r), some (.inl m), some (.inl w), some (.inl (zW ((zW (7 * m)) + r)))]) (st' := [.inl (-2)]) (σ' := (yR σ G1)) 1 rfl ?_
          exact zX_ret rfl rfl (h1 a1 a3 G1 a5 a6 a7)
        · skip
          refine zX_run (n' := 21) (ls' := [some (.inr (.inr (10, 0))), some (.inl r), some (.inl m), some (.inl w), some (.inl (zW ((zW (7 * m)) + r)))]) (st' := [.inl (zW ((zW (7 * m)) + r)), .inr (.inr (78, 0))]) (σ' := (yR σ G1)) 3 rfl ?_
          refine zX_ald1 (L := 672) rfl (by decide) rfl (o2 a1 a3 G1 a5 a6 a7) ?_
          exact zX_ret rfl rfl (h2 a1 a3 G1 a5 a6 a7)
        · skip
          refine zX_run (n' := 26) (ls' := [some (.inr (.inr (10, 0))), some (.inl r), some (.inl m), some (.inl w), some (.inl (zW ((zW (7 * m)) + r)))]) (st' := [.inl (zW ((zW (7 * m)) + r)), .inr (.inr (79, 0))]) (σ' := (yR σ G1)) 3 rfl ?_
          refine zX_ald1 (L := 672) rfl (by decide) rfl (o3 a1 a3 G1 a5 a6 a7) ?_
          exact zX_ret rfl rfl (h3 a1 a3 G1 a5 a6 a7)
        · skip
          refine zX_run (n' := 31) (ls' := [some (.inr (.inr (10, 0))), some (.inl r), some (.inl m), some (.inl w), some (.inl (zW ((zW (7 * m)) + r)))]) (st' := [.inl (zW ((zW (7 * m)) + r)), .inr (.inr (80, 0))]) (σ' := (yR σ G1)) 3 rfl ?_
          refine zX_ald1 (L := 672) rfl (by decide) rfl (o4 a1 a3 G1 a5 a6 a7) ?_
          exact zX_ret rfl rfl (h4 a1 a3 G1 a5 a6 a7)
        · skip
          refine zX_run (n' := 36) (ls' := [some (.inr (.inr (10, 0))), some (.inl r), some (.inl m), some (.inl w), some (.inl (zW ((zW (7 * m)) + r)))]) (st' := [.inl (zW ((zW (7 * m)) + r)), .inr (.inr (81, 0))]) (σ' := (yR σ G1)) 3 rfl ?_
          refine zX_ald1 (L := 672) rfl (by decide) rfl (o5 a1 a3 G1 a5 a6 a7) ?_
          exact zX_ret rfl rfl (h5 a1 a3 G1 a5 a6 a7)
        · skip
          refine zX_run (n' := 41) (ls' := [some (.inr (.inr (10, 0))), some (.inl r), some (.inl m), some (.inl w), some (.inl (zW ((zW (7 * m)) + r)))]) (st' := [.inl (zW ((zW (7 * m)) + r)), .inr (.inr (82, 0))]) (σ' := (yR σ G1)) 3 rfl ?_
          refine zX_ald1 (L := 672) rfl (by decide) rfl (o6 a1 a3 G1 a5 a6 a7) ?_
          exact zX_ret rfl rfl (h6 a1 a3 G1 a5 a6 a7)
        · skip
          refine zX_run (n' := 46) (ls' := [some (.inr (.inr (10, 0))), some (.inl r), some (.inl m), some (.inl w), some (.inl (zW ((zW (7 * m)) + r)))]) (st' := [.inl (zW ((zW (7 * m)) + r)), .inr (.inr (83, 0))]) (σ' := (yR σ G1)) 3 rfl ?_
          refine zX_ald2 (L := 672) rfl (by decide) rfl (o7 a1 a3 G1 a5 a6 a7) ?_
          refine zX_run (n' := 48) (ls' := [some (.inr (.inr (10, 0))), some (.inl r), some (.inl m), some (.inl w), some (.inl (zW ((zW (7 * m)) + r)))]) (st' := [.inl (zW ((yR σ G1).2 83 0 ((zW ((zW (7 * m)) + r)).toNat)))]) (σ' := (yR σ G1)) 1 rfl ?_
          exact zX_ret rfl rfl (h7 a1 a3 G1 a5 a6 a7)
        · skip
          refine zX_run (n' := 52) (ls' := [some (.inr (.inr (10, 0))), some (.inl r), some (.inl m), some (.inl w), some (.inl (zW ((zW (7 * m)) + r)))]) (st' := [.inl (zW ((zW (7 * m)) + r)), .inr (.inr (84, 0))]) (σ' := (yR σ G1)) 3 rfl ?_
          refine zX_ald2 (L := 672) rfl (by decide) rfl (o8 a1 a3 G1 a5 a6 a7) ?_
          refine zX_run (n' := 54) (ls' := [some (.inr (.inr (10, 0))), some (.inl r), some (.inl m), some (.inl w), some (.inl (zW ((zW (7 * m)) + r)))]) (st' := [.inl (zW ((yR σ G1).2 84 0 ((zW ((zW (7 * m)) + r)).toNat)))]) (σ' := (yR σ G1)) 1 rfl ?_
          exact zX_ret rfl rfl (h8 a1 a3 G1 a5 a6 a7)
    · skip
      refine zX_run (n' := 7) (ls' := [some (.inr (.inr (10, 0))), some (.inl r), some (.inl m), some (.inl w), none]) (st' := [.inl (-2)]) (σ' := σ) 2 rfl ?_
      exact zX_ret rfl rfl (h9 a1 a4)
  · skip
    refine zX_run (n' := 7) (ls' := [some (.inr (.inr (10, 0))), some (.inl r), some (.inl m), some (.inl w), none]) (st' := [.inl (-2)]) (σ' := σ) 2 rfl ?_
    exact zX_ret rfl rfl (h10 a2)
-- X9_lakeTold
theorem zb_87 {d : Nat} {σ : zS} {Q : Option zV → zS → Prop} {r : Int} {m : Int} {w : Int}
    (o1 : 0 ≤ r ∧ r ≤ 6 → 0 ≤ m ∧ m ≤ 95 → 0 ≤ w ∧ w ≤ 5 → (0 : Int) ≤ r ∧ r < (7 : Int))
    (o2 : 0 ≤ r ∧ r ≤ 6 → 0 ≤ m ∧ m ≤ 95 → 0 ≤ w ∧ w ≤ 5 → ¬ σ.1 3 (7 * 0 + r.toNat) 0 = 0 → (0 : Int) ≤ (zW (m + 1)) ∧ (zW (m + 1)) ≤ (96 : Int))
    (o3 : 0 ≤ r ∧ r ≤ 6 → 0 ≤ m ∧ m ≤ 95 → 0 ≤ w ∧ w ≤ 5 → ¬ σ.1 3 (7 * 0 + r.toNat) 0 = 0 → yRel σ)
    (o4 : 0 ≤ r ∧ r ≤ 6 → 0 ≤ m ∧ m ≤ 95 → 0 ≤ w ∧ w ≤ 5 → ¬ σ.1 3 (7 * 0 + r.toNat) 0 = 0 → ∀ G1 : Nat → Nat → Nat → Int, cWk (zG σ G1) 0 (mD σ) (zW (m + 1)) → yRel (zG σ G1) → cOth σ G1 0 → w < 0 ∨ 4 < w → (0 : Int) ≤ m ∧ m < (97 : Int))
    (o5 : 0 ≤ r ∧ r ≤ 6 → 0 ≤ m ∧ m ≤ 95 → 0 ≤ w ∧ w ≤ 5 → ¬ σ.1 3 (7 * 0 + r.toNat) 0 = 0 → ∀ G1 : Nat → Nat → Nat → Int, cWk (zG σ G1) 0 (mD σ) (zW (m + 1)) → yRel (zG σ G1) → cOth σ G1 0 → w = 0 → (0 : Int) ≤ m ∧ m < (97 : Int))
    (o6 : 0 ≤ r ∧ r ≤ 6 → 0 ≤ m ∧ m ≤ 95 → 0 ≤ w ∧ w ≤ 5 → ¬ σ.1 3 (7 * 0 + r.toNat) 0 = 0 → ∀ G1 : Nat → Nat → Nat → Int, cWk (zG σ G1) 0 (mD σ) (zW (m + 1)) → yRel (zG σ G1) → cOth σ G1 0 → w = 1 → 0 ≤ r ∧ r < 7)
    (o7 : 0 ≤ r ∧ r ≤ 6 → 0 ≤ m ∧ m ≤ 95 → 0 ≤ w ∧ w ≤ 5 → ¬ σ.1 3 (7 * 0 + r.toNat) 0 = 0 → ∀ G1 : Nat → Nat → Nat → Int, cWk (zG σ G1) 0 (mD σ) (zW (m + 1)) → yRel (zG σ G1) → cOth σ G1 0 → w = 1 → 0 ≤ m ∧ m < 97)
    (o8 : 0 ≤ r ∧ r ≤ 6 → 0 ≤ m ∧ m ≤ 95 → 0 ≤ w ∧ w ≤ 5 → ¬ σ.1 3 (7 * 0 + r.toNat) 0 = 0 → ∀ G1 : Nat → Nat → Nat → Int, cWk (zG σ G1) 0 (mD σ) (zW (m + 1)) → yRel (zG σ G1) → cOth σ G1 0 → w = 2 → (0 : Int) ≤ m ∧ m < (96 : Int))
    (o9 : 0 ≤ r ∧ r ≤ 6 → 0 ≤ m ∧ m ≤ 95 → 0 ≤ w ∧ w ≤ 5 → ¬ σ.1 3 (7 * 0 + r.toNat) 0 = 0 → ∀ G1 : Nat → Nat → Nat → Int, cWk (zG σ G1) 0 (mD σ) (zW (m + 1)) → yRel (zG σ G1) → cOth σ G1 0 → w = 3 → 0 ≤ r ∧ r < 7)
    (o10 : 0 ≤ r ∧ r ≤ 6 → 0 ≤ m ∧ m ≤ 95 → 0 ≤ w ∧ w ≤ 5 → ¬ σ.1 3 (7 * 0 + r.toNat) 0 = 0 → ∀ G1 : Nat → Nat → Nat → Int, cWk (zG σ G1) 0 (mD σ) (zW (m + 1)) → yRel (zG σ G1) → cOth σ G1 0 → w = 3 → 0 ≤ m ∧ m < 97)
    (o11 : 0 ≤ r ∧ r ≤ 6 → 0 ≤ m ∧ m ≤ 95 → 0 ≤ w ∧ w ≤ 5 → ¬ σ.1 3 (7 * 0 + r.toNat) 0 = 0 → ∀ G1 : Nat → Nat → Nat → Int, cWk (zG σ G1) 0 (mD σ) (zW (m + 1)) → yRel (zG σ G1) → cOth σ G1 0 → w = 4 → 0 ≤ r ∧ r < 7)
    (o12 : 0 ≤ r ∧ r ≤ 6 → 0 ≤ m ∧ m ≤ 95 → 0 ≤ w ∧ w ≤ 5 → ¬ σ.1 3 (7 * 0 + r.toNat) 0 = 0 → ∀ G1 : Nat → Nat → Nat → Int, cWk (zG σ G1) 0 (mD σ) (zW (m + 1)) → yRel (zG σ G1) → cOth σ G1 0 → w = 4 → 0 ≤ m ∧ m < 96)
    (h1 : 0 ≤ r ∧ r ≤ 6 → 0 ≤ m ∧ m ≤ 95 → 0 ≤ w ∧ w ≤ 5 → ¬ σ.1 3 (7 * 0 + r.toNat) 0 = 0 → ∀ G1 : Nat → Nat → Nat → Int, cWk (zG σ G1) 0 (mD σ) (zW (m + 1)) → yRel (zG σ G1) → cOth σ G1 0 → w < 0 ∨ 4 < w → Q (some (.inl ((zG σ G1).1 27 (7 * 0 + r.toNat) (m.toNat)))) (zG σ G1))
    (h2 : 0 ≤ r ∧ r ≤ 6 → 0 ≤ m ∧ m ≤ 95 → 0 ≤ w ∧ w ≤ 5 → ¬ σ.1 3 (7 * 0 + r.toNat) 0 = 0 → ∀ G1 : Nat → Nat → Nat → Int, cWk (zG σ G1) 0 (mD σ) (zW (m + 1)) → yRel (zG σ G1) → cOth σ G1 0 → w = 0 → Q (some (.inl ((zG σ G1).1 26 (7 * 0 + r.toNat) (m.toNat)))) (zG σ G1))
    (h3 : 0 ≤ r ∧ r ≤ 6 → 0 ≤ m ∧ m ≤ 95 → 0 ≤ w ∧ w ≤ 5 → ¬ σ.1 3 (7 * 0 + r.toNat) 0 = 0 → ∀ G1 : Nat → Nat → Nat → Int, cWk (zG σ G1) 0 (mD σ) (zW (m + 1)) → yRel (zG σ G1) → cOth σ G1 0 → w = 1 → Q (some (.inl (cStm (zG σ G1) 0 r.toNat m.toNat))) (zG σ G1))
    (h4 : 0 ≤ r ∧ r ≤ 6 → 0 ≤ m ∧ m ≤ 95 → 0 ≤ w ∧ w ≤ 5 → ¬ σ.1 3 (7 * 0 + r.toNat) 0 = 0 → ∀ G1 : Nat → Nat → Nat → Int, cWk (zG σ G1) 0 (mD σ) (zW (m + 1)) → yRel (zG σ G1) → cOth σ G1 0 → w = 2 → Q (some (.inl ((zG σ G1).1 21 (7 * 0 + r.toNat) (m.toNat)))) (zG σ G1))
    (h5 : 0 ≤ r ∧ r ≤ 6 → 0 ≤ m ∧ m ≤ 95 → 0 ≤ w ∧ w ≤ 5 → ¬ σ.1 3 (7 * 0 + r.toNat) 0 = 0 → ∀ G1 : Nat → Nat → Nat → Int, cWk (zG σ G1) 0 (mD σ) (zW (m + 1)) → yRel (zG σ G1) → cOth σ G1 0 → w = 3 → Q (some (.inl (cHead (zG σ G1) 0 r.toNat m.toNat))) (zG σ G1))
    (h6 : 0 ≤ r ∧ r ≤ 6 → 0 ≤ m ∧ m ≤ 95 → 0 ≤ w ∧ w ≤ 5 → ¬ σ.1 3 (7 * 0 + r.toNat) 0 = 0 → ∀ G1 : Nat → Nat → Nat → Int, cWk (zG σ G1) 0 (mD σ) (zW (m + 1)) → yRel (zG σ G1) → cOth σ G1 0 → w = 4 → Q (some (.inl (cPow (zG σ G1) 0 r.toNat m.toNat))) (zG σ G1))
    (h7 : 0 ≤ r ∧ r ≤ 6 → 0 ≤ m ∧ m ≤ 95 → 0 ≤ w ∧ w ≤ 5 → σ.1 3 (7 * 0 + r.toNat) 0 = 0 → Q (some (.inl (-5))) σ)
    (h8 : 0 ≤ r ∧ r ≤ 6 → 0 ≤ m ∧ m ≤ 95 → ¬ (0 ≤ w ∧ w ≤ 5) → Q (some (.inl (-2))) σ)
    (h9 : 0 ≤ r ∧ r ≤ 6 → ¬ (0 ≤ m ∧ m ≤ 95) → Q (some (.inl (-2))) σ)
    (h10 : ¬ (0 ≤ r ∧ r ≤ 6) → Q (some (.inl (-2))) σ) :
    zM (d + 15) 87 [.inr (.inr (9, 0)), .inl r, .inl m, .inl w] σ Q := by
  refine zX_run (n' := 1) (ls' := [some (.inr (.inr (9, 0))), some (.inl r), some (.inl m), some (.inl w), none]) (st' := [.inl r]) (σ' := σ) 1 rfl ?_
  refine zX_call rfl rfl ?_
  refine zs_105 (fun a1 => ?_) (fun a2 => ?_)
  · skip
    refine zX_run (n' := 4) (ls' := [some (.inr (.inr (9, 0))), some (.inl r), some (.inl m), some (.inl w), none]) (st' := [.inl m]) (σ' := σ) 2 rfl ?_
    refine zX_call rfl rfl ?_
    refine zs_106 (fun a3 => ?_) (fun a4 => ?_)
    · skip
      refine zX_run (n' := 9) (ls' := [some (.inr (.inr (9, 0))), some (.inl r), some (.inl m), some (.inl w), none]) (st' := [.inl 5, .inl 0, .inl w]) (σ' := σ) 4 rfl ?_
      refine zX_call rfl rfl ?_
      refine zs_104 (fun a5 => ?_) (fun a6 => ?_)
      · skip
        refine zX_run (n' := 17) (ls' := [some (.inr (.inr (9, 0))), some (.inl r), some (.inl m), some (.inl w), none]) (st' := [.inl r, .inr (.inr (38, 0))]) (σ' := σ) 5 rfl ?_
        refine zX_ald5 (L := 7) rfl (by decide) rfl (o1 a1 a3 a5) ?_
        refine zX_run (n' := 19) (ls' := [some (.inr (.inr (9, 0))), some (.inl r), some (.inl m), some (.inl w), none]) (st' := [.inl (σ.1 3 (7 * 0 + r.toNat) 0)]) (σ' := σ) 1 rfl ?_
        refine zX_i1 rfl (fun a7 => ?_) (fun a7 => ?_)
        · skip
          refine zX_run (n' := 27) (ls' := [some (.inr (.inr (9, 0))), some (.inl r), some (.inl m), some (.inl w), none]) (st' := [.inl (zW (m + 1)), .inr (.inr (0, 0))]) (σ' := σ) 5 rfl ?_
          refine zX_call rfl rfl ?_
          refine ys_2 (o2 a1 a3 a5 a7) (o3 a1 a3 a5 a7) (fun G1 a8 a9 a10 => ?_)
          · skip
            refine zX_run (n' := 32) (ls' := [some (.inr (.inr (9, 0))), some (.inl r), some (.inl m), some (.inl w), none]) (st' := [.inl r, .inr (.inr (11, 0))]) (σ' := (zG σ G1)) 4 rfl ?_
            refine zX_ald5 (L := 7) rfl (by decide) rfl (o1 a1 a3 a5) ?_
            refine zX_run (n' := 35) (ls' := [some (.inr (.inr (9, 0))), some (.inl r), some (.inl m), some (.inl w), some (.inr (.inr (4, 7 * 0 + r.toNat)))]) (st' := [.inl w]) (σ' := (zG σ G1)) 2 rfl ?_
            refine zX_sw rfl (fun a11 => ?_) ⟨fun a11 => ?_, fun a11 => ?_, fun a11 => ?_, fun a11 => ?_, fun a11 => ?_, trivial⟩
            · skip
              refine zX_run (n' := 67) (ls' := [some (.inr (.inr (9, 0))), some (.inl r), some (.inl m), some (.inl w), some (.inr (.inr (4, 7 * 0 + r.toNat)))]) (st' := [.inl m, .inr (.inr (27, 7 * 0 + r.toNat))]) (σ' := (zG σ G1)) 3 rfl ?_
              refine zX_ald1 (L := 97) rfl (by decide) rfl (o4 a1 a3 a5 a7 G1 a8 a9 a10 a11) ?_
              exact zX_ret rfl rfl (h1 a1 a3 a5 a7 G1 a8 a9 a10 a11)
            · skip
              refine zX_run (n' := 39) (ls' := [some (.inr (.inr (9, 0))), some (.inl r), some (.inl m), some (.inl w), some (.inr (.inr (4, 7 * 0 + r.toNat)))]) (st' := [.inl m, .inr (.inr (26, 7 * 0 + r.toNat))]) (σ' := (zG σ G1)) 3 rfl ?_
              refine zX_ald1 (L := 97) rfl (by decide) rfl (o5 a1 a3 a5 a7 G1 a8 a9 a10 a11) ?_
              exact zX_ret rfl rfl (h2 a1 a3 a5 a7 G1 a8 a9 a10 a11)
            · skip
              refine zX_run (n' := 45) (ls' := [some (.inr (.inr (9, 0))), some (.inl r), some (.inl m), some (.inl w), some (.inr (.inr (4, 7 * 0 + r.toNat)))]) (st' := [.inl m, .inl r, .inr (.inr (0, 0))]) (σ' := (zG σ G1)) 4 rfl ?_
              refine zX_call rfl rfl ?_
              refine zs_17 (o6 a1 a3 a5 a7 G1 a8 a9 a10 a11) (o7 a1 a3 a5 a7 G1 a8 a9 a10 a11) ?_
              · skip
                exact zX_ret rfl rfl (h3 a1 a3 a5 a7 G1 a8 a9 a10 a11)
            · skip
              refine zX_run (n' := 50) (ls' := [some (.inr (.inr (9, 0))), some (.inl r), some (.inl m), some (.inl w), some (.inr (.inr (4, 7 * 0 + r.toNat)))]) (st' := [.inl m, .inr (.inr (21, 7 * 0 + r.toNat))]) (σ' := (zG σ G1)) 3 rfl ?_
              refine zX_ald1 (L := 96) rfl (by decide) rfl (o8 a1 a3 a5 a7 G1 a8 a9 a10 a11) ?_
              exact zX_ret rfl rfl (h4 a1 a3 a5 a7 G1 a8 a9 a10 a11)
            · skip
              refine zX_run (n' := 56) (ls' := [some (.inr (.inr (9, 0))), some (.inl r), some (.inl m), some (.inl w), some (.inr (.inr (4, 7 * 0 + r.toNat)))]) (st' := [.inl m, .inl r, .inr (.inr (0, 0))]) (σ' := (zG σ G1)) 4 rfl ?_
              refine zX_call rfl rfl ?_
              refine zs_18 (o9 a1 a3 a5 a7 G1 a8 a9 a10 a11) (o10 a1 a3 a5 a7 G1 a8 a9 a10 a11) ?_
              · skip
                exact zX_ret rfl rfl (h5 a1 a3 a5 a7 G1 a8 a9 a10 a11)
            · skip
              refine zX_run (n' := 62) (ls' := [some (.inr (.inr (9, 0))), some (.inl r), some (.inl m), some (.inl w), some (.inr (.inr (4, 7 * 0 + r.toNat)))]) (st' := [.inl m, .inl r, .inr (.inr (0, 0))]) (σ' := (zG σ G1)) 4 rfl ?_
              refine zX_call rfl rfl ?_
              refine zs_19 (o11 a1 a3 a5 a7 G1 a8 a9 a10 a11) (o12 a1 a3 a5 a7 G1 a8 a9 a10 a11) ?_
              · skip
                exact zX_ret rfl rfl (h6 a1 a3 a5 a7 G1 a8 a9 a10 a11)
        · skip
          refine zX_run (n' := 21) (ls' := [some (.inr (.inr (9, 0))), some (.inl r), some (.inl m), some (.inl w), none]) (st' := [.inl (-5)]) (σ' := σ) 1 rfl ?_
          exact zX_ret rfl rfl (h7 a1 a3 a5 a7)
      · skip
        refine zX_run (n' := 12) (ls' := [some (.inr (.inr (9, 0))), some (.inl r), some (.inl m), some (.inl w), none]) (st' := [.inl (-2)]) (σ' := σ) 2 rfl ?_
        exact zX_ret rfl rfl (h8 a1 a3 a6)
    · skip
      refine zX_run (n' := 12) (ls' := [some (.inr (.inr (9, 0))), some (.inl r), some (.inl m), some (.inl w), none]) (st' := [.inl (-2)]) (σ' := σ) 2 rfl ?_
      exact zX_ret rfl rfl (h9 a1 a4)
  · skip
    refine zX_run (n' := 12) (ls' := [some (.inr (.inr (9, 0))), some (.inl r), some (.inl m), some (.inl w), none]) (st' := [.inl (-2)]) (σ' := σ) 2 rfl ?_
    exact zX_ret rfl rfl (h10 a2)
-- X10_lakeTold
theorem zb_166 {d : Nat} {σ : zS} {Q : Option zV → zS → Prop} {r : Int} {m : Int} {w : Int}
    (o1 : 0 ≤ r ∧ r < 7 → 0 ≤ m ∧ m < 96 → ¬ w < 0 → w ≤ 5 → (0 : Int) ≤ r ∧ r < (7 : Int))
    (o2 : 0 ≤ r ∧ r < 7 → 0 ≤ m ∧ m < 96 → ¬ w < 0 → w ≤ 5 → ¬ σ.1 55 0 (r.toNat) = 0 → yRel σ)
    (o3 : 0 ≤ r ∧ r < 7 → 0 ≤ m ∧ m < 96 → ¬ w < 0 → w ≤ 5 → ¬ σ.1 55 0 (r.toNat) = 0 → ∀ G1 : zS, mRun σ G1 96 0 → yRel (yR σ G1) → w < 0 ∨ 4 < w → (0 : Int) ≤ zW ((zW (7 * m)) + r) ∧ zW ((zW (7 * m)) + r) < (672 : Int))
    (o4 : 0 ≤ r ∧ r < 7 → 0 ≤ m ∧ m < 96 → ¬ w < 0 → w ≤ 5 → ¬ σ.1 55 0 (r.toNat) = 0 → ∀ G1 : zS, mRun σ G1 96 0 → yRel (yR σ G1) → w = 0 → (0 : Int) ≤ zW ((zW (7 * m)) + r) ∧ zW ((zW (7 * m)) + r) < (672 : Int))
    (o5 : 0 ≤ r ∧ r < 7 → 0 ≤ m ∧ m < 96 → ¬ w < 0 → w ≤ 5 → ¬ σ.1 55 0 (r.toNat) = 0 → ∀ G1 : zS, mRun σ G1 96 0 → yRel (yR σ G1) → w = 1 → (0 : Int) ≤ zW ((zW (7 * m)) + r) ∧ zW ((zW (7 * m)) + r) < (672 : Int))
    (o6 : 0 ≤ r ∧ r < 7 → 0 ≤ m ∧ m < 96 → ¬ w < 0 → w ≤ 5 → ¬ σ.1 55 0 (r.toNat) = 0 → ∀ G1 : zS, mRun σ G1 96 0 → yRel (yR σ G1) → w = 2 → (0 : Int) ≤ zW ((zW (7 * m)) + r) ∧ zW ((zW (7 * m)) + r) < (672 : Int))
    (o7 : 0 ≤ r ∧ r < 7 → 0 ≤ m ∧ m < 96 → ¬ w < 0 → w ≤ 5 → ¬ σ.1 55 0 (r.toNat) = 0 → ∀ G1 : zS, mRun σ G1 96 0 → yRel (yR σ G1) → w = 3 → (0 : Int) ≤ zW ((zW (7 * m)) + r) ∧ zW ((zW (7 * m)) + r) < (672 : Int))
    (o8 : 0 ≤ r ∧ r < 7 → 0 ≤ m ∧ m < 96 → ¬ w < 0 → w ≤ 5 → ¬ σ.1 55 0 (r.toNat) = 0 → ∀ G1 : zS, mRun σ G1 96 0 → yRel (yR σ G1) → w = 4 → (0 : Int) ≤ zW ((zW (7 * m)) + r) ∧ zW ((zW (7 * m)) + r) < (672 : Int))
    (h1 : 0 ≤ r ∧ r < 7 → 0 ≤ m ∧ m < 96 → w < 0 → Q (some (.inl (-2))) σ)
    (h2 : 0 ≤ r ∧ r < 7 → 0 ≤ m ∧ m < 96 → ¬ w < 0 → w ≤ 5 → ¬ σ.1 55 0 (r.toNat) = 0 → ∀ G1 : zS, mRun σ G1 96 0 → yRel (yR σ G1) → w < 0 ∨ 4 < w → Q (some (.inl (zW ((yR σ G1).2 85 0 ((zW ((zW (7 * m)) + r)).toNat))))) (yR σ G1))
    (h3 : 0 ≤ r ∧ r < 7 → 0 ≤ m ∧ m < 96 → ¬ w < 0 → w ≤ 5 → ¬ σ.1 55 0 (r.toNat) = 0 → ∀ G1 : zS, mRun σ G1 96 0 → yRel (yR σ G1) → w = 0 → Q (some (.inl ((yR σ G1).1 87 0 ((zW ((zW (7 * m)) + r)).toNat)))) (yR σ G1))
    (h4 : 0 ≤ r ∧ r < 7 → 0 ≤ m ∧ m < 96 → ¬ w < 0 → w ≤ 5 → ¬ σ.1 55 0 (r.toNat) = 0 → ∀ G1 : zS, mRun σ G1 96 0 → yRel (yR σ G1) → w = 1 → Q (some (.inl ((yR σ G1).1 88 0 ((zW ((zW (7 * m)) + r)).toNat)))) (yR σ G1))
    (h5 : 0 ≤ r ∧ r < 7 → 0 ≤ m ∧ m < 96 → ¬ w < 0 → w ≤ 5 → ¬ σ.1 55 0 (r.toNat) = 0 → ∀ G1 : zS, mRun σ G1 96 0 → yRel (yR σ G1) → w = 2 → Q (some (.inl ((yR σ G1).1 89 0 ((zW ((zW (7 * m)) + r)).toNat)))) (yR σ G1))
    (h6 : 0 ≤ r ∧ r < 7 → 0 ≤ m ∧ m < 96 → ¬ w < 0 → w ≤ 5 → ¬ σ.1 55 0 (r.toNat) = 0 → ∀ G1 : zS, mRun σ G1 96 0 → yRel (yR σ G1) → w = 3 → Q (some (.inl ((yR σ G1).1 90 0 ((zW ((zW (7 * m)) + r)).toNat)))) (yR σ G1))
    (h7 : 0 ≤ r ∧ r < 7 → 0 ≤ m ∧ m < 96 → ¬ w < 0 → w ≤ 5 → ¬ σ.1 55 0 (r.toNat) = 0 → ∀ G1 : zS, mRun σ G1 96 0 → yRel (yR σ G1) → w = 4 → Q (some (.inl (zW ((yR σ G1).2 86 0 ((zW ((zW (7 * m)) + r)).toNat))))) (yR σ G1))
    (h8 : 0 ≤ r ∧ r < 7 → 0 ≤ m ∧ m < 96 → ¬ w < 0 → w ≤ 5 → σ.1 55 0 (r.toNat) = 0 → Q (some (.inl (-5))) σ)
    (h9 : 0 ≤ r ∧ r < 7 → 0 ≤ m ∧ m < 96 → ¬ w < 0 → ¬ w ≤ 5 → Q (some (.inl (-2))) σ)
    (h10 : 0 ≤ r ∧ r < 7 → ¬ (0 ≤ m ∧ m < 96) → Q (some (.inl (-2))) σ)
    (h11 : ¬ (0 ≤ r ∧ r < 7) → Q (some (.inl (-2))) σ) :
    zM (d + 7) 166 [.inr (.inr (10, 0)), .inl r, .inl m, .inl w] σ Q := by
  refine zX_run (n' := 1) (ls' := [some (.inr (.inr (10, 0))), some (.inl r), some (.inl m), some (.inl w), none]) (st' := [.inl r]) (σ' := σ) 1 rfl ?_
  refine zX_call rfl rfl ?_
  refine zs_119 (fun a1 => ?_) (fun a2 => ?_)
  · skip
    refine zX_run (n' := 4) (ls' := [some (.inr (.inr (10, 0))), some (.inl r), some (.inl m), some (.inl w), none]) (st' := [.inl m]) (σ' := σ) 2 rfl ?_
    refine zX_call rfl rfl ?_
    refine zs_120 (fun a3 => ?_) (fun a4 => ?_)
    · skip
      refine zX_run (n' := 7) (ls' := [some (.inr (.inr (10, 0))), some (.inl r), some (.inl m), some (.inl w), none]) (st' := [.inl w]) (σ' := σ) 2 rfl ?_
      refine zX_i2 rfl (fun a5 => ?_) (fun a5 => ?_)
      · skip
        refine zX_run (n' := 12) (ls' := [some (.inr (.inr (10, 0))), some (.inl r), some (.inl m), some (.inl w), none]) (st' := [.inl (-2)]) (σ' := σ) 1 rfl ?_
        exact zX_ret rfl rfl (h1 a1 a3 a5)
      · skip
        refine zX_run (n' := 10) (ls' := [some (.inr (.inr (10, 0))), some (.inl r), some (.inl m), some (.inl w), none]) (st' := [.inl 5, .inl w]) (σ' := σ) 2 rfl ?_
        refine zX_c5 rfl (fun a6 => ?_) (fun a6 => ?_)
        · skip
          refine zX_run (n' := 16) (ls' := [some (.inr (.inr (10, 0))), some (.inl r), some (.inl m), some (.inl w), none]) (st' := [.inl r, .inr (.inr (55, 0))]) (σ' := σ) 3 rfl ?_
          refine zX_ald4 (L := 7) rfl (by decide) rfl (o1 a1 a3 a5 a6) ?_
          refine zX_i1 rfl (fun a7 => ?_) (fun a7 => ?_)
          · skip
            refine zX_run (n' := 21) (ls' := [some (.inr (.inr (10, 0))), some (.inl r), some (.inl m), some (.inl w), none]) (st' := [.inr (.inr (10, 0))]) (σ' := σ) 1 rfl ?_
            refine zX_call rfl rfl ?_
            refine ys_158 (o2 a1 a3 a5 a6 a7) (fun G1 a8 a9 => ?_)
            · skip
              refine zX_run (n' := 29) (ls' := [some (.inr (.inr (10, 0))), some (.inl r), some (.inl m), some (.inl w), some (.inl (zW ((zW (7 * m)) + r)))]) (st' := [.inl w]) (σ' := (yR σ G1)) 7 rfl ?_
              refine zX_sw rfl (fun a10 => ?_) ⟨fun a10 => ?_, fun a10 => ?_, fun a10 => ?_, fun a10 => ?_, fun a10 => ?_, trivial⟩
              · skip
                refine zX_run (n' := 59) (ls' := [some (.inr (.inr (10, 0))), some (.inl r), some (.inl m), some (.inl w), some (.inl (zW ((zW (7 * m)) + r)))]) (st' := [.inl (zW ((zW (7 * m)) + r)), .inr (.inr (85, 0))]) (σ' := (yR σ G1)) 3 rfl ?_
                refine zX_ald2 (L := 672) rfl (by decide) rfl (o3 a1 a3 a5 a6 a7 G1 a8 a9 a10) ?_
                refine zX_run (n' := 61) (ls' := [some (.inr (.inr (10, 0))), some (.inl r), some (.inl m), some (.inl w), some (.inl (zW ((zW (7 * m)) + r)))]) (st' := [.inl (zW ((yR σ G1).2 85 0 ((zW ((zW (7 * m)) + r)).toNat)))]) (σ' := (yR σ G1)) 1 rfl ?_
                exact zX_ret rfl rfl (h2 a1 a3 a5 a6 a7 G1 a8 a9 a10)
              · skip
                refine zX_run (n' := 33) (ls' := [some (.inr (.inr (10, 0))), some (.inl r), some (.inl m), some (.inl w), some (.inl (zW ((zW (7 * m)) + r)))]) (st' := [.inl (zW ((zW (7 * m)) + r)), .inr (.inr (87, 0))]) (σ' := (yR σ G1)) 3 rfl ?_
                refine zX_ald1 (L := 672) rfl (by decide) rfl (o4 a1 a3 a5 a6 a7 G1 a8 a9 a10) ?_
                exact zX_ret rfl rfl (h3 a1 a3 a5 a6 a7 G1 a8 a9 a10)
              · skip
                refine zX_run (n' := 38) (ls' := [some (.inr (.inr (10, 0))), some (.inl r), some (.inl m), some (.inl w), some (.inl (zW ((zW (7 * m)) + r)))]) (st' := [.inl (zW ((zW (7 * m)) + r)), .inr (.inr (88, 0))]) (σ' := (yR σ G1)) 3 rfl ?_
                refine zX_ald1 (L := 672) rfl (by decide) rfl (o5 a1 a3 a5 a6 a7 G1 a8 a9 a10) ?_
                exact zX_ret rfl rfl (h4 a1 a3 a5 a6 a7 G1 a8 a9 a10)
              · skip
                refine zX_run (n' := 43) (ls' := [some (.inr (.inr (10, 0))), some (.inl r), some (.inl m), some (.inl w), some (.inl (zW ((zW (7 * m)) + r)))]) (st' := [.inl (zW ((zW (7 * m)) + r)), .inr (.inr (89, 0))]) (σ' := (yR σ G1)) 3 rfl ?_
                refine zX_ald1 (L := 672) rfl (by decide) rfl (o6 a1 a3 a5 a6 a7 G1 a8 a9 a10) ?_
                exact zX_ret rfl rfl (h5 a1 a3 a5 a6 a7 G1 a8 a9 a10)
              · skip
                refine zX_run (n' := 48) (ls' := [some (.inr (.inr (10, 0))), some (.inl r), some (.inl m), some (.inl w), some (.inl (zW ((zW (7 * m)) + r)))]) (st' := [.inl (zW ((zW (7 * m)) + r)), .inr (.inr (90, 0))]) (σ' := (yR σ G1)) 3 rfl ?_
                refine zX_ald1 (L := 672) rfl (by decide) rfl (o7 a1 a3 a5 a6 a7 G1 a8 a9 a10) ?_
                exact zX_ret rfl rfl (h6 a1 a3 a5 a6 a7 G1 a8 a9 a10)
              · skip
                refine zX_run (n' := 53) (ls' := [some (.inr (.inr (10, 0))), some (.inl r), some (.inl m), some (.inl w), some (.inl (zW ((zW (7 * m)) + r)))]) (st' := [.inl (zW ((zW (7 * m)) + r)), .inr (.inr (86, 0))]) (σ' := (yR σ G1)) 3 rfl ?_
                refine zX_ald2 (L := 672) rfl (by decide) rfl (o8 a1 a3 a5 a6 a7 G1 a8 a9 a10) ?_
                refine zX_run (n' := 55) (ls' := [some (.inr (.inr (10, 0))), some (.inl r), some (.inl m), some (.inl w), some (.inl (zW ((zW (7 * m)) + r)))]) (st' := [.inl (zW ((yR σ G1).2 86 0 ((zW ((zW (7 * m)) + r)).toNat)))]) (σ' := (yR σ G1)) 1 rfl ?_
                exact zX_ret rfl rfl (h7 a1 a3 a5 a6 a7 G1 a8 a9 a10)
          · skip
            refine zX_run (n' := 19) (ls' := [some (.inr (.inr (10, 0))), some (.inl r), some (.inl m), some (.inl w), none]) (st' := [.inl (-5)]) (σ' := σ) 1 rfl ?_
            exact zX_ret rfl rfl (h8 a1 a3 a5 a6 a7)
        · skip
          refine zX_run (n' := 12) (ls' := [some (.inr (.inr (10, 0))), some (.inl r), some (.inl m), some (.inl w), none]) (st' := [.inl (-2)]) (σ' := σ) 1 rfl ?_
          exact zX_ret rfl rfl (h9 a1 a3 a5 a6)
    · skip
      refine zX_run (n' := 12) (ls' := [some (.inr (.inr (10, 0))), some (.inl r), some (.inl m), some (.inl w), none]) (st' := [.inl (-2)]) (σ' := σ) 2 rfl ?_
      exact zX_ret rfl rfl (h10 a1 a4)
  · skip
    refine zX_run (n' := 12) (ls' := [some (.inr (.inr (10, 0))), some (.inl r), some (.inl m), some (.inl w), none]) (st' := [.inl (-2)]) (σ' := σ) 2 rfl ?_
    exact zX_ret rfl rfl (h11 a2)
-- X9_sharp
theorem zb_88 {d : Nat} {σ : zS} {Q : Option zV → zS → Prop} {m : Int}
    (o1 : 0 ≤ m ∧ m ≤ 95 → (0 : Int) ≤ (zW (m + 1)) ∧ (zW (m + 1)) ≤ (96 : Int))
    (o2 : 0 ≤ m ∧ m ≤ 95 → yRel σ)
    (o3 : 0 ≤ m ∧ m ≤ 95 → ∀ G1 : Nat → Nat → Nat → Int, cWk (zG σ G1) 0 (mD σ) (zW (m + 1)) → yRel (zG σ G1) → cOth σ G1 0 → 0 ≤ m ∧ m < 96)
    (h1 : 0 ≤ m ∧ m ≤ 95 → ∀ G1 : Nat → Nat → Nat → Int, cWk (zG σ G1) 0 (mD σ) (zW (m + 1)) → yRel (zG σ G1) → cOth σ G1 0 → Q (some (.inl (cSharp (zG σ G1) 0 m.toNat))) (zG σ G1))
    (h2 : ¬ (0 ≤ m ∧ m ≤ 95) → Q (some (.inl (-2))) σ) :
    zM (d + 15) 88 [.inr (.inr (9, 0)), .inl m] σ Q := by
  refine zX_run (n' := 1) (ls' := [some (.inr (.inr (9, 0))), some (.inl m)]) (st' := [.inl m]) (σ' := σ) 1 rfl ?_
  refine zX_call rfl rfl ?_
  refine zs_106 (fun a1 => ?_) (fun a2 => ?_)
  · skip
    refine zX_run (n' := 10) (ls' := [some (.inr (.inr (9, 0))), some (.inl m)]) (st' := [.inl (zW (m + 1)), .inr (.inr (0, 0))]) (σ' := σ) 6 rfl ?_
    refine zX_call rfl rfl ?_
    refine ys_2 (o1 a1) (o2 a1) (fun G1 a3 a4 a5 => ?_)
    · skip
      refine zX_run (n' := 14) (ls' := [some (.inr (.inr (9, 0))), some (.inl m)]) (st' := [.inl m, .inr (.inr (0, 0))]) (σ' := (zG σ G1)) 3 rfl ?_
      refine zX_call rfl rfl ?_
      refine zs_20 (o3 a1 G1 a3 a4 a5) ?_
      · skip
        exact zX_ret rfl rfl (h1 a1 G1 a3 a4 a5)
  · skip
    refine zX_run (n' := 4) (ls' := [some (.inr (.inr (9, 0))), some (.inl m)]) (st' := [.inl (-2)]) (σ' := σ) 2 rfl ?_
    exact zX_ret rfl rfl (h2 a2)
-- X10_sharp
theorem zb_168 {d : Nat} {σ : zS} {Q : Option zV → zS → Prop} {m : Int}
    (o1 : 0 ≤ m ∧ m < 96 → yRel σ)
    (o2 : 0 ≤ m ∧ m < 96 → ∀ G1 : zS, mRun σ G1 96 0 → yRel (yR σ G1) → (0 : Int) ≤ zW ((zW (7 * m)) + 6) ∧ zW ((zW (7 * m)) + 6) < (672 : Int))
    (o3 : 0 ≤ m ∧ m < 96 → ∀ G1 : zS, mRun σ G1 96 0 → yRel (yR σ G1) → ¬ (yR σ G1).1 82 0 ((zW ((zW (7 * m)) + 6)).toNat) = 0 → (0 : Int) ≤ zW ((zW (7 * m)) + 6) ∧ zW ((zW (7 * m)) + 6) < (672 : Int))
    (o4 : 0 ≤ m ∧ m < 96 → ∀ G1 : zS, mRun σ G1 96 0 → yRel (yR σ G1) → ¬ (yR σ G1).1 82 0 ((zW ((zW (7 * m)) + 6)).toNat) = 0 → (yR σ G1).1 82 0 ((zW ((zW (7 * m)) + 6)).toNat) ≠ 0)
    (h1 : 0 ≤ m ∧ m < 96 → ∀ G1 : zS, mRun σ G1 96 0 → yRel (yR σ G1) → ¬ (yR σ G1).1 82 0 ((zW ((zW (7 * m)) + 6)).toNat) = 0 → 1000000 < zWl ((zWl (((yR σ G1).2 84 0 ((zW ((zW (7 * m)) + 6)).toNat)) * 1000)).tdiv ((yR σ G1).1 82 0 ((zW ((zW (7 * m)) + 6)).toNat))) → Q (some (.inl 1000000)) (yR σ G1))
    (h2 : 0 ≤ m ∧ m < 96 → ∀ G1 : zS, mRun σ G1 96 0 → yRel (yR σ G1) → ¬ (yR σ G1).1 82 0 ((zW ((zW (7 * m)) + 6)).toNat) = 0 → zWl ((zWl (((yR σ G1).2 84 0 ((zW ((zW (7 * m)) + 6)).toNat)) * 1000)).tdiv ((yR σ G1).1 82 0 ((zW ((zW (7 * m)) + 6)).toNat))) = 1000000 → Q (some (.inl (zW (zWl ((zWl (((yR σ G1).2 84 0 ((zW ((zW (7 * m)) + 6)).toNat)) * 1000)).tdiv ((yR σ G1).1 82 0 ((zW ((zW (7 * m)) + 6)).toNat))))))) (yR σ G1))
    (h3 : 0 ≤ m ∧ m < 96 → ∀ G1 : zS, mRun σ G1 96 0 → yRel (yR σ G1) → ¬ (yR σ G1).1 82 0 ((zW ((zW (7 * m)) + 6)).toNat) = 0 → zWl ((zWl (((yR σ G1).2 84 0 ((zW ((zW (7 * m)) + 6)).toNat)) * 1000)).tdiv ((yR σ G1).1 82 0 ((zW ((zW (7 * m)) + 6)).toNat))) < 1000000 → Q (some (.inl (zW (zWl ((zWl (((yR σ G1).2 84 0 ((zW ((zW (7 * m)) + 6)).toNat)) * 1000)).tdiv ((yR σ G1).1 82 0 ((zW ((zW (7 * m)) + 6)).toNat))))))) (yR σ G1))
    (h4 : 0 ≤ m ∧ m < 96 → ∀ G1 : zS, mRun σ G1 96 0 → yRel (yR σ G1) → (yR σ G1).1 82 0 ((zW ((zW (7 * m)) + 6)).toNat) = 0 → Q (some (.inl 0)) (yR σ G1))
    (h5 : ¬ (0 ≤ m ∧ m < 96) → Q (some (.inl (-2))) σ) :
    zM (d + 7) 168 [.inr (.inr (10, 0)), .inl m] σ Q := by
  refine zX_run (n' := 1) (ls' := [some (.inr (.inr (10, 0))), some (.inl m)]) (st' := [.inl m]) (σ' := σ) 1 rfl ?_
  refine zX_call rfl rfl ?_
  refine zs_120 (fun a1 => ?_) (fun a2 => ?_)
  · skip
    refine zX_run (n' := 6) (ls' := [some (.inr (.inr (10, 0))), some (.inl m)]) (st' := [.inr (.inr (10, 0))]) (σ' := σ) 2 rfl ?_
    refine zX_call rfl rfl ?_
    refine ys_158 (o1 a1) (fun G1 a3 a4 => ?_)
    · skip
      refine zX_run (n' := 9) (ls' := [some (.inr (.inr (10, 0))), some (.inl m)]) (st' := [.inl m, .inr (.inr (10, 0))]) (σ' := (yR σ G1)) 2 rfl ?_
      refine zX_call rfl rfl ?_
      refine zm_167 (o2 a1 G1 a3 a4) (o3 a1 G1 a3 a4) (o3 a1 G1 a3 a4) (o4 a1 G1 a3 a4) (fun a5 a6 => ?_) (fun a7 a8 => ?_) (fun a9 a10 => ?_) (fun a11 => ?_)
      · skip
        exact zX_ret rfl rfl (h1 a1 G1 a3 a4 a5 a6)
      · skip
        exact zX_ret rfl rfl (h2 a1 G1 a3 a4 a7 a8)
      · skip
        exact zX_ret rfl rfl (h3 a1 G1 a3 a4 a9 a10)
      · skip
        exact zX_ret rfl rfl (h4 a1 G1 a3 a4 a11)
  · skip
    refine zX_run (n' := 4) (ls' := [some (.inr (.inr (10, 0))), some (.inl m)]) (st' := [.inl (-2)]) (σ' := σ) 2 rfl ?_
    exact zX_ret rfl rfl (h5 a2)
theorem cw_w {s : zS} {f : Nat} {D : uT} {M : Int} {h m : Nat} (W : cWk s f D M) (hm : (m : Int) < M) (hh : h < uN D) : s.1 17 (16 * f + h) m = uWants D h m (uLevs D (uV D m)) ∧ s.1 18 (16 * f + h) m = uV D (m + 1) 2 h := by
  obtain ⟨k, rd, h1, h2, F⟩ := W
  exact (F.2.2.2.2.2.2 m (by omega)).2 h hh
theorem cw_r {s : zS} {f : Nat} {D : uT} {M : Int} {r m : Nat} (W : cWk s f D M) (hm : (m : Int) < M) (hr : r < 7) : cRow s.1 f D (uV D m) m r := by
  obtain ⟨k, rd, h1, h2, F⟩ := W
  exact (F.2.2.2.2.2.2 m (by omega)).1 r hr
theorem cw_l {s : zS} {f : Nat} {D : uT} {M : Int} {r m : Nat} (W : cWk s f D M) (hm : (m : Int) < M) (hr : r < 7) (ht : ¬ D 3 r = 0) : s.1 26 (7 * f + r) m = uV D m 0 r ∧ s.1 27 (7 * f + r) m = uV D m 1 r := by
  cases m with
  | zero =>
    obtain ⟨k, rd, h1, h2, F⟩ := W
    have e := F.2.2.2.2.2.1 r hr ht
    exact ⟨e.1.trans (if_neg ht).symm, e.2⟩
  | succ m => exact (cw_r (m := m) W (by omega) hr).2.2.2.2.2.2.2 ht
theorem cw_d {s : zS} {f : Nat} {D : uT} {M : Int} (W : cWk s f D M) : cDw s f D ∧ cDh s f D := by
  obtain ⟨k, rd, h1, h2, F⟩ := W
  exact ⟨F.1, F.2.1⟩
theorem cw_ret {s : zS} {f : Nat} {D : uT} {M : Int} {r m : Nat} (O : uOk D) (W : cWk s f D M) (hm : (m : Int) < M) (hr : r < 7) : cRet s f r m = uRet D (uV D m) r := by
  unfold cRet
  by_cases h : r = 0 ∨ m = 0
  · rw [if_pos h]
    rcases h with rfl | rfl
    · exact (uRet_0 O).1.symm
    · exact uRet_z.1.symm
  · rw [if_neg h]
    obtain ⟨r', rfl⟩ := Nat.exists_eq_succ_of_ne_zero (fun e => h (.inl e))
    obtain ⟨m', rfl⟩ := Nat.exists_eq_succ_of_ne_zero (fun e => h (.inr e))
    exact (cw_r (r := r') (m := m') W (by omega) (by omega)).2.2.2.2.2.1
theorem cw_lev {s : zS} {f : Nat} {D : uT} {M : Int} {m : Nat} (W : cWk s f D M) (hm : (m : Int) < M) : uLvs (cTh s) (fun r => s.1 26 (7 * f + r) m) 7 = uLevs D (uV D m) :=
  uLvs_congr (fun r hr => ⟨((cw_d W).1.2.1 r hr).2, fun ht => (cw_l W hm hr ht).1⟩)
theorem cw_th {s : zS} {f : Nat} {D : uT} {M : Int} {r : Nat} (W : cWk s f D M) (hr : r < 7) : cTh s r = D 3 r := ((cw_d W).1.2.1 r hr).2
theorem cw_sh {s : zS} {f : Nat} {D : uT} {M : Int} {h m : Nat} (O : uOk D) (W : cWk s f D M) (hm : (m : Int) < M) (m96 : m < 96) (hh : h < uN D) : zBin 3 (zBin 7 (s.1 13 f m) (h : Int)) 1 = if D 15 (96 * h + m) = 0 then 0 else 1 := by
  obtain ⟨k, rd, h1, h2, F⟩ := W
  have N := O.2.2.2.2.1
  have R := (F.2.2.2.2.1 m (by omega)).1
  have T := F.2.1.2.2.2.2 h m hh m96
  have n8 : s.1 8 0 8 = D 19 0 := F.1.2.2.2.1
  have lt := cShut_lt (σ := s) (m := (m : Int)) (l := s.1 0 f 7) (by rw [n8]; exact N)
  rw [R, zBit (by omega) (by omega), zBit1]
  by_cases e : D 15 (96 * h + m) = 0
  · rw [if_pos e, if_neg (fun q => T.mp q e)]; rfl
  · rw [if_neg e, if_pos (T.mpr e)]; rfl
/-- what the class's working leaves as it was: all that the reference has -/
def yE (σ s : zS) : Prop := mD s = mD σ ∧ ∀ k, k = 10 ∨ 46 ≤ k → s.1 k = σ.1 k
theorem fk_no {k : Nat} (h : k = 10 ∨ 46 ≤ k) : ¬ fk k = true := by
  intro e
  unfold fk at e
  simp only [Bool.or_eq_true, Bool.and_eq_true, beq_iff_eq, Nat.ble_eq] at e
  omega
theorem yE_G {σ : zS} {G : Nat → Nat → Nat → Int} : yE σ (zG σ G) := ⟨rfl, fun _ h => if_neg (fk_no h)⟩
theorem yE_r {σ : zS} : yE σ σ := ⟨rfl, fun _ _ => rfl⟩
theorem yE_t {a b c : zS} (h : yE a b) (k : yE b c) : yE a c := ⟨k.1.trans h.1, fun x hx => (k.2 x hx).trans (h.2 x hx)⟩
/-- the class's call answers F of the state, keeps the relation and leaves the reference's cells -/
def yC (d i : Nat) (as : List zV) (F : zS → zV) : Prop := ∀ (σ : zS) (Q : Option zV → zS → Prop), yRel σ → (∀ s, yE σ s → yRel s → Q (some (F σ)) s) → zM d i (.inr (.inr (9, 0)) :: as) σ Q
/-- the reference's call answers F of the state, and keeps the relation -/
def yM (d i : Nat) (as : List zV) (F : zS → zV) : Prop := ∀ (σ : zS) (Q : Option zV → zS → Prop), yRel σ → (∀ s, yRel s → Q (some (F σ)) s) → zM d i (.inr (.inr (10, 0)) :: as) σ Q
theorem yp_of {d ic im : Nat} {as : List zV} {f : zS → Int} (a : yC (d + 60) ic as (fun s => .inl (f s))) (b : yM (d + 60) im as (fun s => .inl (f s))) (c : ∀ σ s, yE σ s → f s = f σ) {σ : zS} (R : yRel σ) : yPi d ic im as σ :=
  a σ _ R (fun s e R' => b s _ R' (fun s2 R2 => ⟨⟨f σ, rfl, congrArg (fun x : Int => (some (.inl x) : Option zV)) (c σ s e)⟩, R2⟩))
theorem yp_ofl {d ic im : Nat} {as : List zV} {f : zS → Int} (a : yC (d + 60) ic as (fun s => .inr (.inl (f s)))) (b : yM (d + 60) im as (fun s => .inr (.inl (f s)))) (c : ∀ σ s, yE σ s → f s = f σ) {σ : zS} (R : yRel σ) : yPl d ic im as σ :=
  a σ _ R (fun s e R' => b s _ R' (fun s2 R2 => ⟨⟨f σ, rfl, congrArg (fun x : Int => (some (.inr (.inl x)) : Option zV)) (c σ s e)⟩, R2⟩))
theorem yA {Q : Option zV → zS → Prop} {v w : Int} {s : zS} (e : v = w) (h : Q (some (.inl v)) s) : Q (some (.inl w)) s := e ▸ h
theorem yAl {Q : Option zV → zS → Prop} {v w : Int} {s : zS} (e : v = w) (h : Q (some (.inr (.inl v))) s) : Q (some (.inr (.inl w))) s := e ▸ h
theorem yN8 {σ : zS} (R : yRel σ) : σ.1 8 0 8 = σ.1 10 0 4 ∧ 0 ≤ σ.1 10 0 4 ∧ σ.1 10 0 4 ≤ 16 := R.2.2.2.1.1
theorem yHol {σ : zS} (R : yRel σ) : rHol σ := R.2.2.2.1
theorem yuN {σ : zS} {h : Nat} (R : yRel σ) : h < uN (mD σ) ↔ (h : Int) < σ.1 10 0 4 := (rN (yHol R)).2 h
