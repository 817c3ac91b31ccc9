-- a flow begun and worked (wip/whole/gen/laws13.py)
theorem cFr_t {σ : zS} {G G' : Nat → Nat → Nat → Int} {f : Nat} (a : cFr σ G f) (b : cFr (zG σ G) G' f) : cFr σ G' f := by
  obtain ⟨a1, a2, a3, a4, a5, a6⟩ := a
  obtain ⟨b1, b2, b3, b4, b5, b6⟩ := b
  have hk : ∀ k, 16 ≤ k → k ≤ 27 → fk k = true := fun k h1 h2 => by
    rcases (show k = 16 ∨ k = 17 ∨ k = 18 ∨ k = 19 ∨ k = 20 ∨ k = 21 ∨ k = 22 ∨ k = 23 ∨ k = 24 ∨ k = 25 ∨ k = 26 ∨ k = 27 by omega) with rfl | rfl | rfl | rfl | rfl | rfl | rfl | rfl | rfl | rfl | rfl | rfl <;> rfl
  exact ⟨fun j hj => (b1 j hj).trans (a1 j hj), fun n j hn => ⟨((b2 n j hn).1).trans (a2 n j hn).1, ((b2 n j hn).2).trans (a2 n j hn).2⟩, b3.trans a3, b4.trans a4, fun k h1 h2 n j hn => (b5 k h1 h2 n j hn).trans ((congrFun (congrFun (zG_k (hk k h1 (by omega))) n) j).trans (a5 k h1 h2 n j hn)), fun k h1 h2 n j hn => (b6 k h1 h2 n j hn).trans ((congrFun (congrFun (zG_k (hk k (by omega) h2)) n) j).trans (a6 k h1 h2 n j hn))⟩
theorem cFr_0 {σ : zS} {f : Nat} : cFr σ σ.1 f := ⟨fun _ _ => rfl, fun _ _ _ => ⟨rfl, rfl⟩, rfl, rfl, fun _ _ _ _ _ _ => rfl, fun _ _ _ _ _ _ => rfl⟩
/-- workTo of a flow that is not stale -/
theorem zs_2n {d : Nat} {Q : Option zV → zS → Prop} {f M : Nat} {D : uT} (O : uOk D) (hf : f < 2) (hM : M ≤ 96) : ∀ (x : Nat) {m rd : Nat} {τ : zS}, 96 - m = x → cFl τ f D m rd → m ≤ rd → 
    (∀ (G : Nat → Nat → Nat → Int) (k rd : Nat), M ≤ k → m ≤ k → k ≤ rd → cFl (zG τ G) f D k rd → cFr τ G f → Q none (zG τ G)) →
    zX (d + 14) 2 10 [some (.inr (.inr (0, f))), some (.inl (M : Int)), some (.inl (m : Int))] [] τ Q := by
  intro x
  induction x with
  | zero =>
    intro m rd τ hx F hr h
    have := F.2.2.2.1.2.2.2.1
    have e := h τ.1 m rd (by omega) (Nat.le_refl _) hr (by rw [← zG_self]; exact F) cFr_0
    rw [← zG_self] at e
    exact zb_2h (fun _ => e) (fun _ _ => e) (fun q _ _ => absurd q (by omega)) (fun q _ _ => absurd q (by omega))
  | succ x ih =>
    intro m rd τ hx F hr h
    by_cases hm : M ≤ m
    · have e := h τ.1 m rd hm (Nat.le_refl _) hr (by rw [← zG_self]; exact F) cFr_0
      rw [← zG_self] at e
      exact zb_2h (fun _ => e) (fun _ _ => e) (fun q _ _ => absurd q (by omega)) (fun q _ _ => absurd q (by omega))
    · refine zs_2s O hf (by omega) (by omega) F hr (fun G F2 R => ?_)
      refine ih (by omega) F2 (by split <;> omega) (fun G2 k rd2 h1 h2 h3 F3 R3 => ?_)
      rw [zG_H] at F3 ⊢
      exact h G2 k rd2 h1 (by omega) h3 F3 (cFr_t R R3)
/-- what the class is told, for a flow that is begun with one call left out (u), one text for all (v) -/
def cTv (s : zS) (v : Int) (h : Nat) : Nat := if v = -1 then (s.1 43 0 (s.1 1 (16 * 0 + h) 1).toNat).toNat else v.toNat
def cTvr (s : zS) (v : Int) (h : Nat) : Prop := (v = -1 → (0 ≤ s.1 1 (16 * 0 + h) 1 ∧ s.1 1 (16 * 0 + h) 1 < 4) ∧ 0 ≤ s.1 43 0 (s.1 1 (16 * 0 + h) 1).toNat ∧ s.1 43 0 (s.1 1 (16 * 0 + h) 1).toNat < 6) ∧ (¬ v = -1 → 0 ≤ v ∧ v < 6)
def cTd (s : zS) (D : uT) (u v : Int) : Prop := ((∀ r m, r < 7 → m < 96 → cSide s r m = D 0 (96 * r + m)) ∧ (∀ r, r < 7 → s.1 35 0 r = D 2 r ∧ cTh s r = D 3 r) ∧
  (∀ r, r < 7 → ¬ D 3 r = 0 → s.1 3 (7 * 0 + r) 1 = D 4 r ∧ s.1 3 (7 * 0 + r) 2 = D 5 r ∧ s.1 3 (7 * 0 + r) 3 = D 6 r ∧ s.1 3 (7 * 0 + r) 4 = D 7 r) ∧ s.1 8 0 8 = D 19 0 ∧ 0 ≤ D 19 0 ∧ (∀ h j, h < uN D → j < 7 → cH s h j = D (8 + j) h)) ∧
  (∀ r m, r < 7 → m < 96 → cRead s r m = D 1 (96 * r + m)) ∧
  (∀ h, h < uN D → cTvr s v h ∧ cTok s (6 * 0 + cTv s v h) ∧ cPart s (6 * 0 + cTv s v h) 0 = uPart D h 0 ∧ cPart s (6 * 0 + cTv s v h) 1 = uPart D h 1 ∧ (s.1 7 (6 * 0 + cTv s v h) 3 = 0 → (∀ c, c ∈ uPart D h 0 → ¬ c = 3) ∧ (∀ c, c ∈ uPart D h 1 → ¬ c = 3))) ∧
  D 19 1 = 0 ∧ ((0 ≤ s.1 8 0 11 ∧ s.1 8 0 11 ≤ 16) ∧ ∀ c : Nat, (c : Int) < s.1 8 0 11 → 0 ≤ s.1 40 0 c ∧ s.1 40 0 c < 16) ∧
  (∀ h m : Nat, h < uN D → m < 96 → ((cShut s (m : Int) u).testBit h = true ↔ ¬ D 15 (96 * h + m) = 0))
/-- the other flow is as it was -/
def cOth (σ : zS) (G : Nat → Nat → Nat → Int) (f : Nat) : Prop := (∀ n j, ¬ n = f → G 0 n j = σ.1 0 n j ∧ G 13 n j = σ.1 13 n j ∧ G 14 n j = σ.1 14 n j ∧ G 15 n j = σ.1 15 n j) ∧
  (∀ k, 16 ≤ k → k ≤ 18 → ∀ n j, ¬ (16 * f ≤ n ∧ n < 16 * f + 16) → G k n j = σ.1 k n j) ∧ (∀ k, 19 ≤ k → k ≤ 27 → ∀ n j, ¬ (7 * f ≤ n ∧ n < 7 * f + 7) → G k n j = σ.1 k n j)
theorem cOth_fr {σ : zS} {G : Nat → Nat → Nat → Int} {f : Nat} (a : cFr σ G f) : cOth σ G f :=
  ⟨fun n j hn => ⟨(a.2.1 n j hn).1, (a.2.1 n j hn).2, by rw [a.2.2.1], by rw [a.2.2.2.1]⟩, a.2.2.2.2.1, a.2.2.2.2.2⟩
theorem cOth_beg {σ : zS} {G : Nat → Nat → Nat → Int} {f : Nat} {u v : Int} (a : cBeg σ G f u v) : cOth σ G f := by
  obtain ⟨a1, a2, a3, a4, a5, a6⟩ := a
  refine ⟨fun n j hn => ⟨?_, ?_, a4 n j hn, ?_⟩, fun k h1 h2 n j hn => by rw [a6 k (by omega) (by omega) (by omega) (by omega) (by omega)], fun k h1 h2 n j hn => ?_⟩
  · rw [a5, if_neg (by omega), if_neg (by omega), if_neg (by omega)]
  · rw [a6 13 (by decide) (by decide) (by decide) (by decide) (by decide)]
  · rw [a3, if_neg (by omega)]
  · by_cases c : k = 26
    · subst c; rw [a1, if_neg (by omega)]
    · by_cases c2 : k = 27
      · subst c2; rw [a2, if_neg (by omega)]
      · rw [a6 k (by omega) (by omega) (by omega) c c2]
theorem cOth_t {σ : zS} {G G' : Nat → Nat → Nat → Int} {f : Nat} (a : cOth σ G f) (b : cOth (zG σ G) G' f) : cOth σ G' f := by
  obtain ⟨a2, a5, a6⟩ := a
  obtain ⟨b2, b5, b6⟩ := b
  have hk : ∀ k, 16 ≤ k → k ≤ 27 → fk k = true := fun k h1 h2 => by
    rcases (show k = 16 ∨ k = 17 ∨ k = 18 ∨ k = 19 ∨ k = 20 ∨ k = 21 ∨ k = 22 ∨ k = 23 ∨ k = 24 ∨ k = 25 ∨ k = 26 ∨ k = 27 by omega) with rfl | rfl | rfl | rfl | rfl | rfl | rfl | rfl | rfl | rfl | rfl | rfl <;> rfl
  exact ⟨fun n j hn => ⟨((b2 n j hn).1).trans (a2 n j hn).1, ((b2 n j hn).2.1).trans (a2 n j hn).2.1, ((b2 n j hn).2.2.1).trans (a2 n j hn).2.2.1, ((b2 n j hn).2.2.2).trans (a2 n j hn).2.2.2⟩, fun k h1 h2 n j hn => (b5 k h1 h2 n j hn).trans ((congrFun (congrFun (zG_k (hk k h1 (by omega))) n) j).trans (a5 k h1 h2 n j hn)), fun k h1 h2 n j hn => (b6 k h1 h2 n j hn).trans ((congrFun (congrFun (zG_k (hk k (by omega) h2)) n) j).trans (a6 k h1 h2 n j hn))⟩
/-- a flow that has begun -/
theorem cBeg_fl {σ : zS} {G : Nat → Nat → Nat → Int} {f : Nat} {D : uT} {u v : Int} (T : cTd σ D u v) (hO : cOrd (zG σ G) f D) (B : cBeg σ G f u v) : cFl (zG σ G) f D 0 0 := by
  obtain ⟨⟨T1, T2, T3, T4, T5, T6⟩, T7, T8, T9, T10, T11⟩ := T
  obtain ⟨b1, b2, b3, b4, b5, b6⟩ := B
  have e7 : G 0 f 7 = u := by rw [b5, if_pos ⟨rfl, rfl⟩]
  have e8 : G 0 f 8 = v := by rw [b5, if_neg (by omega), if_pos ⟨rfl, rfl⟩]
  have e9 : ∀ j, (j = 4 ∨ j = 9 ∨ j = 10 ∨ j = 11) → G 0 f j = 0 := fun j hj => by rw [b5, if_neg (by omega), if_neg (by omega), if_pos ⟨rfl, hj⟩]
  have eT : ∀ h, cTx (zG σ G) f h = cTv σ v h := fun h => by
    show (if G 0 f 8 = -1 then _ else (G 0 f 8).toNat) = _
    rw [e8]; rfl
  refine ⟨⟨T1, T2, fun r hr ht => ⟨(T3 r hr ht).1, (T3 r hr ht).2.2.1, ?_⟩, T4, T5, T6⟩, ⟨T7, fun h hh => ?_, ⟨(e9 9 (by decide)).trans T9.symm, by omega, by omega⟩, T10, fun h m hh hm => ?_⟩, hO, ⟨e9 11 (by decide), e9 10 (by decide), e9 4 (by decide), by omega, by omega⟩, fun m hm => absurd hm (by omega), fun r hr ht => ⟨?_, ?_⟩, fun m hm => absurd hm (by omega)⟩
  · show G 15 f r = _
    rw [b3, if_pos ⟨rfl, hr⟩]; exact (T3 r hr ht).2.2.2
  · rw [eT]
    have := T8 h hh
    refine ⟨?_, this.2⟩
    show (G 0 f 8 = -1 → _) ∧ (¬ G 0 f 8 = -1 → 0 ≤ G 0 f 8 ∧ G 0 f 8 < 6)
    rw [e8]; exact this.1
  · show (cShut (zG σ G) (m : Int) (G 0 f 7)).testBit h = true ↔ _
    rw [e7]; exact T11 h m hh hm
  · show G 26 (7 * f + r) 0 = _
    rw [b1, if_pos (by omega), show 7 * f + r - 7 * f = r by omega]; exact (T3 r hr ht).2.1
  · show G 27 (7 * f + r) 0 = _
    rw [b2, if_pos (by omega)]
/-- workTo, whether stale or not -/
theorem zs_2 {d : Nat} {σ : zS} {Q : Option zV → zS → Prop} {f : Nat} {M : Int} {D : uT} (O : uOk D) (hf : f < 2) (hM : 0 ≤ M ∧ M ≤ 96) (S : (¬ σ.1 0 f 4 = 0 ∧ cTd σ D (-1) (-1)) ∨ ∃ k rd, k ≤ rd ∧ cFl σ f D k rd)
    (h : ∀ (G : Nat → Nat → Nat → Int) (k rd : Nat), M ≤ (k : Int) → k ≤ rd → cFl (zG σ G) f D k rd → cOth σ G f → Q none (zG σ G)) :
    zM (d + 14) 2 [.inr (.inr (0, f)), .inl M] σ Q := by
  obtain ⟨M, rfl⟩ := Int.eq_ofNat_of_zero_le hM.1
  have N16 := O.2.2.2.2.1
  rcases S with ⟨st, T⟩ | ⟨k, rd, hk, F⟩
  · refine zX_run (n' := 2) (ls' := [some (.inr (.inr (0, f))), some (.inl (M : Int)), none]) (st' := [.inl (σ.1 0 f 4)]) (σ' := σ) 2 rfl ?_
    refine zX_i0 rfl (fun q => absurd q st) (fun _ => ?_)
    refine zX_run (n' := 6) (ls' := [some (.inr (.inr (0, f))), some (.inl (M : Int)), none]) (st' := [.inl (-1), .inl (-1), .inr (.inr (0, f))]) (σ' := σ) 3 rfl ?_
    refine zX_call rfl rfl ?_
    have hn : σ.1 8 0 8 = (uN D : Int) := by rw [T.1.2.2.2.1]; have := T.1.2.2.2.2.1; unfold uN; omega
    refine zs_0 (d := d + 1) (D := D) T.1.2.2.2.2.2 hn N16 (fun G o1 B => ?_)
    have F := cBeg_fl T o1 B
    have k0 : (zG σ G).1 0 f 11 = 0 := F.2.2.2.1.1
    refine zX_run (n' := 9) (ls' := [some (.inr (.inr (0, f))), some (.inl (M : Int)), none]) (st' := [.inl ((zG σ G).1 0 f 11)]) (σ' := zG σ G) 2 rfl ?_
    rw [k0]
    refine zX_run (n' := 10) (ls' := [some (.inr (.inr (0, f))), some (.inl (M : Int)), some (.inl 0)]) (st' := []) (σ' := zG σ G) 1 rfl ?_
    refine zs_2n (M := M) (m := 0) O hf (by omega) 96 (by omega) F (Nat.le_refl _) (fun G2 k rd h1 h2 h3 F2 R => ?_)
    rw [zG_H] at F2 ⊢
    exact h G2 k rd (by omega) h3 F2 (cOth_t (cOth_beg B) (cOth_fr R))
  · refine zX_run (n' := 2) (ls' := [some (.inr (.inr (0, f))), some (.inl (M : Int)), none]) (st' := [.inl (σ.1 0 f 4)]) (σ' := σ) 2 rfl ?_
    refine zX_i0 rfl (fun _ => ?_) (fun q => absurd F.2.2.2.1.2.2.1 q)
    have k0 : σ.1 0 f 11 = (k : Int) := F.2.2.2.1.1
    refine zX_run (n' := 9) (ls' := [some (.inr (.inr (0, f))), some (.inl (M : Int)), none]) (st' := [.inl (σ.1 0 f 11)]) (σ' := σ) 2 rfl ?_
    rw [k0]
    refine zX_run (n' := 10) (ls' := [some (.inr (.inr (0, f))), some (.inl (M : Int)), some (.inl (k : Int))]) (st' := []) (σ' := σ) 1 rfl ?_
    exact zs_2n (M := M) O hf (by omega) (96 - k) rfl F hk (fun G2 k rd h1 h2 h3 F2 R => h G2 k rd (by omega) h3 F2 (cOth_fr R))
