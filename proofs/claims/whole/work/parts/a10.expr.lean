-- the reference reads an expression (wip/whole/gen/laws81.py)
-- X10_pops
theorem zb_146 {d : Nat} {σ : zS} {Q : Option zV → zS → Prop} {p : Int}
    (o1 : ¬ σ.1 10 0 58 ≤ 0 → (0 : Int) ≤ zW ((σ.1 10 0 58) - 1) ∧ zW ((σ.1 10 0 58) - 1) < (300 : Int))
    (o2 : ¬ σ.1 10 0 58 ≤ 0 → ¬ qSg (σ.1 95 0 ((zW ((σ.1 10 0 58) - 1)).toNat)) < p → ¬ σ.1 95 0 ((zW ((σ.1 10 0 58) - 1)).toNat) = 19 → σ.1 95 0 ((zW ((σ.1 10 0 58) - 1)).toNat) = 12 → (0 : Int) ≤ σ.1 10 0 59 ∧ σ.1 10 0 59 < (300 : Int))
    (o3 : ¬ σ.1 10 0 58 ≤ 0 → ¬ qSg (σ.1 95 0 ((zW ((σ.1 10 0 58) - 1)).toNat)) < p → ¬ σ.1 95 0 ((zW ((σ.1 10 0 58) - 1)).toNat) = 19 → ¬ σ.1 95 0 ((zW ((σ.1 10 0 58) - 1)).toNat) = 12 → ¬ σ.1 95 0 ((zW ((σ.1 10 0 58) - 1)).toNat) = 18 → (0 : Int) ≤ σ.1 10 0 59 ∧ σ.1 10 0 59 < (300 : Int))
    (o4 : ¬ σ.1 10 0 58 ≤ 0 → ¬ qSg (σ.1 95 0 ((zW ((σ.1 10 0 58) - 1)).toNat)) < p → ¬ σ.1 95 0 ((zW ((σ.1 10 0 58) - 1)).toNat) = 19 → ¬ σ.1 95 0 ((zW ((σ.1 10 0 58) - 1)).toNat) = 12 → σ.1 95 0 ((zW ((σ.1 10 0 58) - 1)).toNat) = 18 → (0 : Int) ≤ σ.1 10 0 59 ∧ σ.1 10 0 59 < (300 : Int))
    (h1 : σ.1 10 0 58 ≤ 0 → Q (none) σ)
    (h2 : ¬ σ.1 10 0 58 ≤ 0 → qSg (σ.1 95 0 ((zW ((σ.1 10 0 58) - 1)).toNat)) < p → Q (none) σ)
    (h3 : ¬ σ.1 10 0 58 ≤ 0 → ¬ qSg (σ.1 95 0 ((zW ((σ.1 10 0 58) - 1)).toNat)) < p → σ.1 95 0 ((zW ((σ.1 10 0 58) - 1)).toNat) = 19 → Q (none) σ)
    (h4 : ¬ σ.1 10 0 58 ≤ 0 → ¬ qSg (σ.1 95 0 ((zW ((σ.1 10 0 58) - 1)).toNat)) < p → ¬ σ.1 95 0 ((zW ((σ.1 10 0 58) - 1)).toNat) = 19 → σ.1 95 0 ((zW ((σ.1 10 0 58) - 1)).toNat) = 12 → zX (d + 1) 146 0 [some (.inr (.inr (10, 0))), some (.inl p)] [] (zU (zU (zU (zU σ 10 0 58 (zW ((σ.1 10 0 58) - 1))) 10 0 60 (zW ((σ.1 10 0 60) - 1))) 10 0 59 (zW ((σ.1 10 0 59) + 1))) 97 0 ((σ.1 10 0 59).toNat) (σ.1 95 0 ((zW ((σ.1 10 0 58) - 1)).toNat))) Q)
    (h5 : ¬ σ.1 10 0 58 ≤ 0 → ¬ qSg (σ.1 95 0 ((zW ((σ.1 10 0 58) - 1)).toNat)) < p → ¬ σ.1 95 0 ((zW ((σ.1 10 0 58) - 1)).toNat) = 19 → ¬ σ.1 95 0 ((zW ((σ.1 10 0 58) - 1)).toNat) = 12 → ¬ σ.1 95 0 ((zW ((σ.1 10 0 58) - 1)).toNat) = 18 → zX (d + 1) 146 0 [some (.inr (.inr (10, 0))), some (.inl p)] [] (zU (zU (zU σ 10 0 58 (zW ((σ.1 10 0 58) - 1))) 10 0 59 (zW ((σ.1 10 0 59) + 1))) 97 0 ((σ.1 10 0 59).toNat) (σ.1 95 0 ((zW ((σ.1 10 0 58) - 1)).toNat))) Q)
    (h6 : ¬ σ.1 10 0 58 ≤ 0 → ¬ qSg (σ.1 95 0 ((zW ((σ.1 10 0 58) - 1)).toNat)) < p → ¬ σ.1 95 0 ((zW ((σ.1 10 0 58) - 1)).toNat) = 19 → ¬ σ.1 95 0 ((zW ((σ.1 10 0 58) - 1)).toNat) = 12 → σ.1 95 0 ((zW ((σ.1 10 0 58) - 1)).toNat) = 18 → zX (d + 1) 146 0 [some (.inr (.inr (10, 0))), some (.inl p)] [] (zU (zU (zU (zU σ 10 0 58 (zW ((σ.1 10 0 58) - 1))) 10 0 60 (zW ((σ.1 10 0 60) - 1))) 10 0 59 (zW ((σ.1 10 0 59) + 1))) 97 0 ((σ.1 10 0 59).toNat) (σ.1 95 0 ((zW ((σ.1 10 0 58) - 1)).toNat))) Q) :
    zX (d + 1) 146 0 [some (.inr (.inr (10, 0))), some (.inl p)] [] σ Q := by
  refine zX_run (n' := 2) (ls' := [some (.inr (.inr (10, 0))), some (.inl p)]) (st' := [.inl (σ.1 10 0 58)]) (σ' := σ) 2 rfl ?_
  refine zX_i5 rfl (fun a1 => ?_) (fun a1 => ?_)
  · skip
    exact zX_ret0 rfl rfl (h1 a1)
  · skip
    refine zX_run (n' := 9) (ls' := [some (.inr (.inr (10, 0))), some (.inl p)]) (st' := [.inl (zW ((σ.1 10 0 58) - 1)), .inr (.inr (95, 0))]) (σ' := σ) 6 rfl ?_
    refine zX_ald1 (L := 300) rfl (by decide) rfl (o1 a1) ?_
    refine zX_call rfl rfl ?_
    refine zs_145 ?_
    · skip
      refine zX_run (n' := 12) (ls' := [some (.inr (.inr (10, 0))), some (.inl p)]) (st' := [.inl p, .inl (qSg (σ.1 95 0 ((zW ((σ.1 10 0 58) - 1)).toNat)))]) (σ' := σ) 1 rfl ?_
      refine zX_c2 rfl (fun a2 => ?_) (fun a2 => ?_)
      · skip
        exact zX_ret0 rfl rfl (h2 a1 a2)
      · skip
        refine zX_run (n' := 19) (ls' := [some (.inr (.inr (10, 0))), some (.inl p)]) (st' := [.inl (zW ((σ.1 10 0 58) - 1)), .inr (.inr (95, 0))]) (σ' := σ) 6 rfl ?_
        refine zX_ald1 (L := 300) rfl (by decide) rfl (o1 a1) ?_
        refine zX_run (n' := 21) (ls' := [some (.inr (.inr (10, 0))), some (.inl p)]) (st' := [.inl 19, .inl (σ.1 95 0 ((zW ((σ.1 10 0 58) - 1)).toNat))]) (σ' := σ) 1 rfl ?_
        refine zX_c0 rfl (fun a3 => ?_) (fun a3 => ?_)
        · skip
          exact zX_ret0 rfl rfl (h3 a1 a2 a3)
        · skip
          refine zX_run (n' := 32) (ls' := [some (.inr (.inr (10, 0))), some (.inl p)]) (st' := [.inl (zW ((σ.1 10 0 58) - 1)), .inr (.inr (95, 0))]) (σ' := (zU σ 10 0 58 (zW ((σ.1 10 0 58) - 1)))) 10 rfl ?_
          refine zX_ald1 (L := 300) rfl (by decide) rfl (o1 a1) ?_
          refine zX_run (n' := 34) (ls' := [some (.inr (.inr (10, 0))), some (.inl p)]) (st' := [.inl 12, .inl (σ.1 95 0 ((zW ((σ.1 10 0 58) - 1)).toNat))]) (σ' := (zU σ 10 0 58 (zW ((σ.1 10 0 58) - 1)))) 1 rfl ?_
          refine zX_c0 rfl (fun a4 => ?_) (fun a4 => ?_)
          · skip
            refine zX_run (n' := 61) (ls' := [some (.inr (.inr (10, 0))), some (.inl p)]) (st' := [.inl (zW ((σ.1 10 0 58) - 1)), .inr (.inr (95, 0)), .inl (σ.1 10 0 59), .inr (.inr (97, 0))]) (σ' := (zU (zU (zU σ 10 0 58 (zW ((σ.1 10 0 58) - 1))) 10 0 60 (zW ((σ.1 10 0 60) - 1))) 10 0 59 (zW ((σ.1 10 0 59) + 1)))) 19 rfl ?_
            refine zX_ald1 (L := 300) rfl (by decide) rfl (o1 a1) ?_
            refine zX_ast1 (L := 300) rfl (by decide) rfl (o2 a1 a2 a3 a4) ?_
            refine zX_run (n' := 0) (ls' := [some (.inr (.inr (10, 0))), some (.inl p)]) (st' := []) (σ' := (zU (zU (zU (zU σ 10 0 58 (zW ((σ.1 10 0 58) - 1))) 10 0 60 (zW ((σ.1 10 0 60) - 1))) 10 0 59 (zW ((σ.1 10 0 59) + 1))) 97 0 ((σ.1 10 0 59).toNat) (σ.1 95 0 ((zW ((σ.1 10 0 58) - 1)).toNat)))) 1 rfl ?_
            exact h4 a1 a2 a3 a4
          · skip
            refine zX_run (n' := 39) (ls' := [some (.inr (.inr (10, 0))), some (.inl p)]) (st' := [.inl (zW ((σ.1 10 0 58) - 1)), .inr (.inr (95, 0))]) (σ' := (zU σ 10 0 58 (zW ((σ.1 10 0 58) - 1)))) 4 rfl ?_
            refine zX_ald1 (L := 300) rfl (by decide) rfl (o1 a1) ?_
            refine zX_run (n' := 41) (ls' := [some (.inr (.inr (10, 0))), some (.inl p)]) (st' := [.inl 18, .inl (σ.1 95 0 ((zW ((σ.1 10 0 58) - 1)).toNat))]) (σ' := (zU σ 10 0 58 (zW ((σ.1 10 0 58) - 1)))) 1 rfl ?_
            refine zX_c1 rfl (fun a5 => ?_) (fun a5 => ?_)
            · skip
              refine zX_run (n' := 61) (ls' := [some (.inr (.inr (10, 0))), some (.inl p)]) (st' := [.inl (zW ((σ.1 10 0 58) - 1)), .inr (.inr (95, 0)), .inl (σ.1 10 0 59), .inr (.inr (97, 0))]) (σ' := (zU (zU σ 10 0 58 (zW ((σ.1 10 0 58) - 1))) 10 0 59 (zW ((σ.1 10 0 59) + 1)))) 13 rfl ?_
              refine zX_ald1 (L := 300) rfl (by decide) rfl (o1 a1) ?_
              refine zX_ast1 (L := 300) rfl (by decide) rfl (o3 a1 a2 a3 a4 a5) ?_
              refine zX_run (n' := 0) (ls' := [some (.inr (.inr (10, 0))), some (.inl p)]) (st' := []) (σ' := (zU (zU (zU σ 10 0 58 (zW ((σ.1 10 0 58) - 1))) 10 0 59 (zW ((σ.1 10 0 59) + 1))) 97 0 ((σ.1 10 0 59).toNat) (σ.1 95 0 ((zW ((σ.1 10 0 58) - 1)).toNat)))) 1 rfl ?_
              exact h5 a1 a2 a3 a4 a5
            · skip
              refine zX_run (n' := 61) (ls' := [some (.inr (.inr (10, 0))), some (.inl p)]) (st' := [.inl (zW ((σ.1 10 0 58) - 1)), .inr (.inr (95, 0)), .inl (σ.1 10 0 59), .inr (.inr (97, 0))]) (σ' := (zU (zU (zU σ 10 0 58 (zW ((σ.1 10 0 58) - 1))) 10 0 60 (zW ((σ.1 10 0 60) - 1))) 10 0 59 (zW ((σ.1 10 0 59) + 1)))) 19 rfl ?_
              refine zX_ald1 (L := 300) rfl (by decide) rfl (o1 a1) ?_
              refine zX_ast1 (L := 300) rfl (by decide) rfl (o4 a1 a2 a3 a4 a5) ?_
              refine zX_run (n' := 0) (ls' := [some (.inr (.inr (10, 0))), some (.inl p)]) (st' := []) (σ' := (zU (zU (zU (zU σ 10 0 58 (zW ((σ.1 10 0 58) - 1))) 10 0 60 (zW ((σ.1 10 0 60) - 1))) 10 0 59 (zW ((σ.1 10 0 59) + 1))) 97 0 ((σ.1 10 0 59).toNat) (σ.1 95 0 ((zW ((σ.1 10 0 58) - 1)).toNat)))) 1 rfl ?_
              exact h6 a1 a2 a3 a4 a5
-- X10_opens
theorem zb_147 {d : Nat} {σ : zS} {Q : Option zV → zS → Prop} {x : Int}
    (o1 : ¬ σ.1 10 0 60 = 5 → (0 : Int) ≤ σ.1 10 0 58 ∧ σ.1 10 0 58 < (300 : Int))
    (h1 : ¬ σ.1 10 0 60 = 5 → Q (some (.inl 1)) (zU (zU (zU σ 10 0 60 (zW ((σ.1 10 0 60) + 1))) 10 0 58 (zW ((σ.1 10 0 58) + 1))) 95 0 ((σ.1 10 0 58).toNat) x))
    (h2 : σ.1 10 0 60 = 5 → Q (some (.inl 0)) σ) :
    zM (d + 0) 147 [.inr (.inr (10, 0)), .inl x] σ Q := by
  refine zX_run (n' := 3) (ls' := [some (.inr (.inr (10, 0))), some (.inl x)]) (st' := [.inl 5, .inl (σ.1 10 0 60)]) (σ' := σ) 3 rfl ?_
  refine zX_c1 rfl (fun a1 => ?_) (fun a1 => ?_)
  · skip
    refine zX_run (n' := 22) (ls' := [some (.inr (.inr (10, 0))), some (.inl x)]) (st' := [.inl x, .inl (σ.1 10 0 58), .inr (.inr (95, 0))]) (σ' := (zU (zU σ 10 0 60 (zW ((σ.1 10 0 60) + 1))) 10 0 58 (zW ((σ.1 10 0 58) + 1)))) 16 rfl ?_
    refine zX_ast1 (L := 300) rfl (by decide) rfl (o1 a1) ?_
    refine zX_run (n' := 24) (ls' := [some (.inr (.inr (10, 0))), some (.inl x)]) (st' := [.inl 1]) (σ' := (zU (zU (zU σ 10 0 60 (zW ((σ.1 10 0 60) + 1))) 10 0 58 (zW ((σ.1 10 0 58) + 1))) 95 0 ((σ.1 10 0 58).toNat) x)) 1 rfl ?_
    exact zX_ret rfl rfl (h1 a1)
  · skip
    refine zX_run (n' := 5) (ls' := [some (.inr (.inr (10, 0))), some (.inl x)]) (st' := [.inl 0]) (σ' := σ) 1 rfl ?_
    exact zX_ret rfl rfl (h2 a1)
/-- what waits and what is written, as the reference keeps them -/
def mPs (s : zS) (O c : List Int) : Prop := s.1 10 0 58 = (O.length : Int) ∧ s.1 10 0 59 = (c.length : Int) ∧ s.1 10 0 60 = (qDp O : Int) ∧ (∀ i, i < O.length → s.1 95 0 i = qCl O i) ∧ (∀ i, i < c.length → s.1 97 0 i = qCl c i)
/-- only these have changed -/
def mPf (σ s : zS) : Prop := (∀ n j, ¬ (n = 0 ∧ (j = 58 ∨ j = 59 ∨ j = 60)) → s.1 10 n j = σ.1 10 n j) ∧ (∀ K, ¬ K = 10 → ¬ K = 95 → ¬ K = 97 → s.1 K = σ.1 K) ∧ s.2 = σ.2
theorem mPf_r {σ : zS} : mPf σ σ := ⟨fun _ _ _ => rfl, fun _ _ _ _ => rfl, rfl⟩
theorem mPf_10 {σ s : zS} {j : Nat} {v : Int} (h : mPf σ s) (hj : j = 58 ∨ j = 59 ∨ j = 60) : mPf σ (zU s 10 0 j v) :=
  ⟨fun n i hi => (zU_ne (fun q => hi ⟨q.2.2, by rw [q.2.1]; exact hj⟩)).trans (h.1 n i hi), fun K hK h2 h3 => (zU_off hK).trans (h.2.1 K hK h2 h3), h.2.2⟩
theorem mPf_k {σ s : zS} {k n j : Nat} {v : Int} (h : mPf σ s) (hk : k = 95 ∨ k = 97) : mPf σ (zU s k n j v) :=
  ⟨fun a i hi => (congrFun (congrFun (zU_off (by omega)) a) i).trans (h.1 a i hi), fun K h1 h2 h3 => (zU_off (by omega)).trans (h.2.1 K h1 h2 h3), h.2.2⟩
theorem mPf_t {a b c : zS} (h : mPf a b) (g : mPf b c) : mPf a c := ⟨fun n j hj => (g.1 n j hj).trans (h.1 n j hj), fun K h1 h2 h3 => (g.2.1 K h1 h2 h3).trans (h.2.1 K h1 h2 h3), g.2.2.trans h.2.2⟩
/-- what reading a text may change on the reference's side -/
def mKp (σ s : zS) : Prop := (∀ n j, ¬ (n = 0 ∧ 55 ≤ j ∧ j ≤ 64) → s.1 10 n j = σ.1 10 n j) ∧ (∀ K, ¬ K = 10 → ¬ K = 95 → ¬ K = 96 → ¬ K = 97 → s.1 K = σ.1 K) ∧ s.2 = σ.2
theorem mKp_r {σ : zS} : mKp σ σ := ⟨fun _ _ _ => rfl, fun _ _ _ _ _ => rfl, rfl⟩
theorem mKp_10 {σ s : zS} {j : Nat} {v : Int} (h : mKp σ s) (hj : 55 ≤ j ∧ j ≤ 64) : mKp σ (zU s 10 0 j v) :=
  ⟨fun n i hi => (zU_ne (fun q => hi ⟨q.2.2, by rw [q.2.1]; exact hj⟩)).trans (h.1 n i hi), fun K hK h2 h3 h4 => (zU_off hK).trans (h.2.1 K hK h2 h3 h4), h.2.2⟩
theorem mKp_k {σ s : zS} {k n j : Nat} {v : Int} (h : mKp σ s) (hk : k = 95 ∨ k = 96 ∨ k = 97) : mKp σ (zU s k n j v) :=
  ⟨fun a i hi => (congrFun (congrFun (zU_off (by omega)) a) i).trans (h.1 a i hi), fun K h1 h2 h3 h4 => (zU_off (by omega)).trans (h.2.1 K h1 h2 h3 h4), h.2.2⟩
theorem mKp_P {a b c : zS} (h : mKp a b) (g : mPf b c) : mKp a c := ⟨fun n j hj => (g.1 n j (fun q => hj ⟨q.1, by omega⟩)).trans (h.1 n j hj), fun K h1 h2 h3 h4 => (g.2.1 K h1 h2 h4).trans (h.2.1 K h1 h2 h3 h4), g.2.2.trans h.2.2⟩
theorem mKp_F {a b c : zS} (h : mKp a b) (g : mFr b c) : mKp a c := ⟨fun n j hj => (g.1 n j (fun q => hj ⟨q.1, by omega⟩)).trans (h.1 n j hj), fun K h1 h2 h3 h4 => (g.2.1 K h1).trans (h.2.1 K h1 h2 h3 h4), g.2.2.trans h.2.2⟩
theorem mKp_T {σ s : zS} {T : Nat → Int} {N : Nat} (h : mKp σ s) (M : mTp σ T N) : mTp s T N :=
  ⟨(h.1 0 7 (by omega)).trans M.1, M.2.1, fun i hi => by rw [h.2.1 69 (by decide) (by decide) (by decide) (by decide)]; exact M.2.2 i hi⟩
theorem mPs_F {s s1 : zS} {O c : List Int} (g : mFr s s1) (P : mPs s O c) : mPs s1 O c := by
  obtain ⟨p1, p2, p3, p4, p5⟩ := P
  exact ⟨(g.1 0 58 (by omega)).trans p1, (g.1 0 59 (by omega)).trans p2, (g.1 0 60 (by omega)).trans p3, fun i hi => by rw [g.2.1 95 (by decide)]; exact p4 i hi, fun i hi => by rw [g.2.1 97 (by decide)]; exact p5 i hi⟩
/-- what pops leaves alone -/
def mRs (σ s : zS) (me a : Int) (f : List Int) : Prop := s.1 10 0 55 = a ∧ s.1 10 0 64 = me ∧ (∀ i, i < f.length → s.1 96 0 i = qCl f i) ∧ mKp σ s
theorem mRs_P {σ s s1 : zS} {me a : Int} {f : List Int} (R : mRs σ s me a f) (g : mPf s s1) : mRs σ s1 me a f := by
  obtain ⟨r1, r2, r3, r4⟩ := R
  exact ⟨(g.1 0 55 (by omega)).trans r1, (g.1 0 64 (by omega)).trans r2, fun i hi => by rw [g.2.1 96 (by decide) (by decide) (by decide)]; exact r3 i hi, mKp_P r4 g⟩
theorem mRs_96 {σ s : zS} {me a x : Int} {f g : List Int} (R : mRs σ s me a f) (hl : g.length ≤ f.length) (hg : ∀ i, i < g.length → qCl f i = qCl g i) : mRs σ (zU s 96 0 g.length x) me a (x :: g) := by
  obtain ⟨r1, r2, r3, r4⟩ := R
  refine ⟨r1, r2, fun i hi => ?_, mKp_k r4 (.inr (.inl rfl))⟩
  have hi : i < g.length + 1 := hi
  show (if 96 = 96 ∧ i = g.length ∧ 0 = 0 then x else s.1 96 0 i) = (if i = g.length then x else qCl g i)
  rw [ifk]
  by_cases e : i = g.length
  · rw [if_pos e, if_pos e]
  · rw [if_neg e, if_neg e, r3 i (by omega)]; exact hg i (by omega)
theorem qCl_lt {x : Int} {c : List Int} {i : Nat} (h : i < c.length) : qCl (x :: c) i = qCl c i := if_neg (by omega)
theorem qCl_hd {f : List Int} (h : 1 ≤ f.length) : qCl f (f.length - 1) = f.headD 0 := by
  cases f with
  | nil => exact absurd h (by decide)
  | cons x g => exact if_pos rfl
theorem mPs_code {s : zS} {O c : List Int} {t : Int} (P : mPs s O c) : mPs (zU (zU s 10 0 59 ((c.length + 1 : Nat) : Int)) 97 0 c.length t) O (t :: c) := by
  obtain ⟨p1, p2, p3, p4, p5⟩ := P
  refine ⟨p1, rfl, p3, p4, fun i hi => ?_⟩
  have hi : i < c.length + 1 := hi
  show (if 97 = 97 ∧ i = c.length ∧ 0 = 0 then t else s.1 97 0 i) = (if i = c.length then t else qCl c i)
  rw [ifk]
  by_cases e : i = c.length
  · rw [if_pos e, if_pos e]
  · rw [if_neg e, if_neg e]; exact p5 i (by omega)
theorem mPs_push {s : zS} {O c : List Int} {t : Int} (P : mPs s O c) (ht : ¬ qIsD t) : mPs (zU (zU s 10 0 58 ((O.length + 1 : Nat) : Int)) 95 0 O.length t) (t :: O) c := by
  obtain ⟨p1, p2, p3, p4, p5⟩ := P
  refine ⟨rfl, p2, ?_, fun i hi => ?_, p5⟩
  · rw [qDp_op ht]; exact p3
  have hi : i < O.length + 1 := hi
  show (if 95 = 95 ∧ i = O.length ∧ 0 = 0 then t else s.1 95 0 i) = (if i = O.length then t else qCl O i)
  rw [ifk]
  by_cases e : i = O.length
  · rw [if_pos e, if_pos e]
  · rw [if_neg e, if_neg e]; exact p4 i (by omega)
theorem mPs_in {s : zS} {O c : List Int} {t : Int} (P : mPs s O c) (ht : qIsD t) : mPs (zU (zU (zU s 10 0 60 ((qDp O + 1 : Nat) : Int)) 10 0 58 ((O.length + 1 : Nat) : Int)) 95 0 O.length t) (t :: O) c := by
  obtain ⟨p1, p2, p3, p4, p5⟩ := P
  refine ⟨rfl, p2, ?_, fun i hi => ?_, p5⟩
  · rw [qDp_in ht]; rfl
  have hi : i < O.length + 1 := hi
  show (if 95 = 95 ∧ i = O.length ∧ 0 = 0 then t else s.1 95 0 i) = (if i = O.length then t else qCl O i)
  rw [ifk]
  by_cases e : i = O.length
  · rw [if_pos e, if_pos e]
  · rw [if_neg e, if_neg e]; exact p4 i (by omega)
theorem mPs_96 {s : zS} {O c : List Int} {n j : Nat} {v : Int} (P : mPs s O c) : mPs (zU s 96 n j v) O c := P
theorem qW1m {k : Nat} (h : k < 100000) : zW (((k + 1 : Nat) : Int) - 1) = (k : Int) := by unfold zW; omega
theorem zs_146 {d : Nat} {Q : Option zV → zS → Prop} {p : Int} (hp : 1 ≤ p) : ∀ (O c : List Int) (s : zS), mPs s O c → O.length + c.length ≤ 200 → (∀ s2, mPs s2 (qPp p O c).1 (qPp p O c).2 → mPf s s2 → Q none s2) → zX (d + 1) 146 0 [some (.inr (.inr (10, 0))), some (.inl p)] [] s Q := by
  intro O
  induction O with
  | nil =>
    intro c s P hl h
    have e : s.1 10 0 58 ≤ 0 := by rw [P.1]; exact Int.le_refl 0
    exact zb_146 (fun a => absurd e a) (fun a _ _ _ => absurd e a) (fun a _ _ _ _ => absurd e a) (fun a _ _ _ _ => absurd e a) (fun _ => h s P mPf_r) (fun a _ => absurd e a) (fun a _ _ => absurd e a) (fun a _ _ _ => absurd e a) (fun a _ _ _ _ => absurd e a) (fun a _ _ _ _ => absurd e a)
  | cons x O ih =>
    intro c s P hl h
    have P0 := P
    obtain ⟨p1, p2, p3, p4, p5⟩ := P
    have p1 : s.1 10 0 58 = ((O.length + 1 : Nat) : Int) := p1
    have hl : O.length + 1 + c.length ≤ 200 := hl
    have e : ¬ s.1 10 0 58 ≤ 0 := by omega
    have e1 : zW ((s.1 10 0 58) - 1) = (O.length : Int) := by rw [p1]; exact qW1m (by omega)
    have tp : s.1 95 0 ((zW ((s.1 10 0 58) - 1)).toNat) = x := by
      rw [e1]
      exact (p4 O.length (Nat.lt_succ_self _)).trans (if_pos rfl)
    have stop : qSg x < p → Q none s := fun a => by
      have g : qPp p (x :: O) c = (x :: O, c) := if_neg (Int.not_le.mpr a)
      rw [g] at h
      exact h s P0 mPf_r
    have P1 : ∀ dp : Int, dp = (qDp O : Int) → mPs (zU (zU (zU (zU s 10 0 58 (O.length : Int)) 10 0 60 dp) 10 0 59 ((c.length + 1 : Nat) : Int)) 97 0 c.length x) O (x :: c) := fun dp hd => by
      refine ⟨rfl, rfl, hd, fun i hi => ?_, fun i hi => ?_⟩
      · exact (p4 i (Nat.lt_succ_of_lt hi)).trans (qCl_lt hi)
      · have hi : i < c.length + 1 := hi
        show (if 97 = 97 ∧ i = c.length ∧ 0 = 0 then x else s.1 97 0 i) = (if i = c.length then x else qCl c i)
        rw [ifk]
        by_cases e : i = c.length
        · rw [if_pos e, if_pos e]
        · rw [if_neg e, if_neg e]; exact p5 i (by omega)
    have P2 : ¬ qIsD x → mPs (zU (zU (zU s 10 0 58 (O.length : Int)) 10 0 59 ((c.length + 1 : Nat) : Int)) 97 0 c.length x) O (x :: c) := fun hd => by
      refine ⟨rfl, rfl, ?_, fun i hi => ?_, fun i hi => ?_⟩
      · rw [qDp_op hd] at p3; exact p3
      · exact (p4 i (Nat.lt_succ_of_lt hi)).trans (qCl_lt hi)
      · have hi : i < c.length + 1 := hi
        show (if 97 = 97 ∧ i = c.length ∧ 0 = 0 then x else s.1 97 0 i) = (if i = c.length then x else qCl c i)
        rw [ifk]
        by_cases e : i = c.length
        · rw [if_pos e, if_pos e]
        · rw [if_neg e, if_neg e]; exact p5 i (by omega)
    have us : s.1 10 0 59 = (c.length : Int) := p2
    have fu : zW ((s.1 10 0 59) + 1) = ((c.length + 1 : Nat) : Int) := by rw [us]; exact qW1 (by omega)
    have gp : ¬ qSg x < p → qPp p (x :: O) c = qPp p O (x :: c) := fun a => if_pos (Int.not_lt.mp a)
    have inD : qIsD x → ¬ qSg x < p → zX (d + 1) 146 0 [some (.inr (.inr (10, 0))), some (.inl p)] [] (zU (zU (zU (zU s 10 0 58 (zW ((s.1 10 0 58) - 1))) 10 0 60 (zW ((s.1 10 0 60) - 1))) 10 0 59 (zW ((s.1 10 0 59) + 1))) 97 0 ((s.1 10 0 59).toNat) (s.1 95 0 ((zW ((s.1 10 0 58) - 1)).toNat))) Q := fun dx a => by
      rw [gp a] at h
      have dp : zW ((s.1 10 0 60) - 1) = (qDp O : Int) := by
        rw [p3, qDp_in dx]
        have : qDp O < 100000 := by
          have q : ∀ O : List Int, qDp O ≤ O.length := fun O => by
            induction O with
            | nil => exact Nat.le_refl _
            | cons y O ih =>
              by_cases c : qIsD y
              · rw [qDp_in c]; exact Nat.succ_le_succ ih
              · rw [qDp_op c]; exact Nat.le_succ_of_le ih
          have := q O
          omega
        exact qW1m this
      rw [tp, e1, fu, dp, us]
      refine ih (x :: c) _ (P1 _ rfl) (by show O.length + (c.length + 1) ≤ 200; omega) (fun s2 g1 g2 => h s2 g1 (mPf_t ?_ g2))
      exact mPf_k (mPf_10 (mPf_10 (mPf_10 mPf_r (.inl rfl)) (.inr (.inr rfl))) (.inr (.inl rfl))) (.inr rfl)
    refine zb_146 (fun _ => by rw [e1]; omega) (fun _ _ _ _ => by omega) (fun _ _ _ _ _ => by omega) (fun _ _ _ _ _ => by omega) (fun a => absurd a e) (fun _ a => stop (by rw [tp] at a; exact a)) (fun _ _ a => stop (by rw [tp] at a; rw [a]; show (0 : Int) < p; omega)) (fun _ a _ b => inD (.inl (tp.symm.trans b)) (by rw [tp] at a; exact a)) (fun _ a n19 n12 n18 => ?_) (fun _ a _ _ b => inD (.inr (.inl (tp.symm.trans b))) (by rw [tp] at a; exact a))
    rw [tp] at a n19 n12 n18
    rw [gp a] at h
    rw [tp, e1, fu, us]
    refine ih (x :: c) _ (P2 (fun q => q.elim n12 (fun q => q.elim n18 n19))) (by show O.length + (c.length + 1) ≤ 200; omega) (fun s2 g1 g2 => h s2 g1 (mPf_t ?_ g2))
    exact mPf_k (mPf_10 (mPf_10 mPf_r (.inl rfl)) (.inr (.inl rfl))) (.inr rfl)
theorem zs_147 {d : Nat} {Q : Option zV → zS → Prop} {O c : List Int} {s : zS} {t : Int} (P : mPs s O c) (hl : O.length ≤ 200) (hd : qDp O ≤ 5) (ht : qIsD t) (h1 : qDp O = 5 → Q (some (.inl 0)) s) (h2 : ¬ qDp O = 5 → ∀ s2, mPs s2 (t :: O) c → mPf s s2 → Q (some (.inl 1)) s2) : zM (d + 0) 147 [.inr (.inr (10, 0)), .inl t] s Q := by
  have p1 := P.1
  have p3 := P.2.2.1
  refine zb_147 (fun _ => by omega) (fun a => ?_) (fun a => h1 (by omega))
  rw [p1, p3, qW1 (by omega), qW1 (by omega)]
  exact h2 (by omega) _ (mPs_in P ht) (mPf_k (mPf_10 (mPf_10 mPf_r (.inr (.inr rfl))) (.inl rfl)) (.inl rfl))
-- the states of an expression's reading
def q19 : List Int → Nat
  | [] => 0
  | x :: O => if x = 19 then q19 O + 1 else q19 O
theorem q19_y {x : Int} {O : List Int} (h : x = 19) : q19 (x :: O) = q19 O + 1 := if_pos h
theorem q19_n {x : Int} {O : List Int} (h : ¬ x = 19) : q19 (x :: O) = q19 O := if_neg h
theorem qPp_inv {s : Int} (hs : 1 ≤ s) : ∀ (O c : List Int), (qPp s O c).1.length + (qPp s O c).2.length = O.length + c.length ∧ q19 (qPp s O c).1 = q19 O ∧ qDp (qPp s O c).1 ≤ qDp O ∧ (∀ x, x ∈ (qPp s O c).1 → x ∈ O) ∧ (∀ x, x ∈ (qPp s O c).2 → x ∈ O ∨ x ∈ c) := by
  intro O
  induction O with
  | nil => intro c; exact ⟨rfl, rfl, Nat.le_refl _, fun x hx => hx, fun x hx => .inr hx⟩
  | cons y O ih =>
    intro c
    by_cases a : s ≤ qSg y
    · have g : qPp s (y :: O) c = qPp s O (y :: c) := if_pos a
      rw [g]
      obtain ⟨i1, i2, i3, i4, i5⟩ := ih (y :: c)
      have n19 : ¬ y = 19 := fun e => by
        rw [e] at a
        have : qSg 19 = 0 := rfl
        omega
      have d : qDp O ≤ qDp (y :: O) := by
        by_cases c : qIsD y
        · rw [qDp_in c]; omega
        · rw [qDp_op c]; exact Nat.le_refl _
      refine ⟨?_, i2.trans (q19_n n19).symm, Nat.le_trans i3 d, fun x hx => List.mem_cons_of_mem _ (i4 x hx), fun x hx => ?_⟩
      · rw [i1]
        show O.length + (c.length + 1) = O.length + 1 + c.length
        omega
      · rcases i5 x hx with h | h
        · exact .inl (List.mem_cons_of_mem _ h)
        · rcases List.mem_cons.mp h with h | h
          · exact .inl (by rw [h]; exact List.mem_cons_self)
          · exact .inr h
    · have g : qPp s (y :: O) c = (y :: O, c) := if_neg a
      rw [g]
      exact ⟨rfl, rfl, Nat.le_refl _, fun x hx => hx, fun x hx => .inr hx⟩
theorem qPp_1 : ∀ (O c : List Int), (∀ x, x ∈ O → 10 ≤ x ∧ x ≤ 19) → 1 ≤ q19 O → ∃ O2, (qPp 1 O c).1 = 19 :: O2 := by
  intro O
  induction O with
  | nil => intro c _ h; exact absurd h (by decide)
  | cons y O ih =>
    intro c hO h
    have hy := hO y List.mem_cons_self
    by_cases a : 1 ≤ qSg y
    · have g : qPp 1 (y :: O) c = qPp 1 O (y :: c) := if_pos a
      have n19 : ¬ y = 19 := fun e => by
        rw [e] at a
        have : qSg 19 = 0 := rfl
        omega
      rw [g]
      rw [q19_n n19] at h
      exact ih (y :: c) (fun x hx => hO x (List.mem_cons_of_mem _ hx)) h
    · have g : qPp 1 (y :: O) c = (y :: O, c) := if_neg a
      have e : y = 19 := by
        unfold qSg at a
        (repeat' split at a) <;> omega
      rw [g, e]; exact ⟨O, rfl⟩
/-- what holds of a state with k tokens read -/
def qI (S : qS) (k : Nat) : Prop := q19 S.2.2.1 + 1 = S.2.2.2.1.length ∧ qDp S.2.2.1 ≤ 5 ∧ (∀ x, x ∈ S.2.2.1 → 10 ≤ x ∧ x ≤ 19) ∧ S.2.2.1.length + S.2.2.2.2.length ≤ k
theorem qF_21 {t : Int} {mn : Bool} {O f c : List Int} (h : t = 21) (hf : f.length = 1) : qStp t ⟨false, mn, O, f, c⟩ = some (.inr (qPp 1 O c).2) := by
  unfold qStp
  rw [if_neg Bool.false_ne_true, if_pos ⟨h, hf⟩]
theorem qF_20 {t : Int} {mn : Bool} {O f c : List Int} (h : t = 20) (hf : 1 < f.length) : qStp t ⟨false, mn, O, f, c⟩ = some (.inl ⟨false, mn, (qPp 7 (qPp 1 O c).1.tail (qPp 1 O c).2).1, f.tail, (qPp 7 (qPp 1 O c).1.tail (qPp 1 O c).2).2⟩) := by
  unfold qStp
  rw [if_neg Bool.false_ne_true, if_neg (fun q => by omega), if_pos ⟨h, hf⟩]
theorem qF_log {t : Int} {mn : Bool} {O f c : List Int} (h : t = 10 ∨ t = 11) : qStp t ⟨false, mn, O, f, c⟩ = some (.inl ⟨true, true, t :: (qPp (qSg t) O c).1, 0 :: f.tail, (qPp (qSg t) O c).2⟩) := by
  unfold qStp
  rw [if_neg Bool.false_ne_true, if_neg (fun q => by omega), if_neg (fun q => by omega), if_pos h]
theorem qF_cmp {t : Int} {mn : Bool} {O f c : List Int} (h : t = 13 ∨ t = 14) (h0 : f.headD 0 = 0) : qStp t ⟨false, mn, O, f, c⟩ = some (.inl ⟨true, mn, t :: (qPp 4 O c).1, 1 :: f.tail, (qPp 4 O c).2⟩) := by
  unfold qStp
  rw [if_neg Bool.false_ne_true, if_neg (fun q => by omega), if_neg (fun q => by omega), if_neg (fun q => by omega), if_pos ⟨h, h0⟩]
theorem qF_ar {t : Int} {mn : Bool} {O f c : List Int} (h : t = 15 ∨ t = 16 ∨ t = 17) : qStp t ⟨false, mn, O, f, c⟩ = some (.inl ⟨true, mn, t :: (qPp (qSg t) O c).1, f, (qPp (qSg t) O c).2⟩) := by
  unfold qStp
  rw [if_neg Bool.false_ne_true, if_neg (fun q => by omega), if_neg (fun q => by omega), if_neg (fun q => by omega), if_neg (fun q => by omega), if_pos h]
theorem qF_no {t : Int} {mn : Bool} {O f c : List Int} (h1 : ¬ (t = 21 ∧ f.length = 1)) (h2 : ¬ (t = 20 ∧ 1 < f.length)) (h3 : ¬ (t = 10 ∨ t = 11)) (h4 : ¬ ((t = 13 ∨ t = 14) ∧ f.headD 0 = 0)) (h5 : ¬ (t = 15 ∨ t = 16 ∨ t = 17)) : qStp t ⟨false, mn, O, f, c⟩ = none := by
  unfold qStp
  rw [if_neg Bool.false_ne_true, if_neg h1, if_neg h2, if_neg h3, if_neg h4, if_neg h5]
theorem qT_at {t : Int} {mn : Bool} {O f c : List Int} (h : t < 6 ∨ 100 ≤ t) : qStp t ⟨true, mn, O, f, c⟩ = some (.inl ⟨false, false, (qPp 7 O (t :: c)).1, f, (qPp 7 O (t :: c)).2⟩) := by
  unfold qStp
  rw [if_pos rfl, if_pos h]
theorem qT_no {t : Int} {mn : Bool} {O f c : List Int} (h : ¬ (t < 6 ∨ 100 ≤ t)) (h1 : ¬ t = 16) (h2 : ¬ t = 19) (h3 : ¬ (t = 12 ∧ mn = true)) : qStp t ⟨true, mn, O, f, c⟩ = none := by
  unfold qStp
  rw [if_pos rfl, if_neg h, if_neg h1, if_neg h2, if_neg h3]
theorem qStp_25 {S : qS} : qStp 25 S = none := by
  obtain ⟨w, mn, O, f, c⟩ := S
  cases w
  · exact qF_no (by omega) (by omega) (by omega) (by omega) (by omega)
  · exact qT_no (by omega) (by omega) (by omega) (by omega)
-- X10_isExpression
theorem zb_148 {d : Nat} {σ : zS} {Q : Option zV → zS → Prop} 
    (h1 : zX (d + 20) 148 17 [some (.inr (.inr (10, 0))), some (.inl 1), some (.inl 1), some (.inl 0)] [] (zU (zU (zU σ 10 0 60 0) 10 0 58 0) 96 0 0 0) Q) :
    zM (d + 20) 148 [.inr (.inr (10, 0))] σ Q := by
  refine zX_run (n' := 16) (ls' := [some (.inr (.inr (10, 0))), some (.inl 1), some (.inl 1), some (.inl 0)]) (st' := [.inl 0, .inl 0, .inr (.inr (96, 0))]) (σ' := (zU (zU σ 10 0 60 0) 10 0 58 0)) 16 rfl ?_
  refine zX_ast1 (L := 8) rfl (by decide) rfl (by decide) ?_
  exact h1
-- X10_isExpression
theorem zb_148_19 {d : Nat} {σ : zS} {Q : Option zV → zS → Prop} {w m p : Int}
    (h1 : w = 0 → zX (d + 20) 148 95 [some (.inr (.inr (10, 0))), some (.inl w), some (.inl m), some (.inl p)] [] σ Q)
    (h2 : ¬ w = 0 → σ.1 10 0 56 < 6 → zX (d + 20) 148 29 [some (.inr (.inr (10, 0))), some (.inl w), some (.inl m), some (.inl p)] [] σ Q)
    (h3 : ¬ w = 0 → ¬ σ.1 10 0 56 < 6 → σ.1 10 0 56 < 100 → zX (d + 20) 148 49 [some (.inr (.inr (10, 0))), some (.inl w), some (.inl m), some (.inl p)] [] σ Q)
    (h4 : ¬ w = 0 → ¬ σ.1 10 0 56 < 6 → ¬ σ.1 10 0 56 < 100 → zX (d + 20) 148 29 [some (.inr (.inr (10, 0))), some (.inl w), some (.inl m), some (.inl p)] [] σ Q) :
    zX (d + 20) 148 19 [some (.inr (.inr (10, 0))), some (.inl w), some (.inl m), some (.inl p)] [] σ Q := by
  refine zX_run (n' := 20) (ls' := [some (.inr (.inr (10, 0))), some (.inl w), some (.inl m), some (.inl p)]) (st' := [.inl w]) (σ' := σ) 1 rfl ?_
  refine zX_i0 rfl (fun a1 => ?_) (fun a1 => ?_)
  · skip
    exact h1 a1
  · skip
    refine zX_run (n' := 24) (ls' := [some (.inr (.inr (10, 0))), some (.inl w), some (.inl m), some (.inl p)]) (st' := [.inl 6, .inl (σ.1 10 0 56)]) (σ' := σ) 3 rfl ?_
    refine zX_c2 rfl (fun a2 => ?_) (fun a2 => ?_)
    · skip
      exact h2 a1 a2
    · skip
      refine zX_run (n' := 28) (ls' := [some (.inr (.inr (10, 0))), some (.inl w), some (.inl m), some (.inl p)]) (st' := [.inl 100, .inl (σ.1 10 0 56)]) (σ' := σ) 3 rfl ?_
      refine zX_c2 rfl (fun a3 => ?_) (fun a3 => ?_)
      · skip
        exact h3 a1 a2 a3
      · skip
        exact h4 a1 a2 a3
-- X10_isExpression
theorem zb_148_29 {d : Nat} {σ : zS} {Q : Option zV → zS → Prop} {w m p : Int}
    (o1 : (0 : Int) ≤ σ.1 10 0 59 ∧ σ.1 10 0 59 < (300 : Int))
    (h1 : zX (d + 20) 148 43 [some (.inr (.inr (10, 0))), some (.inl w), some (.inl m), some (.inl p)] [.inl 7, .inr (.inr (10, 0))] (zU (zU σ 10 0 59 (zW ((σ.1 10 0 59) + 1))) 97 0 ((σ.1 10 0 59).toNat) (σ.1 10 0 56)) Q) :
    zX (d + 20) 148 29 [some (.inr (.inr (10, 0))), some (.inl w), some (.inl m), some (.inl p)] [] σ Q := by
  refine zX_run (n' := 40) (ls' := [some (.inr (.inr (10, 0))), some (.inl w), some (.inl m), some (.inl p)]) (st' := [.inl (σ.1 10 0 56), .inl (σ.1 10 0 59), .inr (.inr (97, 0))]) (σ' := (zU σ 10 0 59 (zW ((σ.1 10 0 59) + 1)))) 11 rfl ?_
  refine zX_ast1 (L := 300) rfl (by decide) rfl o1 ?_
  refine zX_run (n' := 43) (ls' := [some (.inr (.inr (10, 0))), some (.inl w), some (.inl m), some (.inl p)]) (st' := [.inl 7, .inr (.inr (10, 0))]) (σ' := (zU (zU σ 10 0 59 (zW ((σ.1 10 0 59) + 1))) 97 0 ((σ.1 10 0 59).toNat) (σ.1 10 0 56))) 2 rfl ?_
  exact h1
-- X10_isExpression
theorem zb_148_49 {d : Nat} {σ : zS} {Q : Option zV → zS → Prop} {w m p : Int}
    (h1 : ¬ σ.1 10 0 56 = 16 → zX (d + 20) 148 62 [some (.inr (.inr (10, 0))), some (.inl w), some (.inl m), some (.inl p)] [] σ Q)
    (h2 : σ.1 10 0 56 = 16 → zX (d + 20) 148 55 [some (.inr (.inr (10, 0))), some (.inl w), some (.inl m), some (.inl p)] [.inl 18, .inr (.inr (10, 0))] σ Q) :
    zX (d + 20) 148 49 [some (.inr (.inr (10, 0))), some (.inl w), some (.inl m), some (.inl p)] [] σ Q := by
  refine zX_run (n' := 52) (ls' := [some (.inr (.inr (10, 0))), some (.inl w), some (.inl m), some (.inl p)]) (st' := [.inl 16, .inl (σ.1 10 0 56)]) (σ' := σ) 3 rfl ?_
  refine zX_c1 rfl (fun a1 => ?_) (fun a1 => ?_)
  · skip
    exact h1 a1
  · skip
    refine zX_run (n' := 55) (ls' := [some (.inr (.inr (10, 0))), some (.inl w), some (.inl m), some (.inl p)]) (st' := [.inl 18, .inr (.inr (10, 0))]) (σ' := σ) 2 rfl ?_
    exact h2 a1
-- X10_isExpression
theorem zb_148_62 {d : Nat} {σ : zS} {Q : Option zV → zS → Prop} {w m p : Int}
    (h1 : ¬ σ.1 10 0 56 = 19 → zX (d + 20) 148 81 [some (.inr (.inr (10, 0))), some (.inl w), some (.inl m), some (.inl p)] [] σ Q)
    (h2 : σ.1 10 0 56 = 19 → zX (d + 20) 148 68 [some (.inr (.inr (10, 0))), some (.inl w), some (.inl m), some (.inl p)] [.inl 19, .inr (.inr (10, 0))] σ Q) :
    zX (d + 20) 148 62 [some (.inr (.inr (10, 0))), some (.inl w), some (.inl m), some (.inl p)] [] σ Q := by
  refine zX_run (n' := 65) (ls' := [some (.inr (.inr (10, 0))), some (.inl w), some (.inl m), some (.inl p)]) (st' := [.inl 19, .inl (σ.1 10 0 56)]) (σ' := σ) 3 rfl ?_
  refine zX_c1 rfl (fun a1 => ?_) (fun a1 => ?_)
  · skip
    exact h1 a1
  · skip
    refine zX_run (n' := 68) (ls' := [some (.inr (.inr (10, 0))), some (.inl w), some (.inl m), some (.inl p)]) (st' := [.inl 19, .inr (.inr (10, 0))]) (σ' := σ) 2 rfl ?_
    exact h2 a1
-- X10_isExpression
theorem zb_148_81 {d : Nat} {σ : zS} {Q : Option zV → zS → Prop} {w m p : Int}
    (h1 : ¬ σ.1 10 0 56 = 12 → Q (some (.inl 0)) σ)
    (h2 : σ.1 10 0 56 = 12 → m = 0 → Q (some (.inl 0)) σ)
    (h3 : σ.1 10 0 56 = 12 → ¬ m = 0 → zX (d + 20) 148 89 [some (.inr (.inr (10, 0))), some (.inl w), some (.inl m), some (.inl p)] [.inl 12, .inr (.inr (10, 0))] σ Q) :
    zX (d + 20) 148 81 [some (.inr (.inr (10, 0))), some (.inl w), some (.inl m), some (.inl p)] [] σ Q := by
  refine zX_run (n' := 84) (ls' := [some (.inr (.inr (10, 0))), some (.inl w), some (.inl m), some (.inl p)]) (st' := [.inl 12, .inl (σ.1 10 0 56)]) (σ' := σ) 3 rfl ?_
  refine zX_c1 rfl (fun a1 => ?_) (fun a1 => ?_)
  · skip
    refine zX_run (n' := 94) (ls' := [some (.inr (.inr (10, 0))), some (.inl w), some (.inl m), some (.inl p)]) (st' := [.inl 0]) (σ' := σ) 1 rfl ?_
    exact zX_ret rfl rfl (h1 a1)
  · skip
    refine zX_run (n' := 86) (ls' := [some (.inr (.inr (10, 0))), some (.inl w), some (.inl m), some (.inl p)]) (st' := [.inl m]) (σ' := σ) 1 rfl ?_
    refine zX_i0 rfl (fun a2 => ?_) (fun a2 => ?_)
    · skip
      refine zX_run (n' := 94) (ls' := [some (.inr (.inr (10, 0))), some (.inl w), some (.inl m), some (.inl p)]) (st' := [.inl 0]) (σ' := σ) 1 rfl ?_
      exact zX_ret rfl rfl (h2 a1 a2)
    · skip
      refine zX_run (n' := 89) (ls' := [some (.inr (.inr (10, 0))), some (.inl w), some (.inl m), some (.inl p)]) (st' := [.inl 12, .inr (.inr (10, 0))]) (σ' := σ) 2 rfl ?_
      exact h3 a1 a2
-- X10_isExpression
theorem zb_148_95 {d : Nat} {σ : zS} {Q : Option zV → zS → Prop} {w m p : Int}
    (h1 : ¬ σ.1 10 0 56 = 21 → zX (d + 20) 148 106 [some (.inr (.inr (10, 0))), some (.inl w), some (.inl m), some (.inl p)] [] σ Q)
    (h2 : σ.1 10 0 56 = 21 → ¬ p = 0 → zX (d + 20) 148 106 [some (.inr (.inr (10, 0))), some (.inl w), some (.inl m), some (.inl p)] [] σ Q)
    (h3 : σ.1 10 0 56 = 21 → p = 0 → zX (d + 20) 148 103 [some (.inr (.inr (10, 0))), some (.inl w), some (.inl m), some (.inl p)] [.inl 1, .inr (.inr (10, 0))] σ Q) :
    zX (d + 20) 148 95 [some (.inr (.inr (10, 0))), some (.inl w), some (.inl m), some (.inl p)] [] σ Q := by
  refine zX_run (n' := 98) (ls' := [some (.inr (.inr (10, 0))), some (.inl w), some (.inl m), some (.inl p)]) (st' := [.inl 21, .inl (σ.1 10 0 56)]) (σ' := σ) 3 rfl ?_
  refine zX_c1 rfl (fun a1 => ?_) (fun a1 => ?_)
  · skip
    exact h1 a1
  · skip
    refine zX_run (n' := 100) (ls' := [some (.inr (.inr (10, 0))), some (.inl w), some (.inl m), some (.inl p)]) (st' := [.inl p]) (σ' := σ) 1 rfl ?_
    refine zX_i1 rfl (fun a2 => ?_) (fun a2 => ?_)
    · skip
      exact h2 a1 a2
    · skip
      refine zX_run (n' := 103) (ls' := [some (.inr (.inr (10, 0))), some (.inl w), some (.inl m), some (.inl p)]) (st' := [.inl 1, .inr (.inr (10, 0))]) (σ' := σ) 2 rfl ?_
      exact h3 a1 a2
-- X10_isExpression
theorem zb_148_106 {d : Nat} {σ : zS} {Q : Option zV → zS → Prop} {w m p : Int}
    (h1 : ¬ σ.1 10 0 56 = 20 → zX (d + 20) 148 132 [some (.inr (.inr (10, 0))), some (.inl w), some (.inl m), some (.inl p)] [] σ Q)
    (h2 : σ.1 10 0 56 = 20 → p ≤ 0 → zX (d + 20) 148 132 [some (.inr (.inr (10, 0))), some (.inl w), some (.inl m), some (.inl p)] [] σ Q)
    (h3 : σ.1 10 0 56 = 20 → ¬ p ≤ 0 → zX (d + 20) 148 114 [some (.inr (.inr (10, 0))), some (.inl w), some (.inl m), some (.inl p)] [.inl 1, .inr (.inr (10, 0))] σ Q) :
    zX (d + 20) 148 106 [some (.inr (.inr (10, 0))), some (.inl w), some (.inl m), some (.inl p)] [] σ Q := by
  refine zX_run (n' := 109) (ls' := [some (.inr (.inr (10, 0))), some (.inl w), some (.inl m), some (.inl p)]) (st' := [.inl 20, .inl (σ.1 10 0 56)]) (σ' := σ) 3 rfl ?_
  refine zX_c1 rfl (fun a1 => ?_) (fun a1 => ?_)
  · skip
    exact h1 a1
  · skip
    refine zX_run (n' := 111) (ls' := [some (.inr (.inr (10, 0))), some (.inl w), some (.inl m), some (.inl p)]) (st' := [.inl p]) (σ' := σ) 1 rfl ?_
    refine zX_i5 rfl (fun a2 => ?_) (fun a2 => ?_)
    · skip
      exact h2 a1 a2
    · skip
      refine zX_run (n' := 114) (ls' := [some (.inr (.inr (10, 0))), some (.inl w), some (.inl m), some (.inl p)]) (st' := [.inl 1, .inr (.inr (10, 0))]) (σ' := σ) 2 rfl ?_
      exact h3 a1 a2
-- X10_isExpression
theorem zb_148_132 {d : Nat} {σ : zS} {Q : Option zV → zS → Prop} {w m p : Int}
    (h1 : σ.1 10 0 56 = 10 → zX (d + 20) 148 144 [some (.inr (.inr (10, 0))), some (.inl w), some (.inl m), some (.inl p)] [.inl (qSg (σ.1 10 0 56)), .inr (.inr (10, 0))] σ Q)
    (h2 : ¬ σ.1 10 0 56 = 10 → ¬ σ.1 10 0 56 = 11 → zX (d + 20) 148 167 [some (.inr (.inr (10, 0))), some (.inl w), some (.inl m), some (.inl p)] [] σ Q)
    (h3 : ¬ σ.1 10 0 56 = 10 → σ.1 10 0 56 = 11 → zX (d + 20) 148 144 [some (.inr (.inr (10, 0))), some (.inl w), some (.inl m), some (.inl p)] [.inl (qSg (σ.1 10 0 56)), .inr (.inr (10, 0))] σ Q) :
    zX (d + 20) 148 132 [some (.inr (.inr (10, 0))), some (.inl w), some (.inl m), some (.inl p)] [] σ Q := by
  refine zX_run (n' := 135) (ls' := [some (.inr (.inr (10, 0))), some (.inl w), some (.inl m), some (.inl p)]) (st' := [.inl 10, .inl (σ.1 10 0 56)]) (σ' := σ) 3 rfl ?_
  refine zX_c0 rfl (fun a1 => ?_) (fun a1 => ?_)
  · skip
    refine zX_run (n' := 143) (ls' := [some (.inr (.inr (10, 0))), some (.inl w), some (.inl m), some (.inl p)]) (st' := [.inl (σ.1 10 0 56), .inr (.inr (10, 0))]) (σ' := σ) 3 rfl ?_
    refine zX_call rfl rfl ?_
    refine zs_145 ?_
    · skip
      exact h1 a1
  · skip
    refine zX_run (n' := 139) (ls' := [some (.inr (.inr (10, 0))), some (.inl w), some (.inl m), some (.inl p)]) (st' := [.inl 11, .inl (σ.1 10 0 56)]) (σ' := σ) 3 rfl ?_
    refine zX_c1 rfl (fun a2 => ?_) (fun a2 => ?_)
    · skip
      exact h2 a1 a2
    · skip
      refine zX_run (n' := 143) (ls' := [some (.inr (.inr (10, 0))), some (.inl w), some (.inl m), some (.inl p)]) (st' := [.inl (σ.1 10 0 56), .inr (.inr (10, 0))]) (σ' := σ) 3 rfl ?_
      refine zX_call rfl rfl ?_
      refine zs_145 ?_
      · skip
        exact h3 a1 a2
-- X10_isExpression
theorem zb_148_167 {d : Nat} {σ : zS} {Q : Option zV → zS → Prop} {w m p : Int}
    (o1 : σ.1 10 0 56 = 13 → (0 : Int) ≤ p ∧ p < (8 : Int))
    (o2 : ¬ σ.1 10 0 56 = 13 → σ.1 10 0 56 = 14 → (0 : Int) ≤ p ∧ p < (8 : Int))
    (h1 : σ.1 10 0 56 = 13 → ¬ σ.1 96 0 (p.toNat) = 0 → zX (d + 20) 148 203 [some (.inr (.inr (10, 0))), some (.inl w), some (.inl m), some (.inl p)] [] σ Q)
    (h2 : σ.1 10 0 56 = 13 → σ.1 96 0 (p.toNat) = 0 → zX (d + 20) 148 182 [some (.inr (.inr (10, 0))), some (.inl w), some (.inl m), some (.inl p)] [.inl 4, .inr (.inr (10, 0))] σ Q)
    (h3 : ¬ σ.1 10 0 56 = 13 → ¬ σ.1 10 0 56 = 14 → zX (d + 20) 148 203 [some (.inr (.inr (10, 0))), some (.inl w), some (.inl m), some (.inl p)] [] σ Q)
    (h4 : ¬ σ.1 10 0 56 = 13 → σ.1 10 0 56 = 14 → ¬ σ.1 96 0 (p.toNat) = 0 → zX (d + 20) 148 203 [some (.inr (.inr (10, 0))), some (.inl w), some (.inl m), some (.inl p)] [] σ Q)
    (h5 : ¬ σ.1 10 0 56 = 13 → σ.1 10 0 56 = 14 → σ.1 96 0 (p.toNat) = 0 → zX (d + 20) 148 182 [some (.inr (.inr (10, 0))), some (.inl w), some (.inl m), some (.inl p)] [.inl 4, .inr (.inr (10, 0))] σ Q) :
    zX (d + 20) 148 167 [some (.inr (.inr (10, 0))), some (.inl w), some (.inl m), some (.inl p)] [] σ Q := by
  refine zX_run (n' := 170) (ls' := [some (.inr (.inr (10, 0))), some (.inl w), some (.inl m), some (.inl p)]) (st' := [.inl 13, .inl (σ.1 10 0 56)]) (σ' := σ) 3 rfl ?_
  refine zX_c0 rfl (fun a1 => ?_) (fun a1 => ?_)
  · skip
    refine zX_run (n' := 178) (ls' := [some (.inr (.inr (10, 0))), some (.inl w), some (.inl m), some (.inl p)]) (st' := [.inl p, .inr (.inr (96, 0))]) (σ' := σ) 3 rfl ?_
    refine zX_ald1 (L := 8) rfl (by decide) rfl (o1 a1) ?_
    refine zX_i1 rfl (fun a2 => ?_) (fun a2 => ?_)
    · skip
      exact h1 a1 a2
    · skip
      refine zX_run (n' := 182) (ls' := [some (.inr (.inr (10, 0))), some (.inl w), some (.inl m), some (.inl p)]) (st' := [.inl 4, .inr (.inr (10, 0))]) (σ' := σ) 2 rfl ?_
      exact h2 a1 a2
  · skip
    refine zX_run (n' := 174) (ls' := [some (.inr (.inr (10, 0))), some (.inl w), some (.inl m), some (.inl p)]) (st' := [.inl 14, .inl (σ.1 10 0 56)]) (σ' := σ) 3 rfl ?_
    refine zX_c1 rfl (fun a3 => ?_) (fun a3 => ?_)
    · skip
      exact h3 a1 a3
    · skip
      refine zX_run (n' := 178) (ls' := [some (.inr (.inr (10, 0))), some (.inl w), some (.inl m), some (.inl p)]) (st' := [.inl p, .inr (.inr (96, 0))]) (σ' := σ) 3 rfl ?_
      refine zX_ald1 (L := 8) rfl (by decide) rfl (o2 a1 a3) ?_
      refine zX_i1 rfl (fun a4 => ?_) (fun a4 => ?_)
      · skip
        exact h4 a1 a3 a4
      · skip
        refine zX_run (n' := 182) (ls' := [some (.inr (.inr (10, 0))), some (.inl w), some (.inl m), some (.inl p)]) (st' := [.inl 4, .inr (.inr (10, 0))]) (σ' := σ) 2 rfl ?_
        exact h5 a1 a3 a4
-- X10_isExpression
theorem zb_148_203 {d : Nat} {σ : zS} {Q : Option zV → zS → Prop} {w m p : Int}
    (h1 : σ.1 10 0 56 = 15 → zX (d + 20) 148 219 [some (.inr (.inr (10, 0))), some (.inl w), some (.inl m), some (.inl p)] [.inl (qSg (σ.1 10 0 56)), .inr (.inr (10, 0))] σ Q)
    (h2 : ¬ σ.1 10 0 56 = 15 → σ.1 10 0 56 = 16 → zX (d + 20) 148 219 [some (.inr (.inr (10, 0))), some (.inl w), some (.inl m), some (.inl p)] [.inl (qSg (σ.1 10 0 56)), .inr (.inr (10, 0))] σ Q)
    (h3 : ¬ σ.1 10 0 56 = 15 → ¬ σ.1 10 0 56 = 16 → ¬ σ.1 10 0 56 = 17 → Q (some (.inl 0)) σ)
    (h4 : ¬ σ.1 10 0 56 = 15 → ¬ σ.1 10 0 56 = 16 → σ.1 10 0 56 = 17 → zX (d + 20) 148 219 [some (.inr (.inr (10, 0))), some (.inl w), some (.inl m), some (.inl p)] [.inl (qSg (σ.1 10 0 56)), .inr (.inr (10, 0))] σ Q) :
    zX (d + 20) 148 203 [some (.inr (.inr (10, 0))), some (.inl w), some (.inl m), some (.inl p)] [] σ Q := by
  refine zX_run (n' := 206) (ls' := [some (.inr (.inr (10, 0))), some (.inl w), some (.inl m), some (.inl p)]) (st' := [.inl 15, .inl (σ.1 10 0 56)]) (σ' := σ) 3 rfl ?_
  refine zX_c0 rfl (fun a1 => ?_) (fun a1 => ?_)
  · skip
    refine zX_run (n' := 218) (ls' := [some (.inr (.inr (10, 0))), some (.inl w), some (.inl m), some (.inl p)]) (st' := [.inl (σ.1 10 0 56), .inr (.inr (10, 0))]) (σ' := σ) 3 rfl ?_
    refine zX_call rfl rfl ?_
    refine zs_145 ?_
    · skip
      exact h1 a1
  · skip
    refine zX_run (n' := 210) (ls' := [some (.inr (.inr (10, 0))), some (.inl w), some (.inl m), some (.inl p)]) (st' := [.inl 16, .inl (σ.1 10 0 56)]) (σ' := σ) 3 rfl ?_
    refine zX_c0 rfl (fun a2 => ?_) (fun a2 => ?_)
    · skip
      refine zX_run (n' := 218) (ls' := [some (.inr (.inr (10, 0))), some (.inl w), some (.inl m), some (.inl p)]) (st' := [.inl (σ.1 10 0 56), .inr (.inr (10, 0))]) (σ' := σ) 3 rfl ?_
      refine zX_call rfl rfl ?_
      refine zs_145 ?_
      · skip
        exact h2 a1 a2
    · skip
      refine zX_run (n' := 214) (ls' := [some (.inr (.inr (10, 0))), some (.inl w), some (.inl m), some (.inl p)]) (st' := [.inl 17, .inl (σ.1 10 0 56)]) (σ' := σ) 3 rfl ?_
      refine zX_c1 rfl (fun a3 => ?_) (fun a3 => ?_)
      · skip
        refine zX_run (n' := 236) (ls' := [some (.inr (.inr (10, 0))), some (.inl w), some (.inl m), some (.inl p)]) (st' := [.inl 0]) (σ' := σ) 1 rfl ?_
        exact zX_ret rfl rfl (h3 a1 a2 a3)
      · skip
        refine zX_run (n' := 218) (ls' := [some (.inr (.inr (10, 0))), some (.inl w), some (.inl m), some (.inl p)]) (st' := [.inl (σ.1 10 0 56), .inr (.inr (10, 0))]) (σ' := σ) 3 rfl ?_
        refine zX_call rfl rfl ?_
        refine zs_145 ?_
        · skip
          exact h4 a1 a2 a3
-- X10_isExpression
theorem zb_148_44 {d : Nat} {σ : zS} {Q : Option zV → zS → Prop} {w m p : Int}
    (h1 : zX (d + 20) 148 17 [some (.inr (.inr (10, 0))), some (.inl 0), some (.inl 0), some (.inl p)] [] σ Q) :
    zX (d + 20) 148 44 [some (.inr (.inr (10, 0))), some (.inl w), some (.inl m), some (.inl p)] [] σ Q := by
  refine zX_run (n' := 17) (ls' := [some (.inr (.inr (10, 0))), some (.inl 0), some (.inl 0), some (.inl p)]) (st' := []) (σ' := σ) 5 rfl ?_
  exact h1
-- X10_isExpression
theorem zb_148_56 {d : Nat} {σ : zS} {Q : Option zV → zS → Prop} {w m p : Int} {v : Int}
    (h1 : ¬ v = 0 → zX (d + 20) 148 17 [some (.inr (.inr (10, 0))), some (.inl w), some (.inl 0), some (.inl p)] [] σ Q)
    (h2 : v = 0 → Q (some (.inl 0)) σ) :
    zX (d + 20) 148 56 [some (.inr (.inr (10, 0))), some (.inl w), some (.inl m), some (.inl p)] [.inl v] σ Q := by
  refine zX_i1 rfl (fun a1 => ?_) (fun a1 => ?_)
  · skip
    refine zX_run (n' := 17) (ls' := [some (.inr (.inr (10, 0))), some (.inl w), some (.inl 0), some (.inl p)]) (st' := []) (σ' := σ) 3 rfl ?_
    exact h1 a1
  · skip
    refine zX_run (n' := 58) (ls' := [some (.inr (.inr (10, 0))), some (.inl w), some (.inl m), some (.inl p)]) (st' := [.inl 0]) (σ' := σ) 1 rfl ?_
    exact zX_ret rfl rfl (h2 a1)
-- X10_isExpression
theorem zb_148_69 {d : Nat} {σ : zS} {Q : Option zV → zS → Prop} {w m p : Int} {v : Int}
    (o1 : ¬ v = 0 → (0 : Int) ≤ zW (p + 1) ∧ zW (p + 1) < (8 : Int))
    (h1 : ¬ v = 0 → zX (d + 20) 148 17 [some (.inr (.inr (10, 0))), some (.inl w), some (.inl 1), some (.inl (zW (p + 1)))] [] (zU σ 96 0 ((zW (p + 1)).toNat) 0) Q)
    (h2 : v = 0 → Q (some (.inl 0)) σ) :
    zX (d + 20) 148 69 [some (.inr (.inr (10, 0))), some (.inl w), some (.inl m), some (.inl p)] [.inl v] σ Q := by
  refine zX_i1 rfl (fun a1 => ?_) (fun a1 => ?_)
  · skip
    refine zX_run (n' := 77) (ls' := [some (.inr (.inr (10, 0))), some (.inl w), some (.inl m), some (.inl (zW (p + 1)))]) (st' := [.inl 0, .inl (zW (p + 1)), .inr (.inr (96, 0))]) (σ' := σ) 5 rfl ?_
    refine zX_ast1 (L := 8) rfl (by decide) rfl (o1 a1) ?_
    refine zX_run (n' := 17) (ls' := [some (.inr (.inr (10, 0))), some (.inl w), some (.inl 1), some (.inl (zW (p + 1)))]) (st' := []) (σ' := (zU σ 96 0 ((zW (p + 1)).toNat) 0)) 3 rfl ?_
    exact h1 a1
  · skip
    refine zX_run (n' := 71) (ls' := [some (.inr (.inr (10, 0))), some (.inl w), some (.inl m), some (.inl p)]) (st' := [.inl 0]) (σ' := σ) 1 rfl ?_
    exact zX_ret rfl rfl (h2 a1)
-- X10_isExpression
theorem zb_148_90 {d : Nat} {σ : zS} {Q : Option zV → zS → Prop} {w m p : Int} {v : Int}
    (h1 : ¬ v = 0 → zX (d + 20) 148 17 [some (.inr (.inr (10, 0))), some (.inl w), some (.inl m), some (.inl p)] [] σ Q)
    (h2 : v = 0 → Q (some (.inl 0)) σ) :
    zX (d + 20) 148 90 [some (.inr (.inr (10, 0))), some (.inl w), some (.inl m), some (.inl p)] [.inl v] σ Q := by
  refine zX_i1 rfl (fun a1 => ?_) (fun a1 => ?_)
  · skip
    exact h1 a1
  · skip
    refine zX_run (n' := 92) (ls' := [some (.inr (.inr (10, 0))), some (.inl w), some (.inl m), some (.inl p)]) (st' := [.inl 0]) (σ' := σ) 1 rfl ?_
    exact zX_ret rfl rfl (h2 a1)
-- X10_isExpression
theorem zb_148_104 {d : Nat} {σ : zS} {Q : Option zV → zS → Prop} {w m p : Int}
    (h1 : Q (some (.inl 1)) σ) :
    zX (d + 20) 148 104 [some (.inr (.inr (10, 0))), some (.inl w), some (.inl m), some (.inl p)] [] σ Q := by
  refine zX_run (n' := 105) (ls' := [some (.inr (.inr (10, 0))), some (.inl w), some (.inl m), some (.inl p)]) (st' := [.inl 1]) (σ' := σ) 1 rfl ?_
  exact zX_ret rfl rfl h1
-- X10_isExpression
theorem zb_148_115 {d : Nat} {σ : zS} {Q : Option zV → zS → Prop} {w m p : Int}
    (h1 : zX (d + 20) 148 130 [some (.inr (.inr (10, 0))), some (.inl w), some (.inl m), some (.inl (zW (p + (-1))))] [.inl 7, .inr (.inr (10, 0))] (zU (zU σ 10 0 58 (zW ((σ.1 10 0 58) - 1))) 10 0 60 (zW ((σ.1 10 0 60) - 1))) Q) :
    zX (d + 20) 148 115 [some (.inr (.inr (10, 0))), some (.inl w), some (.inl m), some (.inl p)] [] σ Q := by
  refine zX_run (n' := 130) (ls' := [some (.inr (.inr (10, 0))), some (.inl w), some (.inl m), some (.inl (zW (p + (-1))))]) (st' := [.inl 7, .inr (.inr (10, 0))]) (σ' := (zU (zU σ 10 0 58 (zW ((σ.1 10 0 58) - 1))) 10 0 60 (zW ((σ.1 10 0 60) - 1)))) 15 rfl ?_
  exact h1
-- X10_isExpression
theorem zb_148_131 {d : Nat} {σ : zS} {Q : Option zV → zS → Prop} {w m p : Int}
    (h1 : zX (d + 20) 148 17 [some (.inr (.inr (10, 0))), some (.inl w), some (.inl m), some (.inl p)] [] σ Q) :
    zX (d + 20) 148 131 [some (.inr (.inr (10, 0))), some (.inl w), some (.inl m), some (.inl p)] [] σ Q := by
  refine zX_run (n' := 17) (ls' := [some (.inr (.inr (10, 0))), some (.inl w), some (.inl m), some (.inl p)]) (st' := []) (σ' := σ) 1 rfl ?_
  exact h1
-- X10_isExpression
theorem zb_148_145 {d : Nat} {σ : zS} {Q : Option zV → zS → Prop} {w m p : Int}
    (o1 : (0 : Int) ≤ σ.1 10 0 58 ∧ σ.1 10 0 58 < (300 : Int))
    (o2 : (0 : Int) ≤ p ∧ p < (8 : Int))
    (h1 : zX (d + 20) 148 17 [some (.inr (.inr (10, 0))), some (.inl 1), some (.inl 1), some (.inl p)] [] (zU (zU (zU σ 10 0 58 (zW ((σ.1 10 0 58) + 1))) 95 0 ((σ.1 10 0 58).toNat) (σ.1 10 0 56)) 96 0 (p.toNat) 0) Q) :
    zX (d + 20) 148 145 [some (.inr (.inr (10, 0))), some (.inl w), some (.inl m), some (.inl p)] [] σ Q := by
  refine zX_run (n' := 156) (ls' := [some (.inr (.inr (10, 0))), some (.inl w), some (.inl m), some (.inl p)]) (st' := [.inl (σ.1 10 0 56), .inl (σ.1 10 0 58), .inr (.inr (95, 0))]) (σ' := (zU σ 10 0 58 (zW ((σ.1 10 0 58) + 1)))) 11 rfl ?_
  refine zX_ast1 (L := 300) rfl (by decide) rfl o1 ?_
  refine zX_run (n' := 161) (ls' := [some (.inr (.inr (10, 0))), some (.inl w), some (.inl m), some (.inl p)]) (st' := [.inl 0, .inl p, .inr (.inr (96, 0))]) (σ' := (zU (zU σ 10 0 58 (zW ((σ.1 10 0 58) + 1))) 95 0 ((σ.1 10 0 58).toNat) (σ.1 10 0 56))) 4 rfl ?_
  refine zX_ast1 (L := 8) rfl (by decide) rfl o2 ?_
  refine zX_run (n' := 17) (ls' := [some (.inr (.inr (10, 0))), some (.inl 1), some (.inl 1), some (.inl p)]) (st' := []) (σ' := (zU (zU (zU σ 10 0 58 (zW ((σ.1 10 0 58) + 1))) 95 0 ((σ.1 10 0 58).toNat) (σ.1 10 0 56)) 96 0 (p.toNat) 0)) 5 rfl ?_
  exact h1
-- X10_isExpression
theorem zb_148_183 {d : Nat} {σ : zS} {Q : Option zV → zS → Prop} {w m p : Int}
    (o1 : (0 : Int) ≤ σ.1 10 0 58 ∧ σ.1 10 0 58 < (300 : Int))
    (o2 : (0 : Int) ≤ p ∧ p < (8 : Int))
    (h1 : zX (d + 20) 148 17 [some (.inr (.inr (10, 0))), some (.inl 1), some (.inl m), some (.inl p)] [] (zU (zU (zU σ 10 0 58 (zW ((σ.1 10 0 58) + 1))) 95 0 ((σ.1 10 0 58).toNat) (σ.1 10 0 56)) 96 0 (p.toNat) 1) Q) :
    zX (d + 20) 148 183 [some (.inr (.inr (10, 0))), some (.inl w), some (.inl m), some (.inl p)] [] σ Q := by
  refine zX_run (n' := 194) (ls' := [some (.inr (.inr (10, 0))), some (.inl w), some (.inl m), some (.inl p)]) (st' := [.inl (σ.1 10 0 56), .inl (σ.1 10 0 58), .inr (.inr (95, 0))]) (σ' := (zU σ 10 0 58 (zW ((σ.1 10 0 58) + 1)))) 11 rfl ?_
  refine zX_ast1 (L := 300) rfl (by decide) rfl o1 ?_
  refine zX_run (n' := 199) (ls' := [some (.inr (.inr (10, 0))), some (.inl w), some (.inl m), some (.inl p)]) (st' := [.inl 1, .inl p, .inr (.inr (96, 0))]) (σ' := (zU (zU σ 10 0 58 (zW ((σ.1 10 0 58) + 1))) 95 0 ((σ.1 10 0 58).toNat) (σ.1 10 0 56))) 4 rfl ?_
  refine zX_ast1 (L := 8) rfl (by decide) rfl o2 ?_
  refine zX_run (n' := 17) (ls' := [some (.inr (.inr (10, 0))), some (.inl 1), some (.inl m), some (.inl p)]) (st' := []) (σ' := (zU (zU (zU σ 10 0 58 (zW ((σ.1 10 0 58) + 1))) 95 0 ((σ.1 10 0 58).toNat) (σ.1 10 0 56)) 96 0 (p.toNat) 1)) 3 rfl ?_
  exact h1
-- X10_isExpression
theorem zb_148_220 {d : Nat} {σ : zS} {Q : Option zV → zS → Prop} {w m p : Int}
    (o1 : (0 : Int) ≤ σ.1 10 0 58 ∧ σ.1 10 0 58 < (300 : Int))
    (h1 : zX (d + 20) 148 17 [some (.inr (.inr (10, 0))), some (.inl 1), some (.inl m), some (.inl p)] [] (zU (zU σ 10 0 58 (zW ((σ.1 10 0 58) + 1))) 95 0 ((σ.1 10 0 58).toNat) (σ.1 10 0 56)) Q) :
    zX (d + 20) 148 220 [some (.inr (.inr (10, 0))), some (.inl w), some (.inl m), some (.inl p)] [] σ Q := by
  refine zX_run (n' := 231) (ls' := [some (.inr (.inr (10, 0))), some (.inl w), some (.inl m), some (.inl p)]) (st' := [.inl (σ.1 10 0 56), .inl (σ.1 10 0 58), .inr (.inr (95, 0))]) (σ' := (zU σ 10 0 58 (zW ((σ.1 10 0 58) + 1)))) 11 rfl ?_
  refine zX_ast1 (L := 300) rfl (by decide) rfl o1 ?_
  refine zX_run (n' := 17) (ls' := [some (.inr (.inr (10, 0))), some (.inl 1), some (.inl m), some (.inl p)]) (st' := []) (σ' := (zU (zU σ 10 0 58 (zW ((σ.1 10 0 58) + 1))) 95 0 ((σ.1 10 0 58).toNat) (σ.1 10 0 56))) 3 rfl ?_
  exact h1
def qb (b : Bool) : Int := if b = true then 1 else 0
theorem qSg_1 {t : Int} (h : 10 ≤ t ∧ t ≤ 17) : 1 ≤ qSg t := by
  unfold qSg
  (repeat' split) <;> omega
/-- the states that the loop goes through, and what it then answers -/
theorem zl_148 {d : Nat} {σ : zS} {Q : Option zV → zS → Prop} {T : Nat → Int} {N : Nat} {me : Int} (M0 : mTp σ T N) : ∀ (F k : Nat) (S : qS) (s : zS) (wv mv p : Int) (j : Nat) (r : Option (List Int)), qRunF (qK T N) F k S = some (j, r) → qI S k → k ≤ qA T N k → wv = qb S.1 → mv = qb S.2.1 → p = (S.2.2.2.1.length : Int) - 1 → mPs s S.2.2.1 S.2.2.2.2 → mRs σ s me (qA T N k : Int) S.2.2.2.1 →
    (r = none → ∀ s2, s2.1 10 0 57 = (qP T N j : Int) → mKp σ s2 → Q (some (.inl 0)) s2) →
    (∀ c2, r = some c2 → ∀ s2, s2.1 10 0 59 = (c2.length : Int) → (∀ i, i < c2.length → s2.1 97 0 i = qCl c2 i) → s2.1 10 0 55 = (qA T N (j + 1) : Int) → s2.1 10 0 64 = me → c2.length ≤ j → j + 1 ≤ qA T N (j + 1) → mKp σ s2 → Q (some (.inl 1)) s2) →
    zX (d + 20) 148 17 [some (.inr (.inr (10, 0))), some (.inl wv), some (.inl mv), some (.inl p)] [] s Q := by
  intro F
  induction F with
  | zero => intro k S s wv mv p j r h; cases h
  | succ F ih =>
    intro k S s wv mv p j r h I kA hw hm hp P R hn hs
    have M := mKp_T R.2.2.2 M0
    have h160 := M.2.1
    have aN := qA_le (T := T) (N := N) (k := k)
    refine zX_run (n' := 18) (ls' := [some (.inr (.inr (10, 0))), some (.inl wv), some (.inl mv), some (.inl p)]) (st' := [.inr (.inr (10, 0))]) (σ' := s) 1 rfl ?_
    refine zX_call rfl rfl ?_
    refine zs_144 (k := k) M R.1 (fun s1 a55 a56 a57 Fr M1 => ?_)
    have P1 := mPs_F Fr P
    have K1 : mKp σ s1 := mKp_F R.2.2.2 Fr
    have R1 : mRs σ s1 me (qA T N (k + 1) : Int) S.2.2.2.1 := ⟨a55, (Fr.1 0 64 (by omega)).trans R.2.1, fun i hi => by rw [Fr.2.1 96 (by decide)]; exact R.2.2.1 i hi, K1⟩
    have h : (match qStp (s1.1 10 0 56) S with
      | none => some (k, none)
      | some (.inr c) => some (k, some c)
      | some (.inl S') => qRunF (qK T N) F (k + 1) S') = some (j, r) := by rw [a56]; exact h
    have kA1 : ¬ qStp (s1.1 10 0 56) S = none → k + 1 ≤ qA T N (k + 1) := fun q => by
      have n25 : ¬ qP T N k = N := fun e => q (by rw [a56, qK_tv.2.mpr e]; exact qStp_25)
      have b := (qP_le (T := T) (N := N) (k := k))
      have c := qEnd_le (T := T) (N := N) (p := qP T N k) (by omega)
      rw [qA_s n25]; omega
    have bad : qStp (s1.1 10 0 56) S = none → Q (some (.inl 0)) s1 := fun e => by
      rw [e] at h
      obtain ⟨rfl, rfl⟩ := Prod.mk.inj (Option.some.inj h)
      exact hn rfl s1 a57 K1
    have go : ∀ S2 : qS, qStp (s1.1 10 0 56) S = some (.inl S2) → qI S2 (k + 1) → ∀ (s2 : zS) (wv2 mv2 p2 : Int), wv2 = qb S2.1 → mv2 = qb S2.2.1 → p2 = (S2.2.2.2.1.length : Int) - 1 → mPs s2 S2.2.2.1 S2.2.2.2.2 → mRs σ s2 me (qA T N (k + 1) : Int) S2.2.2.2.1 →
        zX (d + 20) 148 17 [some (.inr (.inr (10, 0))), some (.inl wv2), some (.inl mv2), some (.inl p2)] [] s2 Q := fun S2 e I2 s2 wv2 mv2 p2 h1 h2 h3 h4 h5 => by
      have k2 := kA1 (by rw [e]; simp)
      rw [e] at h
      exact ih (k + 1) S2 s2 wv2 mv2 p2 j r h I2 k2 h1 h2 h3 h4 h5 hn hs
    have tv : qTv (s1.1 10 0 56) := by rw [a56]; exact qK_tv.1
    clear hn ih a56
    obtain ⟨w, mn, O, f, c⟩ := S
    obtain ⟨I1, I2, I3, I4⟩ := I
    have I1 : q19 O + 1 = f.length := I1
    have I2 : qDp O ≤ 5 := I2
    have I3 : ∀ x, x ∈ O → 10 ≤ x ∧ x ≤ 19 := I3
    have I4 : O.length + c.length ≤ k := I4
    have hp : p = (f.length : Int) - 1 := hp
    have P1 : mPs s1 O c := P1
    have R1 : mRs σ s1 me (qA T N (k + 1) : Int) f := R1
    have hm : mv = qb mn := hm
    have n19d : q19 O ≤ qDp O := by
      have q : ∀ O : List Int, q19 O ≤ qDp O := fun O => by
        induction O with
        | nil => exact Nat.le_refl _
        | cons y O ih =>
          by_cases c : y = 19
          · rw [q19_y c, qDp_in (.inr (.inr c))]; exact Nat.succ_le_succ ih
          · rw [q19_n c]
            by_cases c2 : qIsD y
            · rw [qDp_in c2]; exact Nat.le_succ_of_le ih
            · rw [qDp_op c2]; exact ih
      exact q O
    cases w with
    | false =>
      have hw : wv = 0 := hw
      obtain ⟨x0, g, ef⟩ : ∃ x g, f = x :: g := by
        cases f with
        | nil => exact absurd I1 (by simp)
        | cons x g => exact ⟨x, g, rfl⟩
      have fl : f.length = g.length + 1 := by rw [ef]; rfl
      have pn : p.toNat = g.length := by omega
      have tl : f.tail = g := by rw [ef]; rfl
      have cmp : s1.1 96 0 (p.toNat) = f.headD 0 := by
        rw [pn, R1.2.2.1 g.length (by omega), show g.length = f.length - 1 by omega]
        exact qCl_hd (by omega)
      have g96 : ∀ i, i < g.length → qCl f i = qCl g i := fun i hi => by rw [ef]; exact qCl_lt hi
      have u58 : s1.1 10 0 58 = (O.length : Int) := P1.1
      have k203 : ¬ (s1.1 10 0 56 = 21 ∧ f.length = 1) → ¬ (s1.1 10 0 56 = 20 ∧ 1 < f.length) → ¬ (s1.1 10 0 56 = 10 ∨ s1.1 10 0 56 = 11) → ¬ ((s1.1 10 0 56 = 13 ∨ s1.1 10 0 56 = 14) ∧ f.headD 0 = 0) → zX (d + 20) 148 203 [some (.inr (.inr (10, 0))), some (.inl wv), some (.inl mv), some (.inl p)] [] s1 Q := fun h1 h2 h3 h4 => by
        have ar : (s1.1 10 0 56 = 15 ∨ s1.1 10 0 56 = 16 ∨ s1.1 10 0 56 = 17) → zX (d + 20) 148 219 [some (.inr (.inr (10, 0))), some (.inl wv), some (.inl mv), some (.inl p)] [.inl (qSg (s1.1 10 0 56)), .inr (.inr (10, 0))] s1 Q := fun t3 => by
          have sg := qSg_1 (t := s1.1 10 0 56) (by omega)
          have V := qPp_inv sg O c
          refine zX_call rfl rfl ?_
          refine zs_146 sg O c s1 P1 (by omega) (fun s2 P2 F2 => ?_)
          have e56 : s2.1 10 0 56 = s1.1 10 0 56 := F2.1 0 56 (by omega)
          refine zb_148_220 (by rw [P2.1]; omega) ?_
          rw [P2.1, e56, qW1 (by omega)]
          exact go _ (qF_ar t3) ⟨(by show q19 (s1.1 10 0 56 :: _) + 1 = f.length; rw [q19_n (by omega), V.2.1]; exact I1), (by show qDp (s1.1 10 0 56 :: _) ≤ 5; rw [qDp_op (by omega)]; omega), (fun x hx => (List.mem_cons.mp hx).elim (fun e => by rw [e]; omega) (fun q => I3 x (V.2.2.2.1 x q))), (by have v1 := V.1; show (qPp (qSg (s1.1 10 0 56)) O c).1.length + 1 + (qPp (qSg (s1.1 10 0 56)) O c).2.length ≤ k + 1; omega)⟩ _ _ _ _ rfl hm hp (mPs_push P2 (by omega)) (mRs_P R1 (mPf_t F2 (mPf_k (mPf_10 mPf_r (.inl rfl)) (.inl rfl))))
        exact zb_148_203 (fun a0 => ar (by omega)) (fun a0 a1 => ar (by omega)) (fun a0 a1 a2 => bad (qF_no h1 h2 h3 h4 (by omega))) (fun a0 a1 a2 => ar (by omega))
      have k182 : (s1.1 10 0 56 = 13 ∨ s1.1 10 0 56 = 14) → f.headD 0 = 0 → zX (d + 20) 148 182 [some (.inr (.inr (10, 0))), some (.inl wv), some (.inl mv), some (.inl p)] [.inl 4, .inr (.inr (10, 0))] s1 Q := fun t3 c0 => by
        have V := qPp_inv (s := 4) (by decide) O c
        refine zX_call rfl rfl ?_
        refine zs_146 (by decide) O c s1 P1 (by omega) (fun s2 P2 F2 => ?_)
        have e56 : s2.1 10 0 56 = s1.1 10 0 56 := F2.1 0 56 (by omega)
        refine zb_148_183 (by rw [P2.1]; omega) (by omega) ?_
        rw [P2.1, e56, qW1 (by omega), pn]
        refine go _ (qF_cmp t3 c0) ⟨(by show q19 (s1.1 10 0 56 :: _) + 1 = f.tail.length + 1; rw [q19_n (by omega), V.2.1, tl]; omega), (by show qDp (s1.1 10 0 56 :: _) ≤ 5; rw [qDp_op (by omega)]; omega), (fun x hx => (List.mem_cons.mp hx).elim (fun e => by rw [e]; omega) (fun q => I3 x (V.2.2.2.1 x q))), (by have v1 := V.1; show (qPp 4 O c).1.length + 1 + (qPp 4 O c).2.length ≤ k + 1; omega)⟩ _ _ _ _ rfl hm (by show p = ((f.tail.length + 1 : Nat) : Int) - 1; rw [tl]; omega) (mPs_96 (mPs_push P2 (by omega))) ?_
        show mRs σ _ me _ (1 :: f.tail)
        rw [tl]
        exact mRs_96 (mRs_P R1 (mPf_t F2 (mPf_k (mPf_10 mPf_r (.inl rfl)) (.inl rfl)))) (by omega) g96
      have k167 : ¬ (s1.1 10 0 56 = 21 ∧ f.length = 1) → ¬ (s1.1 10 0 56 = 20 ∧ 1 < f.length) → ¬ (s1.1 10 0 56 = 10 ∨ s1.1 10 0 56 = 11) → zX (d + 20) 148 167 [some (.inr (.inr (10, 0))), some (.inl wv), some (.inl mv), some (.inl p)] [] s1 Q := fun h1 h2 h3 => zb_148_167 (fun a0 => (by omega)) (fun a0 a1 => (by omega)) (fun a0 a1 => k203 h1 h2 h3 (fun q => a1 (cmp.trans q.2))) (fun a0 a1 => k182 (by omega) (cmp.symm.trans a1)) (fun a0 a1 => k203 h1 h2 h3 (by omega)) (fun a0 a1 a2 => k203 h1 h2 h3 (fun q => a2 (cmp.trans q.2))) (fun a0 a1 a2 => k182 (by omega) (cmp.symm.trans a2))
      have k144 : (s1.1 10 0 56 = 10 ∨ s1.1 10 0 56 = 11) → zX (d + 20) 148 144 [some (.inr (.inr (10, 0))), some (.inl wv), some (.inl mv), some (.inl p)] [.inl (qSg (s1.1 10 0 56)), .inr (.inr (10, 0))] s1 Q := fun t3 => by
        have sg := qSg_1 (t := s1.1 10 0 56) (by omega)
        have V := qPp_inv sg O c
        refine zX_call rfl rfl ?_
        refine zs_146 sg O c s1 P1 (by omega) (fun s2 P2 F2 => ?_)
        have e56 : s2.1 10 0 56 = s1.1 10 0 56 := F2.1 0 56 (by omega)
        refine zb_148_145 (by rw [P2.1]; omega) (by omega) ?_
        rw [P2.1, e56, qW1 (by omega), pn]
        refine go _ (qF_log t3) ⟨(by show q19 (s1.1 10 0 56 :: _) + 1 = f.tail.length + 1; rw [q19_n (by omega), V.2.1, tl]; omega), (by show qDp (s1.1 10 0 56 :: _) ≤ 5; rw [qDp_op (by omega)]; omega), (fun x hx => (List.mem_cons.mp hx).elim (fun e => by rw [e]; omega) (fun q => I3 x (V.2.2.2.1 x q))), (by have v1 := V.1; show (qPp (qSg (s1.1 10 0 56)) O c).1.length + 1 + (qPp (qSg (s1.1 10 0 56)) O c).2.length ≤ k + 1; omega)⟩ _ _ _ _ rfl rfl (by show p = ((f.tail.length + 1 : Nat) : Int) - 1; rw [tl]; omega) (mPs_96 (mPs_push P2 (by omega))) ?_
        show mRs σ _ me _ (0 :: f.tail)
        rw [tl]
        exact mRs_96 (mRs_P R1 (mPf_t F2 (mPf_k (mPf_10 mPf_r (.inl rfl)) (.inl rfl)))) (by omega) g96
      have k132 : ¬ (s1.1 10 0 56 = 21 ∧ f.length = 1) → ¬ (s1.1 10 0 56 = 20 ∧ 1 < f.length) → zX (d + 20) 148 132 [some (.inr (.inr (10, 0))), some (.inl wv), some (.inl mv), some (.inl p)] [] s1 Q := fun h1 h2 => zb_148_132 (fun a0 => k144 (by omega)) (fun a0 a1 => k167 h1 h2 (by omega)) (fun a0 a1 => k144 (by omega))
      have k114 : s1.1 10 0 56 = 20 → 1 < f.length → zX (d + 20) 148 114 [some (.inr (.inr (10, 0))), some (.inl wv), some (.inl mv), some (.inl p)] [.inl 1, .inr (.inr (10, 0))] s1 Q := fun t3 hf => by
        have V := qPp_inv (s := 1) (by decide) O c
        obtain ⟨O2, eO⟩ := qPp_1 O c I3 (by omega)
        refine zX_call rfl rfl ?_
        refine zs_146 (by decide) O c s1 P1 (by omega) (fun s2 P2 F2 => ?_)
        have QF := qF_20 (mn := mn) (O := O) (c := c) t3 hf
        rw [eO] at P2 V QF
        have QF : qStp (s1.1 10 0 56) ⟨false, mn, O, f, c⟩ = some (.inl ⟨false, mn, (qPp 7 O2 (qPp 1 O c).2).1, f.tail, (qPp 7 O2 (qPp 1 O c).2).2⟩) := QF
        obtain ⟨v1, v2, v3, v4, v5⟩ := V
        have v1 : O2.length + 1 + (qPp 1 O c).2.length = O.length + c.length := v1
        rw [q19_y rfl] at v2
        rw [qDp_in (.inr (.inr rfl))] at v3
        refine zb_148_115 ?_
        obtain ⟨y1, y2, y3, y4, y5⟩ := P2
        have y1 : s2.1 10 0 58 = ((O2.length + 1 : Nat) : Int) := y1
        have y3 : s2.1 10 0 60 = ((qDp O2 + 1 : Nat) : Int) := by rw [y3, qDp_in (.inr (.inr rfl))]
        rw [y1, y3, qW1m (by omega), qW1m (by omega)]
        have P3 : mPs (zU (zU s2 10 0 58 (O2.length : Int)) 10 0 60 (qDp O2 : Int)) O2 (qPp 1 O c).2 := ⟨rfl, y2, rfl, fun i hi => (y4 i (Nat.lt_succ_of_lt hi)).trans (qCl_lt hi), y5⟩
        have V7 := qPp_inv (s := 7) (by decide) O2 (qPp 1 O c).2
        refine zX_call rfl rfl ?_
        refine zs_146 (by decide) O2 _ _ P3 (by omega) (fun s3 P4 F4 => ?_)
        refine zb_148_131 ?_
        refine go _ QF ⟨(by show q19 (qPp 7 O2 (qPp 1 O c).2).1 + 1 = f.tail.length; rw [V7.2.1, tl]; omega), (by show qDp (qPp 7 O2 (qPp 1 O c).2).1 ≤ 5; omega), (fun x hx => I3 x (v4 x (List.mem_cons_of_mem _ (V7.2.2.2.1 x hx)))), (by show (qPp 7 O2 (qPp 1 O c).2).1.length + (qPp 7 O2 (qPp 1 O c).2).2.length ≤ k + 1; omega)⟩ _ _ _ _ hw hm (by show _ = ((f.tail.length : Nat) : Int) - 1; rw [tl]; unfold zW; omega) P4 ?_
        have R4 := mRs_P R1 (mPf_t F2 (mPf_t (mPf_10 (mPf_10 mPf_r (.inl rfl)) (.inr (.inr rfl))) F4))
        show mRs σ _ me _ f.tail
        rw [tl]
        exact ⟨R4.1, R4.2.1, fun i hi => (R4.2.2.1 i (by omega)).trans (g96 i hi), R4.2.2.2⟩
      have k106 : ¬ (s1.1 10 0 56 = 21 ∧ f.length = 1) → zX (d + 20) 148 106 [some (.inr (.inr (10, 0))), some (.inl wv), some (.inl mv), some (.inl p)] [] s1 Q := fun h1 => zb_148_106 (fun a0 => k132 h1 (by omega)) (fun a0 a1 => k132 h1 (by omega)) (fun a0 a1 => k114 a0 (by omega))
      have k103 : s1.1 10 0 56 = 21 → f.length = 1 → zX (d + 20) 148 103 [some (.inr (.inr (10, 0))), some (.inl wv), some (.inl mv), some (.inl p)] [.inl 1, .inr (.inr (10, 0))] s1 Q := fun t3 hf => by
        have V := qPp_inv (s := 1) (by decide) O c
        refine zX_call rfl rfl ?_
        refine zs_146 (by decide) O c s1 P1 (by omega) (fun s2 P2 F2 => ?_)
        refine zb_148_104 ?_
        have QF := qF_21 (mn := mn) (O := O) (c := c) t3 hf
        have k2 := kA1 (by rw [QF]; simp)
        rw [QF] at h
        obtain ⟨rfl, rfl⟩ := Prod.mk.inj (Option.some.inj h)
        have R2 := mRs_P R1 F2
        exact hs _ rfl s2 P2.2.1 P2.2.2.2.2 R2.1 R2.2.1 (by omega) k2 R2.2.2.2
      have k95 : zX (d + 20) 148 95 [some (.inr (.inr (10, 0))), some (.inl wv), some (.inl mv), some (.inl p)] [] s1 Q := zb_148_95 (fun a0 => k106 (by omega)) (fun a0 a1 => k106 (by omega)) (fun a0 a1 => k103 a0 (by omega))
      exact zb_148_19 (fun a0 => k95) (fun a0 a1 => absurd hw a0) (fun a0 a1 a2 => absurd hw a0) (fun a0 a1 a2 => absurd hw a0)
    | true =>
      have hw : wv = 1 := hw
      have u59 : s1.1 10 0 59 = (c.length : Int) := P1.2.1
      have k29 : (s1.1 10 0 56 < 6 ∨ 100 ≤ s1.1 10 0 56) → zX (d + 20) 148 29 [some (.inr (.inr (10, 0))), some (.inl wv), some (.inl mv), some (.inl p)] [] s1 Q := fun t3 => by
        have V := qPp_inv (s := 7) (by decide) O (s1.1 10 0 56 :: c)
        have V1 : (qPp 7 O (s1.1 10 0 56 :: c)).1.length + (qPp 7 O (s1.1 10 0 56 :: c)).2.length = O.length + (c.length + 1) := V.1
        refine zb_148_29 (by omega) ?_
        rw [u59, qW1 (by omega)]
        refine zX_call rfl rfl ?_
        refine zs_146 (by decide) O (s1.1 10 0 56 :: c) _ (mPs_code P1) (by show O.length + (c.length + 1) ≤ 200; omega) (fun s2 P2 F2 => ?_)
        refine zb_148_44 ?_
        exact go _ (qT_at t3) ⟨(by show q19 (qPp 7 O (s1.1 10 0 56 :: c)).1 + 1 = f.length; rw [V.2.1]; exact I1), (by show qDp (qPp 7 O (s1.1 10 0 56 :: c)).1 ≤ 5; omega), (fun x hx => I3 x (V.2.2.2.1 x hx)), (by show (qPp 7 O (s1.1 10 0 56 :: c)).1.length + (qPp 7 O (s1.1 10 0 56 :: c)).2.length ≤ k + 1; omega)⟩ _ _ _ _ rfl rfl hp P2 (mRs_P R1 (mPf_t (mPf_k (mPf_10 mPf_r (.inr (.inl rfl))) (.inr rfl)) F2))
      have up : ∀ (t2 : Int), qIsD t2 → ¬ qDp O = 5 → qDp (t2 :: O) ≤ 5 := fun t2 ht n5 => by rw [qDp_in ht]; omega
      have k89 : s1.1 10 0 56 = 12 → mn = true → zX (d + 20) 148 89 [some (.inr (.inr (10, 0))), some (.inl wv), some (.inl mv), some (.inl p)] [.inl 12, .inr (.inr (10, 0))] s1 Q := fun t3 hmn => by
        have QT := qStp_in (t := s1.1 10 0 56) (t' := 12) (mn := mn) (mn' := true) (O := O) (f := f) (f' := f) (c := c) (.inr (.inr ⟨t3, rfl, hmn, rfl, rfl⟩))
        refine zX_call rfl rfl ?_
        refine zs_147 P1 (by omega) I2 (.inl rfl) (fun d5 => ?_) (fun n5 s2 P2 F2 => ?_)
        · rw [if_pos d5] at QT
          exact zb_148_90 (fun a => absurd rfl a) (fun _ => bad QT)
        · rw [if_neg n5] at QT
          refine zb_148_90 (fun _ => ?_) (fun a => absurd a (by decide))
          exact go _ QT ⟨(by show q19 (12 :: O) + 1 = f.length; rw [q19_n (by decide)]; exact I1), up 12 (.inl rfl) n5, (fun x hx => (List.mem_cons.mp hx).elim (fun e => by rw [e]; decide) (fun q => I3 x q)), (by show O.length + 1 + c.length ≤ k + 1; omega)⟩ _ _ _ _ hw (by rw [hm, hmn]) hp P2 (mRs_P R1 F2)
      have k68 : s1.1 10 0 56 = 19 → zX (d + 20) 148 68 [some (.inr (.inr (10, 0))), some (.inl wv), some (.inl mv), some (.inl p)] [.inl 19, .inr (.inr (10, 0))] s1 Q := fun t3 => by
        have QT := qStp_in (t := s1.1 10 0 56) (t' := 19) (mn := mn) (mn' := true) (O := O) (f := f) (f' := 0 :: f) (c := c) (.inr (.inl ⟨t3, rfl, rfl, rfl⟩))
        refine zX_call rfl rfl ?_
        refine zs_147 P1 (by omega) I2 (.inr (.inr rfl)) (fun d5 => ?_) (fun n5 s2 P2 F2 => ?_)
        · rw [if_pos d5] at QT
          exact zb_148_69 (fun a => absurd rfl a) (fun a => absurd rfl a) (fun _ => bad QT)
        · rw [if_neg n5] at QT
          have pz : zW (p + 1) = (f.length : Int) := by rw [hp]; unfold zW; omega
          refine zb_148_69 (fun _ => by rw [pz]; omega) (fun _ => ?_) (fun a => absurd a (by decide))
          rw [pz]
          exact go _ QT ⟨(by show q19 (19 :: O) + 1 = f.length + 1; rw [q19_y rfl]; omega), up 19 (.inr (.inr rfl)) n5, (fun x hx => (List.mem_cons.mp hx).elim (fun e => by rw [e]; decide) (fun q => I3 x q)), (by show O.length + 1 + c.length ≤ k + 1; omega)⟩ _ _ _ _ hw rfl (by show (f.length : Int) = ((f.length + 1 : Nat) : Int) - 1; omega) P2 (mRs_96 (mRs_P R1 F2) (Nat.le_refl _) (fun _ _ => rfl))
      have k55 : s1.1 10 0 56 = 16 → zX (d + 20) 148 55 [some (.inr (.inr (10, 0))), some (.inl wv), some (.inl mv), some (.inl p)] [.inl 18, .inr (.inr (10, 0))] s1 Q := fun t3 => by
        have QT := qStp_in (t := s1.1 10 0 56) (t' := 18) (mn := mn) (mn' := false) (O := O) (f := f) (f' := f) (c := c) (.inl ⟨t3, rfl, rfl, rfl⟩)
        refine zX_call rfl rfl ?_
        refine zs_147 P1 (by omega) I2 (.inr (.inl rfl)) (fun d5 => ?_) (fun n5 s2 P2 F2 => ?_)
        · rw [if_pos d5] at QT
          exact zb_148_56 (fun a => absurd rfl a) (fun _ => bad QT)
        · rw [if_neg n5] at QT
          refine zb_148_56 (fun _ => ?_) (fun a => absurd a (by decide))
          exact go _ QT ⟨(by show q19 (18 :: O) + 1 = f.length; rw [q19_n (by decide)]; exact I1), up 18 (.inr (.inl rfl)) n5, (fun x hx => (List.mem_cons.mp hx).elim (fun e => by rw [e]; decide) (fun q => I3 x q)), (by show O.length + 1 + c.length ≤ k + 1; omega)⟩ _ _ _ _ hw rfl hp P2 (mRs_P R1 F2)
      have mb : mv = 0 ↔ ¬ mn = true := by
        rw [hm]
        unfold qb
        by_cases e : mn = true
        · rw [if_pos e]; exact ⟨fun x => absurd x (by decide), fun x => absurd e x⟩
        · rw [if_neg e]; exact ⟨fun _ => e, fun _ => rfl⟩
      have k81 : ¬ (s1.1 10 0 56 < 6 ∨ 100 ≤ s1.1 10 0 56) → ¬ s1.1 10 0 56 = 16 → ¬ s1.1 10 0 56 = 19 → zX (d + 20) 148 81 [some (.inr (.inr (10, 0))), some (.inl wv), some (.inl mv), some (.inl p)] [] s1 Q := fun h1 h2 h3 => zb_148_81 (fun a0 => bad (qT_no h1 h2 h3 (fun q => a0 q.1))) (fun a0 a1 => bad (qT_no h1 h2 h3 (fun q => mb.mp a1 q.2))) (fun a0 a1 => k89 a0 (Decidable.byContradiction (fun q => a1 (mb.mpr q))))
      have k62 : ¬ (s1.1 10 0 56 < 6 ∨ 100 ≤ s1.1 10 0 56) → ¬ s1.1 10 0 56 = 16 → zX (d + 20) 148 62 [some (.inr (.inr (10, 0))), some (.inl wv), some (.inl mv), some (.inl p)] [] s1 Q := fun h1 h2 => zb_148_62 (fun a0 => k81 h1 h2 a0) (fun a0 => k68 a0)
      have k49 : ¬ (s1.1 10 0 56 < 6 ∨ 100 ≤ s1.1 10 0 56) → zX (d + 20) 148 49 [some (.inr (.inr (10, 0))), some (.inl wv), some (.inl mv), some (.inl p)] [] s1 Q := fun h1 => zb_148_49 (fun a0 => k62 h1 a0) (fun a0 => k55 a0)
      exact zb_148_19 (fun a0 => absurd (hw.symm.trans a0) (by decide)) (fun a0 a1 => k29 (by omega)) (fun a0 a1 a2 => k49 (by omega)) (fun a0 a1 a2 => k29 (by omega))
/-- an expression read by the reference -/
theorem zs_148 {d : Nat} {σ : zS} {Q : Option zV → zS → Prop} {T : Nat → Int} {N : Nat} (M0 : mTp σ T N) {k j : Nat} {c : List Int} {r : Option (List Int)} (h : qRun (qK T N) k (qS0 c) j r) (kA : k ≤ qA T N k) (hc : c.length ≤ k) (ha : σ.1 10 0 55 = (qA T N k : Int)) (h59 : σ.1 10 0 59 = (c.length : Int)) (h97 : ∀ i, i < c.length → σ.1 97 0 i = qCl c i)
    (hn : r = none → ∀ s2, s2.1 10 0 57 = (qP T N j : Int) → mKp σ s2 → Q (some (.inl 0)) s2)
    (hs : ∀ c2, r = some c2 → ∀ s2, s2.1 10 0 59 = (c2.length : Int) → (∀ i, i < c2.length → s2.1 97 0 i = qCl c2 i) → s2.1 10 0 55 = (qA T N (j + 1) : Int) → s2.1 10 0 64 = σ.1 10 0 64 → c2.length ≤ j → j + 1 ≤ qA T N (j + 1) → mKp σ s2 → Q (some (.inl 1)) s2) :
    zM (d + 20) 148 [.inr (.inr (10, 0))] σ Q := by
  obtain ⟨F, h⟩ := h
  refine zb_148 ?_
  refine zl_148 M0 F k (qS0 c) _ 1 1 0 j r h ⟨rfl, Nat.zero_le _, fun x hx => (by cases hx), (by show 0 + c.length ≤ k; omega)⟩ kA rfl rfl rfl ⟨rfl, h59, rfl, fun i hi => absurd hi (Nat.not_lt_zero _), h97⟩ ⟨ha, rfl, fun i hi => ?_, ?_⟩ hn hs
  · have hi : i < 1 := hi
    have e : i = 0 := by omega
    subst e; rfl
  · exact mKp_k (mKp_10 (mKp_10 mKp_r (by decide)) (by decide)) (.inr (.inl rfl))
