-- unlike (wip/whole/gen/laws56.py)
-- X9_unlike
theorem zb_95 {d : Nat} {σ : zS} {Q : Option zV → zS → Prop} {a : Int} {b : Int} {s : Int} {y : Int}
    (o1 : 0 ≤ σ.1 8 0 13 ∧ σ.1 8 0 13 ≤ 1000)
    (h1 : 0 ≤ a ∧ a < σ.1 8 0 13 → 0 ≤ b ∧ b < σ.1 8 0 13 → 0 ≤ s ∧ s ≤ 3 → (0 : Int) ≤ y ∧ y ≤ (7 : Int) → zX (d + 20) 95 22 [some (.inr (.inr (9, 0))), some (.inl a), some (.inl b), some (.inl s), some (.inl y)] [.inl y, .inl s, .inl a, .inr (.inr (9, 0))] σ Q)
    (h2 : 0 ≤ a ∧ a < σ.1 8 0 13 → 0 ≤ b ∧ b < σ.1 8 0 13 → 0 ≤ s ∧ s ≤ 3 → ¬ ((0 : Int) ≤ y ∧ y ≤ (7 : Int)) → Q (some (.inr (.inl (-4611686018427387904)))) σ)
    (h3 : 0 ≤ a ∧ a < σ.1 8 0 13 → 0 ≤ b ∧ b < σ.1 8 0 13 → ¬ (0 ≤ s ∧ s ≤ 3) → Q (some (.inr (.inl (-4611686018427387904)))) σ)
    (h4 : 0 ≤ a ∧ a < σ.1 8 0 13 → ¬ (0 ≤ b ∧ b < σ.1 8 0 13) → Q (some (.inr (.inl (-4611686018427387904)))) σ)
    (h5 : ¬ (0 ≤ a ∧ a < σ.1 8 0 13) → Q (some (.inr (.inl (-4611686018427387904)))) σ) :
    zM (d + 20) 95 [.inr (.inr (9, 0)), .inl a, .inl b, .inl s, .inl y] σ Q := by
  refine zX_run (n' := 2) (ls' := [some (.inr (.inr (9, 0))), some (.inl a), some (.inl b), some (.inl s), some (.inl y)]) (st' := [.inl a, .inr (.inr (9, 0))]) (σ' := σ) 2 rfl ?_
  refine zX_call rfl rfl ?_
  refine zs_113 o1 (fun a1 => ?_) (fun a2 => ?_)
  · skip
    refine zX_run (n' := 6) (ls' := [some (.inr (.inr (9, 0))), some (.inl a), some (.inl b), some (.inl s), some (.inl y)]) (st' := [.inl b, .inr (.inr (9, 0))]) (σ' := σ) 3 rfl ?_
    refine zX_call rfl rfl ?_
    refine zs_113 o1 (fun a3 => ?_) (fun a4 => ?_)
    · skip
      refine zX_run (n' := 9) (ls' := [some (.inr (.inr (9, 0))), some (.inl a), some (.inl b), some (.inl s), some (.inl y)]) (st' := [.inl s]) (σ' := σ) 2 rfl ?_
      refine zX_call rfl rfl ?_
      refine zs_108 (fun a5 => ?_) (fun a6 => ?_)
      · skip
        refine zX_run (n' := 14) (ls' := [some (.inr (.inr (9, 0))), some (.inl a), some (.inl b), some (.inl s), some (.inl y)]) (st' := [.inl 7, .inl 0, .inl y]) (σ' := σ) 4 rfl ?_
        refine zX_call rfl rfl ?_
        refine zs_104 (fun a7 => ?_) (fun a8 => ?_)
        · skip
          refine zX_run (n' := 22) (ls' := [some (.inr (.inr (9, 0))), some (.inl a), some (.inl b), some (.inl s), some (.inl y)]) (st' := [.inl y, .inl s, .inl a, .inr (.inr (9, 0))]) (σ' := σ) 5 rfl ?_
          exact h1 a1 a3 a5 a7
        · skip
          refine zX_run (n' := 17) (ls' := [some (.inr (.inr (9, 0))), some (.inl a), some (.inl b), some (.inl s), some (.inl y)]) (st' := [.inr (.inl (-4611686018427387904))]) (σ' := σ) 2 rfl ?_
          exact zX_retL rfl rfl (h2 a1 a3 a5 a8)
      · skip
        refine zX_run (n' := 17) (ls' := [some (.inr (.inr (9, 0))), some (.inl a), some (.inl b), some (.inl s), some (.inl y)]) (st' := [.inr (.inl (-4611686018427387904))]) (σ' := σ) 2 rfl ?_
        exact zX_retL rfl rfl (h3 a1 a3 a6)
    · skip
      refine zX_run (n' := 17) (ls' := [some (.inr (.inr (9, 0))), some (.inl a), some (.inl b), some (.inl s), some (.inl y)]) (st' := [.inr (.inl (-4611686018427387904))]) (σ' := σ) 2 rfl ?_
      exact zX_retL rfl rfl (h4 a1 a4)
  · skip
    refine zX_run (n' := 17) (ls' := [some (.inr (.inr (9, 0))), some (.inl a), some (.inl b), some (.inl s), some (.inl y)]) (st' := [.inr (.inl (-4611686018427387904))]) (σ' := σ) 2 rfl ?_
    exact zX_retL rfl rfl (h5 a2)
-- X9_unlike
theorem zb_95b {d : Nat} {σ : zS} {Q : Option zV → zS → Prop} {a b s y v : Int}
    (h1 : zX (d + 20) 95 27 [some (.inr (.inr (9, 0))), some (.inl a), some (.inl b), some (.inl s), some (.inl y)] [.inl y, .inl s, .inl b, .inr (.inr (9, 0)), .inr (.inl v)] σ Q) :
    zX (d + 20) 95 23 [some (.inr (.inr (9, 0))), some (.inl a), some (.inl b), some (.inl s), some (.inl y)] [.inr (.inl v)] σ Q := by
  refine zX_run (n' := 27) (ls' := [some (.inr (.inr (9, 0))), some (.inl a), some (.inl b), some (.inl s), some (.inl y)]) (st' := [.inl y, .inl s, .inl b, .inr (.inr (9, 0)), .inr (.inl v)]) (σ' := σ) 4 rfl ?_
  exact h1
-- X9_unlike
theorem zb_95c {d : Nat} {σ : zS} {Q : Option zV → zS → Prop} {a b s y v w : Int}
    (h1 : Q (some (.inr (.inl (zWl (v - w))))) σ) :
    zX (d + 20) 95 28 [some (.inr (.inr (9, 0))), some (.inl a), some (.inl b), some (.inl s), some (.inl y)] [.inr (.inl w), .inr (.inl v)] σ Q := by
  refine zX_run (n' := 29) (ls' := [some (.inr (.inr (9, 0))), some (.inl a), some (.inl b), some (.inl s), some (.inl y)]) (st' := [.inr (.inl (zWl (v - w)))]) (σ' := σ) 1 rfl ?_
  exact zX_retL rfl rfl h1
-- X10_unlike
theorem zb_180 {d : Nat} {σ : zS} {Q : Option zV → zS → Prop} {a : Int} {b : Int} {s : Int} {y : Int}
    (h1 : a < 0 → Q (some (.inr (.inl (-4611686018427387904)))) σ)
    (h2 : ¬ a < 0 → σ.1 10 0 6 ≤ a → Q (some (.inr (.inl (-4611686018427387904)))) σ)
    (h3 : ¬ a < 0 → ¬ σ.1 10 0 6 ≤ a → b < 0 → Q (some (.inr (.inl (-4611686018427387904)))) σ)
    (h4 : ¬ a < 0 → ¬ σ.1 10 0 6 ≤ a → ¬ b < 0 → σ.1 10 0 6 ≤ b → Q (some (.inr (.inl (-4611686018427387904)))) σ)
    (h5 : ¬ a < 0 → ¬ σ.1 10 0 6 ≤ a → ¬ b < 0 → ¬ σ.1 10 0 6 ≤ b → s < 0 → Q (some (.inr (.inl (-4611686018427387904)))) σ)
    (h6 : ¬ a < 0 → ¬ σ.1 10 0 6 ≤ a → ¬ b < 0 → ¬ σ.1 10 0 6 ≤ b → ¬ s < 0 → 3 < s → Q (some (.inr (.inl (-4611686018427387904)))) σ)
    (h7 : ¬ a < 0 → ¬ σ.1 10 0 6 ≤ a → ¬ b < 0 → ¬ σ.1 10 0 6 ≤ b → ¬ s < 0 → ¬ 3 < s → y < 0 → Q (some (.inr (.inl (-4611686018427387904)))) σ)
    (h8 : ¬ a < 0 → ¬ σ.1 10 0 6 ≤ a → ¬ b < 0 → ¬ σ.1 10 0 6 ≤ b → ¬ s < 0 → ¬ 3 < s → ¬ y < 0 → y ≤ 7 → zX (d + 10) 180 28 [some (.inr (.inr (10, 0))), some (.inl a), some (.inl b), some (.inl s), some (.inl y), none, none] [.inl y, .inl s, .inl a, .inr (.inr (10, 0))] σ Q)
    (h9 : ¬ a < 0 → ¬ σ.1 10 0 6 ≤ a → ¬ b < 0 → ¬ σ.1 10 0 6 ≤ b → ¬ s < 0 → ¬ 3 < s → ¬ y < 0 → ¬ y ≤ 7 → Q (some (.inr (.inl (-4611686018427387904)))) σ) :
    zM (d + 10) 180 [.inr (.inr (10, 0)), .inl a, .inl b, .inl s, .inl y] σ Q := by
  refine zX_run (n' := 1) (ls' := [some (.inr (.inr (10, 0))), some (.inl a), some (.inl b), some (.inl s), some (.inl y), none, none]) (st' := [.inl a]) (σ' := σ) 1 rfl ?_
  refine zX_i2 rfl (fun a1 => ?_) (fun a1 => ?_)
  · skip
    refine zX_run (n' := 23) (ls' := [some (.inr (.inr (10, 0))), some (.inl a), some (.inl b), some (.inl s), some (.inl y), none, none]) (st' := [.inr (.inl (-4611686018427387904))]) (σ' := σ) 1 rfl ?_
    exact zX_retL rfl rfl (h1 a1)
  · skip
    refine zX_run (n' := 5) (ls' := [some (.inr (.inr (10, 0))), some (.inl a), some (.inl b), some (.inl s), some (.inl y), none, none]) (st' := [.inl (σ.1 10 0 6), .inl a]) (σ' := σ) 3 rfl ?_
    refine zX_c3 rfl (fun a2 => ?_) (fun a2 => ?_)
    · skip
      refine zX_run (n' := 23) (ls' := [some (.inr (.inr (10, 0))), some (.inl a), some (.inl b), some (.inl s), some (.inl y), none, none]) (st' := [.inr (.inl (-4611686018427387904))]) (σ' := σ) 1 rfl ?_
      exact zX_retL rfl rfl (h2 a1 a2)
    · skip
      refine zX_run (n' := 7) (ls' := [some (.inr (.inr (10, 0))), some (.inl a), some (.inl b), some (.inl s), some (.inl y), none, none]) (st' := [.inl b]) (σ' := σ) 1 rfl ?_
      refine zX_i2 rfl (fun a3 => ?_) (fun a3 => ?_)
      · skip
        refine zX_run (n' := 23) (ls' := [some (.inr (.inr (10, 0))), some (.inl a), some (.inl b), some (.inl s), some (.inl y), none, none]) (st' := [.inr (.inl (-4611686018427387904))]) (σ' := σ) 1 rfl ?_
        exact zX_retL rfl rfl (h3 a1 a2 a3)
      · skip
        refine zX_run (n' := 11) (ls' := [some (.inr (.inr (10, 0))), some (.inl a), some (.inl b), some (.inl s), some (.inl y), none, none]) (st' := [.inl (σ.1 10 0 6), .inl b]) (σ' := σ) 3 rfl ?_
        refine zX_c3 rfl (fun a4 => ?_) (fun a4 => ?_)
        · skip
          refine zX_run (n' := 23) (ls' := [some (.inr (.inr (10, 0))), some (.inl a), some (.inl b), some (.inl s), some (.inl y), none, none]) (st' := [.inr (.inl (-4611686018427387904))]) (σ' := σ) 1 rfl ?_
          exact zX_retL rfl rfl (h4 a1 a2 a3 a4)
        · skip
          refine zX_run (n' := 13) (ls' := [some (.inr (.inr (10, 0))), some (.inl a), some (.inl b), some (.inl s), some (.inl y), none, none]) (st' := [.inl s]) (σ' := σ) 1 rfl ?_
          refine zX_i2 rfl (fun a5 => ?_) (fun a5 => ?_)
          · skip
            refine zX_run (n' := 23) (ls' := [some (.inr (.inr (10, 0))), some (.inl a), some (.inl b), some (.inl s), some (.inl y), none, none]) (st' := [.inr (.inl (-4611686018427387904))]) (σ' := σ) 1 rfl ?_
            exact zX_retL rfl rfl (h5 a1 a2 a3 a4 a5)
          · skip
            refine zX_run (n' := 16) (ls' := [some (.inr (.inr (10, 0))), some (.inl a), some (.inl b), some (.inl s), some (.inl y), none, none]) (st' := [.inl 3, .inl s]) (σ' := σ) 2 rfl ?_
            refine zX_c4 rfl (fun a6 => ?_) (fun a6 => ?_)
            · skip
              refine zX_run (n' := 23) (ls' := [some (.inr (.inr (10, 0))), some (.inl a), some (.inl b), some (.inl s), some (.inl y), none, none]) (st' := [.inr (.inl (-4611686018427387904))]) (σ' := σ) 1 rfl ?_
              exact zX_retL rfl rfl (h6 a1 a2 a3 a4 a5 a6)
            · skip
              refine zX_run (n' := 18) (ls' := [some (.inr (.inr (10, 0))), some (.inl a), some (.inl b), some (.inl s), some (.inl y), none, none]) (st' := [.inl y]) (σ' := σ) 1 rfl ?_
              refine zX_i2 rfl (fun a7 => ?_) (fun a7 => ?_)
              · skip
                refine zX_run (n' := 23) (ls' := [some (.inr (.inr (10, 0))), some (.inl a), some (.inl b), some (.inl s), some (.inl y), none, none]) (st' := [.inr (.inl (-4611686018427387904))]) (σ' := σ) 1 rfl ?_
                exact zX_retL rfl rfl (h7 a1 a2 a3 a4 a5 a6 a7)
              · skip
                refine zX_run (n' := 21) (ls' := [some (.inr (.inr (10, 0))), some (.inl a), some (.inl b), some (.inl s), some (.inl y), none, none]) (st' := [.inl 7, .inl y]) (σ' := σ) 2 rfl ?_
                refine zX_c5 rfl (fun a8 => ?_) (fun a8 => ?_)
                · skip
                  refine zX_run (n' := 28) (ls' := [some (.inr (.inr (10, 0))), some (.inl a), some (.inl b), some (.inl s), some (.inl y), none, none]) (st' := [.inl y, .inl s, .inl a, .inr (.inr (10, 0))]) (σ' := σ) 4 rfl ?_
                  exact h8 a1 a2 a3 a4 a5 a6 a7 a8
                · skip
                  refine zX_run (n' := 23) (ls' := [some (.inr (.inr (10, 0))), some (.inl a), some (.inl b), some (.inl s), some (.inl y), none, none]) (st' := [.inr (.inl (-4611686018427387904))]) (σ' := σ) 1 rfl ?_
                  exact zX_retL rfl rfl (h9 a1 a2 a3 a4 a5 a6 a7 a8)
-- X10_unlike
theorem zb_180b {d : Nat} {σ : zS} {Q : Option zV → zS → Prop} {a b s y v : Int}
    (h1 : zX (d + 10) 180 35 [some (.inr (.inr (10, 0))), some (.inl a), some (.inl b), some (.inl s), some (.inl y), some (.inr (.inl v)), none] [.inl y, .inl s, .inl b, .inr (.inr (10, 0)), .inr (.inl v)] σ Q) :
    zX (d + 10) 180 29 [some (.inr (.inr (10, 0))), some (.inl a), some (.inl b), some (.inl s), some (.inl y), none, none] [.inr (.inl v)] σ Q := by
  refine zX_run (n' := 35) (ls' := [some (.inr (.inr (10, 0))), some (.inl a), some (.inl b), some (.inl s), some (.inl y), some (.inr (.inl v)), none]) (st' := [.inl y, .inl s, .inl b, .inr (.inr (10, 0)), .inr (.inl v)]) (σ' := σ) 6 rfl ?_
  exact h1
-- X10_unlike
theorem zb_180c {d : Nat} {σ : zS} {Q : Option zV → zS → Prop} {a b s y u v w : Int}
    (h1 : Q (some (.inr (.inl (zWl (v - w))))) σ) :
    zX (d + 10) 180 36 [some (.inr (.inr (10, 0))), some (.inl a), some (.inl b), some (.inl s), some (.inl y), some (.inr (.inl u)), none] [.inr (.inl w), .inr (.inl v)] σ Q := by
  refine zX_run (n' := 37) (ls' := [some (.inr (.inr (10, 0))), some (.inl a), some (.inl b), some (.inl s), some (.inl y), some (.inr (.inl u)), none]) (st' := [.inr (.inl (zWl (v - w)))]) (σ' := σ) 1 rfl ?_
  exact zX_retL rfl rfl h1
def vUnl (σ : zS) (a b s y : Int) : Int := if (0 ≤ a ∧ a < σ.1 10 0 6) ∧ (0 ≤ b ∧ b < σ.1 10 0 6) ∧ (0 ≤ s ∧ s ≤ 3) ∧ 0 ≤ y ∧ y ≤ 7 then zWl (vGot (mD (zR4 σ a)) s (12 * y.toNat) - vGot (mD (zR4 σ b)) s (12 * y.toNat)) else -4611686018427387904
theorem yc_95 {d : Nat} (a b s y : Int) : yC (d + 60) 95 [.inl a, .inl b, .inl s, .inl y] (fun x => .inr (.inl (vUnl x a b s y))) := fun σ Q R q => by
  have q : ∀ x, yE σ x → yRel x → Q (some (.inr (.inl (vUnl σ a b s y)))) x := q
  have T1 := R.2.2.2.2.2.1.1
  have oH : 0 ≤ σ.1 8 0 13 ∧ σ.1 8 0 13 ≤ 1000 := by clear q; omega
  by_cases P : (0 ≤ a ∧ a < σ.1 10 0 6) ∧ (0 ≤ b ∧ b < σ.1 10 0 6) ∧ (0 ≤ s ∧ s ≤ 3) ∧ 0 ≤ y ∧ y ≤ 7
  case neg =>
    have q := q _ yE_r R
    rw [show vUnl σ a b s y = -4611686018427387904 from if_neg P] at q
    have nb : ¬ ((0 ≤ a ∧ a < σ.1 8 0 13) ∧ (0 ≤ b ∧ b < σ.1 8 0 13) ∧ (0 ≤ s ∧ s ≤ 3) ∧ 0 ≤ y ∧ y ≤ 7) := by rw [T1.1]; exact P
    exact zb_95 (d := d + 40) oH (fun a b c e => absurd ⟨a, b, c, e⟩ nb) (fun _ _ _ _ => q) (fun _ _ _ => q) (fun _ _ => q) (fun _ => q)
  have F : vUnl σ a b s y = zWl (vGot (mD (zR4 σ a)) s (12 * y.toNat) - vGot (mD (zR4 σ b)) s (12 * y.toNat)) := if_pos P
  rw [F] at q
  clear F
  obtain ⟨Pa, Pb, Ps, Py⟩ := P
  have Pa' : 0 ≤ a ∧ a < σ.1 8 0 13 := by rw [T1.1]; exact Pa
  have Pb' : 0 ≤ b ∧ b < σ.1 8 0 13 := by rw [T1.1]; exact Pb
  obtain ⟨a, rfl⟩ := Int.eq_ofNat_of_zero_le Pa.1
  obtain ⟨b, rfl⟩ := Int.eq_ofNat_of_zero_le Pb.1
  obtain ⟨y, rfl⟩ := Int.eq_ofNat_of_zero_le Py.1
  have y8 : y < 8 := by clear q; omega
  refine zb_95 (d := d + 40) oH (fun _ _ _ _ => ?_) (fun _ _ _ c => absurd Py c) (fun _ _ c => absurd Ps c) (fun _ c => absurd Pb' c) (fun c => absurd Pa' c)
  refine zX_call rfl rfl ?_
  refine zs_117 (d := d + 44) R Pa.2 y8 (fun x E R2 => ?_)
  refine zb_95b (d := d + 40) ?_
  refine zX_call rfl rfl ?_
  have b2 : (b : Int) < x.1 10 0 6 := by rw [E.2 10 (.inl rfl)]; exact Pb.2
  refine zs_117 (d := d + 44) R2 b2 y8 (fun x3 E3 R3 => ?_)
  refine zb_95c (d := d + 40) ?_
  have e : mD (zR4 x (b : Int)) = mD (zR4 σ (b : Int)) := yE_mD (fun k hk => by
    show (fun n j => if k = 70 ∧ n = 0 ∧ j < 4 then (b : Int) else x.1 k n j) = fun n j => if k = 70 ∧ n = 0 ∧ j < 4 then (b : Int) else σ.1 k n j
    rw [E.2 k hk])
  rw [e]
  exact q _ (yE_t E E3) R3
theorem ym_180 {d : Nat} (a b s y : Int) : yM (d + 60) 180 [.inl a, .inl b, .inl s, .inl y] (fun x => .inr (.inl (vUnl x a b s y))) := fun σ Q R q => by
  have q : ∀ x, yRel x → Q (some (.inr (.inl (vUnl σ a b s y)))) x := q
  by_cases P : (0 ≤ a ∧ a < σ.1 10 0 6) ∧ (0 ≤ b ∧ b < σ.1 10 0 6) ∧ (0 ≤ s ∧ s ≤ 3) ∧ 0 ≤ y ∧ y ≤ 7
  case neg =>
    have q := q _ R
    rw [show vUnl σ a b s y = -4611686018427387904 from if_neg P] at q
    clear R
    exact zb_180 (d := d + 50) (fun _ => q) (fun _ _ => q) (fun _ _ _ => q) (fun _ _ _ _ => q) (fun _ _ _ _ _ => q) (fun _ _ _ _ _ _ => q) (fun _ _ _ _ _ _ _ => q) (fun _ _ _ _ _ _ _ _ => absurd (by clear q; omega) P) (fun _ _ _ _ _ _ _ _ => q)
  have F : vUnl σ a b s y = zWl (vGot (mD (zR4 σ a)) s (12 * y.toNat) - vGot (mD (zR4 σ b)) s (12 * y.toNat)) := if_pos P
  rw [F] at q
  clear F
  obtain ⟨Pa, Pb, Ps, Py⟩ := P
  obtain ⟨a, rfl⟩ := Int.eq_ofNat_of_zero_le Pa.1
  obtain ⟨b, rfl⟩ := Int.eq_ofNat_of_zero_le Pb.1
  obtain ⟨y, rfl⟩ := Int.eq_ofNat_of_zero_le Py.1
  have y8 : y < 8 := by clear q; omega
  have n1 : ¬ (a : Int) < 0 := Int.not_lt.mpr Pa.1
  have n2 : ¬ σ.1 10 0 6 ≤ (a : Int) := Int.not_le.mpr Pa.2
  have n3 : ¬ (b : Int) < 0 := Int.not_lt.mpr Pb.1
  have n4 : ¬ σ.1 10 0 6 ≤ (b : Int) := Int.not_le.mpr Pb.2
  have n5 : ¬ s < 0 := Int.not_lt.mpr Ps.1
  have n6 : ¬ 3 < s := Int.not_lt.mpr Ps.2
  have n7 : ¬ (y : Int) < 0 := Int.not_lt.mpr Py.1
  refine zb_180 (d := d + 50) (fun c => absurd c n1) (fun _ c => absurd c n2) (fun _ _ c => absurd c n3) (fun _ _ _ c => absurd c n4) (fun _ _ _ _ c => absurd c n5) (fun _ _ _ _ _ c => absurd c n6) (fun _ _ _ _ _ _ c => absurd c n7) (fun _ _ _ _ _ _ _ _ => ?_) (fun _ _ _ _ _ _ _ c => absurd Py.2 c)
  refine zX_call rfl rfl ?_
  refine zs_179 (d := d + 52) R Pa.2 y8 (fun x E E10 R2 => ?_)
  refine zb_180b (d := d + 50) ?_
  refine zX_call rfl rfl ?_
  have b2 : (b : Int) < x.1 10 0 6 := by rw [E10]; exact Pb.2
  refine zs_179 (d := d + 52) R2 b2 y8 (fun x3 E3 _ R3 => ?_)
  refine zb_180c (d := d + 50) ?_
  rw [E]
  exact q _ R3
theorem yp_unlike {d : Nat} {σ : zS} (R : yRel σ) (a b s y : Int) : yPl d 95 180 [.inl a, .inl b, .inl s, .inl y] σ :=
  yp_ofl (f := fun x => vUnl x a b s y) (yc_95 a b s y) (ym_180 a b s y) (fun σ x E => by
    show vUnl x a b s y = vUnl σ a b s y
    have e : ∀ t : Int, mD (zR4 x t) = mD (zR4 σ t) := fun t => yE_mD (fun k hk => by
      show (fun n j => if k = 70 ∧ n = 0 ∧ j < 4 then t else x.1 k n j) = fun n j => if k = 70 ∧ n = 0 ∧ j < 4 then t else σ.1 k n j
      rw [E.2 k hk])
    unfold vUnl
    rw [e, e, E.2 10 (.inl rfl)]) R
