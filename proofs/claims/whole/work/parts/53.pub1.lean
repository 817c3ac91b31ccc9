-- public methods, first (wip/whole/gen/laws32.py)
-- X9_side
theorem zb_68 {d : Nat} {σ : zS} {Q : Option zV → zS → Prop} {r : Int} {m : Int} {n : Int}
    (o1 : 0 ≤ r ∧ r ≤ 6 → 0 ≤ m ∧ m ≤ 11 → 0 ≤ n ∧ n ≤ 9999 → (0 : Int) ≤ zW ((zW (r * 12)) + m) ∧ zW ((zW (r * 12)) + m) < (84 : Int))
    (h1 : 0 ≤ r ∧ r ≤ 6 → 0 ≤ m ∧ m ≤ 11 → 0 ≤ n ∧ n ≤ 9999 → Q (some (.inl (σ.1 34 0 ((zW ((zW (r * 12)) + m)).toNat)))) (zU (zU σ 34 0 ((zW ((zW (r * 12)) + m)).toNat) n) 0 0 4 1))
    (h2 : 0 ≤ r ∧ r ≤ 6 → 0 ≤ m ∧ m ≤ 11 → ¬ (0 ≤ n ∧ n ≤ 9999) → Q (some (.inl (-2))) σ)
    (h3 : 0 ≤ r ∧ r ≤ 6 → ¬ (0 ≤ m ∧ m ≤ 11) → Q (some (.inl (-2))) σ)
    (h4 : ¬ (0 ≤ r ∧ r ≤ 6) → Q (some (.inl (-2))) σ) :
    zM (d + 3) 68 [.inr (.inr (9, 0)), .inl r, .inl m, .inl n] σ Q := by
  refine zX_run (n' := 1) (ls' := [some (.inr (.inr (9, 0))), some (.inl r), some (.inl m), some (.inl n), none, none]) (st' := [.inl r]) (σ' := σ) 1 rfl ?_
  refine zX_call rfl rfl ?_
  refine zs_105 (fun a1 => ?_) (fun a2 => ?_)
  · skip
    refine zX_run (n' := 6) (ls' := [some (.inr (.inr (9, 0))), some (.inl r), some (.inl m), some (.inl n), none, none]) (st' := [.inl 11, .inl 0, .inl m]) (σ' := σ) 4 rfl ?_
    refine zX_call rfl rfl ?_
    refine zs_104 (fun a3 => ?_) (fun a4 => ?_)
    · skip
      refine zX_run (n' := 11) (ls' := [some (.inr (.inr (9, 0))), some (.inl r), some (.inl m), some (.inl n), none, none]) (st' := [.inl 9999, .inl 0, .inl n]) (σ' := σ) 4 rfl ?_
      refine zX_call rfl rfl ?_
      refine zs_104 (fun a5 => ?_) (fun a6 => ?_)
      · skip
        refine zX_run (n' := 25) (ls' := [some (.inr (.inr (9, 0))), some (.inl r), some (.inl m), some (.inl n), some (.inl (zW ((zW (r * 12)) + m))), none]) (st' := [.inl (zW ((zW (r * 12)) + m)), .inr (.inr (34, 0))]) (σ' := σ) 11 rfl ?_
        refine zX_ald1 (L := 84) rfl (by decide) rfl (o1 a1 a3 a5) ?_
        refine zX_run (n' := 32) (ls' := [some (.inr (.inr (9, 0))), some (.inl r), some (.inl m), some (.inl n), some (.inl (zW ((zW (r * 12)) + m))), some (.inl (σ.1 34 0 ((zW ((zW (r * 12)) + m)).toNat)))]) (st' := [.inl n, .inl (zW ((zW (r * 12)) + m)), .inr (.inr (34, 0))]) (σ' := σ) 6 rfl ?_
        refine zX_ast1 (L := 84) rfl (by decide) rfl (o1 a1 a3 a5) ?_
        refine zX_run (n' := 38) (ls' := [some (.inr (.inr (9, 0))), some (.inl r), some (.inl m), some (.inl n), some (.inl (zW ((zW (r * 12)) + m))), some (.inl (σ.1 34 0 ((zW ((zW (r * 12)) + m)).toNat)))]) (st' := [.inl (σ.1 34 0 ((zW ((zW (r * 12)) + m)).toNat))]) (σ' := (zU (zU σ 34 0 ((zW ((zW (r * 12)) + m)).toNat) n) 0 0 4 1)) 5 rfl ?_
        exact zX_ret rfl rfl (h1 a1 a3 a5)
      · skip
        refine zX_run (n' := 14) (ls' := [some (.inr (.inr (9, 0))), some (.inl r), some (.inl m), some (.inl n), none, none]) (st' := [.inl (-2)]) (σ' := σ) 2 rfl ?_
        exact zX_ret rfl rfl (h2 a1 a3 a6)
    · skip
      refine zX_run (n' := 14) (ls' := [some (.inr (.inr (9, 0))), some (.inl r), some (.inl m), some (.inl n), none, none]) (st' := [.inl (-2)]) (σ' := σ) 2 rfl ?_
      exact zX_ret rfl rfl (h3 a1 a4)
  · skip
    refine zX_run (n' := 14) (ls' := [some (.inr (.inr (9, 0))), some (.inl r), some (.inl m), some (.inl n), none, none]) (st' := [.inl (-2)]) (σ' := σ) 2 rfl ?_
    exact zX_ret rfl rfl (h4 a2)
-- X9_salt
theorem zb_69 {d : Nat} {σ : zS} {Q : Option zV → zS → Prop} {r : Int} {n : Int}
    (o1 : 0 ≤ r ∧ r ≤ 6 → 0 ≤ n ∧ n ≤ 99 → (0 : Int) ≤ r ∧ r < (7 : Int))
    (h1 : 0 ≤ r ∧ r ≤ 6 → 0 ≤ n ∧ n ≤ 99 → Q (some (.inl (σ.1 35 0 (r.toNat)))) (zU (zU σ 35 0 (r.toNat) n) 0 0 4 1))
    (h2 : 0 ≤ r ∧ r ≤ 6 → ¬ (0 ≤ n ∧ n ≤ 99) → Q (some (.inl (-2))) σ)
    (h3 : ¬ (0 ≤ r ∧ r ≤ 6) → Q (some (.inl (-2))) σ) :
    zM (d + 3) 69 [.inr (.inr (9, 0)), .inl r, .inl n] σ Q := by
  refine zX_run (n' := 1) (ls' := [some (.inr (.inr (9, 0))), some (.inl r), some (.inl n), none]) (st' := [.inl r]) (σ' := σ) 1 rfl ?_
  refine zX_call rfl rfl ?_
  refine zs_105 (fun a1 => ?_) (fun a2 => ?_)
  · skip
    refine zX_run (n' := 6) (ls' := [some (.inr (.inr (9, 0))), some (.inl r), some (.inl n), none]) (st' := [.inl 99, .inl 0, .inl n]) (σ' := σ) 4 rfl ?_
    refine zX_call rfl rfl ?_
    refine zs_104 (fun a3 => ?_) (fun a4 => ?_)
    · skip
      refine zX_run (n' := 14) (ls' := [some (.inr (.inr (9, 0))), some (.inl r), some (.inl n), none]) (st' := [.inl r, .inr (.inr (35, 0))]) (σ' := σ) 5 rfl ?_
      refine zX_ald1 (L := 7) rfl (by decide) rfl (o1 a1 a3) ?_
      refine zX_run (n' := 21) (ls' := [some (.inr (.inr (9, 0))), some (.inl r), some (.inl n), some (.inl (σ.1 35 0 (r.toNat)))]) (st' := [.inl n, .inl r, .inr (.inr (35, 0))]) (σ' := σ) 6 rfl ?_
      refine zX_ast1 (L := 7) rfl (by decide) rfl (o1 a1 a3) ?_
      refine zX_run (n' := 27) (ls' := [some (.inr (.inr (9, 0))), some (.inl r), some (.inl n), some (.inl (σ.1 35 0 (r.toNat)))]) (st' := [.inl (σ.1 35 0 (r.toNat))]) (σ' := (zU (zU σ 35 0 (r.toNat) n) 0 0 4 1)) 5 rfl ?_
      exact zX_ret rfl rfl (h1 a1 a3)
    · skip
      refine zX_run (n' := 9) (ls' := [some (.inr (.inr (9, 0))), some (.inl r), some (.inl n), none]) (st' := [.inl (-2)]) (σ' := σ) 2 rfl ?_
      exact zX_ret rfl rfl (h2 a1 a4)
  · skip
    refine zX_run (n' := 9) (ls' := [some (.inr (.inr (9, 0))), some (.inl r), some (.inl n), none]) (st' := [.inl (-2)]) (σ' := σ) 2 rfl ?_
    exact zX_ret rfl rfl (h3 a2)
-- X9_flood
theorem zb_70 {d : Nat} {σ : zS} {Q : Option zV → zS → Prop} {r : Int} {m : Int} {n : Int}
    (o1 : 0 ≤ r ∧ r ≤ 6 → 0 ≤ m ∧ m ≤ 95 → (-9999) ≤ n ∧ n ≤ 9999 → σ.1 8 0 3 < 24 → (0 : Int) ≤ zW ((zW (r * 96)) + m) ∧ zW ((zW (r * 96)) + m) < (672 : Int))
    (h1 : 0 ≤ r ∧ r ≤ 6 → 0 ≤ m ∧ m ≤ 95 → (-9999) ≤ n ∧ n ≤ 9999 → σ.1 8 0 3 < 24 → Q (some (.inl (σ.1 8 0 3))) (zU (zU (zU σ 36 0 ((zW ((zW (r * 96)) + m)).toNat) (zW ((σ.1 36 0 ((zW ((zW (r * 96)) + m)).toNat)) + n))) 0 0 4 1) 8 0 3 (zW ((σ.1 8 0 3) + 1))))
    (h2 : 0 ≤ r ∧ r ≤ 6 → 0 ≤ m ∧ m ≤ 95 → (-9999) ≤ n ∧ n ≤ 9999 → ¬ σ.1 8 0 3 < 24 → Q (some (.inl (-4))) σ)
    (h3 : 0 ≤ r ∧ r ≤ 6 → 0 ≤ m ∧ m ≤ 95 → ¬ ((-9999) ≤ n ∧ n ≤ 9999) → Q (some (.inl (-2))) σ)
    (h4 : 0 ≤ r ∧ r ≤ 6 → ¬ (0 ≤ m ∧ m ≤ 95) → Q (some (.inl (-2))) σ)
    (h5 : ¬ (0 ≤ r ∧ r ≤ 6) → Q (some (.inl (-2))) σ) :
    zM (d + 3) 70 [.inr (.inr (9, 0)), .inl r, .inl m, .inl n] σ Q := by
  refine zX_run (n' := 1) (ls' := [some (.inr (.inr (9, 0))), some (.inl r), some (.inl m), some (.inl n)]) (st' := [.inl r]) (σ' := σ) 1 rfl ?_
  refine zX_call rfl rfl ?_
  refine zs_105 (fun a1 => ?_) (fun a2 => ?_)
  · skip
    refine zX_run (n' := 4) (ls' := [some (.inr (.inr (9, 0))), some (.inl r), some (.inl m), some (.inl n)]) (st' := [.inl m]) (σ' := σ) 2 rfl ?_
    refine zX_call rfl rfl ?_
    refine zs_106 (fun a3 => ?_) (fun a4 => ?_)
    · skip
      refine zX_run (n' := 9) (ls' := [some (.inr (.inr (9, 0))), some (.inl r), some (.inl m), some (.inl n)]) (st' := [.inl 9999, .inl (-9999), .inl n]) (σ' := σ) 4 rfl ?_
      refine zX_call rfl rfl ?_
      refine zs_104 (fun a5 => ?_) (fun a6 => ?_)
      · skip
        refine zX_run (n' := 17) (ls' := [some (.inr (.inr (9, 0))), some (.inl r), some (.inl m), some (.inl n)]) (st' := [.inl 24, .inl (σ.1 8 0 3)]) (σ' := σ) 5 rfl ?_
        refine zX_c2 rfl (fun a7 => ?_) (fun a7 => ?_)
        · skip
          refine zX_run (n' := 29) (ls' := [some (.inr (.inr (9, 0))), some (.inl r), some (.inl m), some (.inl n)]) (st' := [.inl (zW ((zW (r * 96)) + m)), .inr (.inr (36, 0)), .inl (zW ((zW (r * 96)) + m)), .inr (.inr (36, 0))]) (σ' := σ) 9 rfl ?_
          refine zX_ald1 (L := 672) rfl (by decide) rfl (o1 a1 a3 a5 a7) ?_
          refine zX_run (n' := 32) (ls' := [some (.inr (.inr (9, 0))), some (.inl r), some (.inl m), some (.inl n)]) (st' := [.inl (zW ((σ.1 36 0 ((zW ((zW (r * 96)) + m)).toNat)) + n)), .inl (zW ((zW (r * 96)) + m)), .inr (.inr (36, 0))]) (σ' := σ) 2 rfl ?_
          refine zX_ast1 (L := 672) rfl (by decide) rfl (o1 a1 a3 a5 a7) ?_
          refine zX_run (n' := 45) (ls' := [some (.inr (.inr (9, 0))), some (.inl r), some (.inl m), some (.inl n)]) (st' := [.inl (σ.1 8 0 3)]) (σ' := (zU (zU (zU σ 36 0 ((zW ((zW (r * 96)) + m)).toNat) (zW ((σ.1 36 0 ((zW ((zW (r * 96)) + m)).toNat)) + n))) 0 0 4 1) 8 0 3 (zW ((σ.1 8 0 3) + 1)))) 12 rfl ?_
          exact zX_ret rfl rfl (h1 a1 a3 a5 a7)
        · skip
          refine zX_run (n' := 19) (ls' := [some (.inr (.inr (9, 0))), some (.inl r), some (.inl m), some (.inl n)]) (st' := [.inl (-4)]) (σ' := σ) 1 rfl ?_
          exact zX_ret rfl rfl (h2 a1 a3 a5 a7)
      · skip
        refine zX_run (n' := 12) (ls' := [some (.inr (.inr (9, 0))), some (.inl r), some (.inl m), some (.inl n)]) (st' := [.inl (-2)]) (σ' := σ) 2 rfl ?_
        exact zX_ret rfl rfl (h3 a1 a3 a6)
    · skip
      refine zX_run (n' := 12) (ls' := [some (.inr (.inr (9, 0))), some (.inl r), some (.inl m), some (.inl n)]) (st' := [.inl (-2)]) (σ' := σ) 2 rfl ?_
      exact zX_ret rfl rfl (h4 a1 a4)
  · skip
    refine zX_run (n' := 12) (ls' := [some (.inr (.inr (9, 0))), some (.inl r), some (.inl m), some (.inl n)]) (st' := [.inl (-2)]) (σ' := σ) 2 rfl ?_
    exact zX_ret rfl rfl (h5 a2)
-- X9_gauge
theorem zb_71 {d : Nat} {σ : zS} {Q : Option zV → zS → Prop} {r : Int} {m : Int} {n : Int}
    (o1 : 0 ≤ r ∧ r ≤ 6 → 0 ≤ m ∧ m ≤ 95 → 0 ≤ n ∧ n ≤ 99999 → σ.1 8 0 5 < 40 → (0 : Int) ≤ zW ((zW (r * 96)) + m) ∧ zW ((zW (r * 96)) + m) < (672 : Int))
    (h1 : 0 ≤ r ∧ r ≤ 6 → 0 ≤ m ∧ m ≤ 95 → 0 ≤ n ∧ n ≤ 99999 → σ.1 8 0 5 < 40 → Q (some (.inl (σ.1 8 0 5))) (zU (zU (zU σ 37 0 ((zW ((zW (r * 96)) + m)).toNat) n) 0 0 4 1) 8 0 5 (zW ((σ.1 8 0 5) + 1))))
    (h2 : 0 ≤ r ∧ r ≤ 6 → 0 ≤ m ∧ m ≤ 95 → 0 ≤ n ∧ n ≤ 99999 → ¬ σ.1 8 0 5 < 40 → Q (some (.inl (-4))) σ)
    (h3 : 0 ≤ r ∧ r ≤ 6 → 0 ≤ m ∧ m ≤ 95 → ¬ (0 ≤ n ∧ n ≤ 99999) → Q (some (.inl (-2))) σ)
    (h4 : 0 ≤ r ∧ r ≤ 6 → ¬ (0 ≤ m ∧ m ≤ 95) → Q (some (.inl (-2))) σ)
    (h5 : ¬ (0 ≤ r ∧ r ≤ 6) → Q (some (.inl (-2))) σ) :
    zM (d + 3) 71 [.inr (.inr (9, 0)), .inl r, .inl m, .inl n] σ Q := by
  refine zX_run (n' := 1) (ls' := [some (.inr (.inr (9, 0))), some (.inl r), some (.inl m), some (.inl n)]) (st' := [.inl r]) (σ' := σ) 1 rfl ?_
  refine zX_call rfl rfl ?_
  refine zs_105 (fun a1 => ?_) (fun a2 => ?_)
  · skip
    refine zX_run (n' := 4) (ls' := [some (.inr (.inr (9, 0))), some (.inl r), some (.inl m), some (.inl n)]) (st' := [.inl m]) (σ' := σ) 2 rfl ?_
    refine zX_call rfl rfl ?_
    refine zs_106 (fun a3 => ?_) (fun a4 => ?_)
    · skip
      refine zX_run (n' := 9) (ls' := [some (.inr (.inr (9, 0))), some (.inl r), some (.inl m), some (.inl n)]) (st' := [.inl 99999, .inl 0, .inl n]) (σ' := σ) 4 rfl ?_
      refine zX_call rfl rfl ?_
      refine zs_104 (fun a5 => ?_) (fun a6 => ?_)
      · skip
        refine zX_run (n' := 17) (ls' := [some (.inr (.inr (9, 0))), some (.inl r), some (.inl m), some (.inl n)]) (st' := [.inl 40, .inl (σ.1 8 0 5)]) (σ' := σ) 5 rfl ?_
        refine zX_c2 rfl (fun a7 => ?_) (fun a7 => ?_)
        · skip
          refine zX_run (n' := 29) (ls' := [some (.inr (.inr (9, 0))), some (.inl r), some (.inl m), some (.inl n)]) (st' := [.inl n, .inl (zW ((zW (r * 96)) + m)), .inr (.inr (37, 0))]) (σ' := σ) 9 rfl ?_
          refine zX_ast1 (L := 672) rfl (by decide) rfl (o1 a1 a3 a5 a7) ?_
          refine zX_run (n' := 42) (ls' := [some (.inr (.inr (9, 0))), some (.inl r), some (.inl m), some (.inl n)]) (st' := [.inl (σ.1 8 0 5)]) (σ' := (zU (zU (zU σ 37 0 ((zW ((zW (r * 96)) + m)).toNat) n) 0 0 4 1) 8 0 5 (zW ((σ.1 8 0 5) + 1)))) 12 rfl ?_
          exact zX_ret rfl rfl (h1 a1 a3 a5 a7)
        · skip
          refine zX_run (n' := 19) (ls' := [some (.inr (.inr (9, 0))), some (.inl r), some (.inl m), some (.inl n)]) (st' := [.inl (-4)]) (σ' := σ) 1 rfl ?_
          exact zX_ret rfl rfl (h2 a1 a3 a5 a7)
      · skip
        refine zX_run (n' := 12) (ls' := [some (.inr (.inr (9, 0))), some (.inl r), some (.inl m), some (.inl n)]) (st' := [.inl (-2)]) (σ' := σ) 2 rfl ?_
        exact zX_ret rfl rfl (h3 a1 a3 a6)
    · skip
      refine zX_run (n' := 12) (ls' := [some (.inr (.inr (9, 0))), some (.inl r), some (.inl m), some (.inl n)]) (st' := [.inl (-2)]) (σ' := σ) 2 rfl ?_
      exact zX_ret rfl rfl (h4 a1 a4)
  · skip
    refine zX_run (n' := 12) (ls' := [some (.inr (.inr (9, 0))), some (.inl r), some (.inl m), some (.inl n)]) (st' := [.inl (-2)]) (σ' := σ) 2 rfl ?_
    exact zX_ret rfl rfl (h5 a2)
-- X9_read
theorem zb_72 {d : Nat} {σ : zS} {Q : Option zV → zS → Prop} {r : Int} {m : Int}
    (o1 : 0 ≤ r ∧ r ≤ 6 → 0 ≤ m ∧ m ≤ 95 → 0 ≤ r ∧ r < 7)
    (o2 : 0 ≤ r ∧ r ≤ 6 → 0 ≤ m ∧ m ≤ 95 → 0 ≤ m ∧ m < 96)
    (h1 : 0 ≤ r ∧ r ≤ 6 → 0 ≤ m ∧ m ≤ 95 → Q (some (.inl (cRead σ r.toNat m.toNat))) σ)
    (h2 : 0 ≤ r ∧ r ≤ 6 → ¬ (0 ≤ m ∧ m ≤ 95) → Q (some (.inl (-2))) σ)
    (h3 : ¬ (0 ≤ r ∧ r ≤ 6) → Q (some (.inl (-2))) σ) :
    zM (d + 3) 72 [.inr (.inr (9, 0)), .inl r, .inl m] σ Q := by
  refine zX_run (n' := 1) (ls' := [some (.inr (.inr (9, 0))), some (.inl r), some (.inl m)]) (st' := [.inl r]) (σ' := σ) 1 rfl ?_
  refine zX_call rfl rfl ?_
  refine zs_105 (fun a1 => ?_) (fun a2 => ?_)
  · skip
    refine zX_run (n' := 4) (ls' := [some (.inr (.inr (9, 0))), some (.inl r), some (.inl m)]) (st' := [.inl m]) (σ' := σ) 2 rfl ?_
    refine zX_call rfl rfl ?_
    refine zs_106 (fun a3 => ?_) (fun a4 => ?_)
    · skip
      refine zX_run (n' := 12) (ls' := [some (.inr (.inr (9, 0))), some (.inl r), some (.inl m)]) (st' := [.inl m, .inl r, .inr (.inr (8, 0))]) (σ' := σ) 5 rfl ?_
      refine zX_call rfl rfl ?_
      refine zs_61 (o1 a1 a3) (o2 a1 a3) ?_
      · skip
        exact zX_ret rfl rfl (h1 a1 a3)
    · skip
      refine zX_run (n' := 7) (ls' := [some (.inr (.inr (9, 0))), some (.inl r), some (.inl m)]) (st' := [.inl (-2)]) (σ' := σ) 2 rfl ?_
      exact zX_ret rfl rfl (h2 a1 a4)
  · skip
    refine zX_run (n' := 7) (ls' := [some (.inr (.inr (9, 0))), some (.inl r), some (.inl m)]) (st' := [.inl (-2)]) (σ' := σ) 2 rfl ?_
    exact zX_ret rfl rfl (h3 a2)
-- X9_lake
theorem zb_73 {d : Nat} {σ : zS} {Q : Option zV → zS → Prop} {r : Int} {o : Int} {l : Int} {s : Int} {e : Int}
    (o1 : 0 ≤ r ∧ r ≤ 6 → 0 ≤ o ∧ o ≤ 99999 → 0 ≤ l ∧ l ≤ o → 0 ≤ s ∧ s ≤ 99 → 0 ≤ e ∧ e ≤ 9999 → (0 : Int) ≤ r ∧ r < (7 : Int))
    (h1 : 0 ≤ r ∧ r ≤ 6 → 0 ≤ o ∧ o ≤ 99999 → 0 ≤ l ∧ l ≤ o → 0 ≤ s ∧ s ≤ 99 → 0 ≤ e ∧ e ≤ 9999 → σ.1 3 (7 * 0 + r.toNat) 0 = 0 → Q (some (.inl 1)) (zU (zU (zU (zU (zU (zU σ 3 (7 * 0 + r.toNat) 0 1) 3 (7 * 0 + r.toNat) 1 o) 3 (7 * 0 + r.toNat) 2 l) 3 (7 * 0 + r.toNat) 3 s) 3 (7 * 0 + r.toNat) 4 e) 0 0 4 1))
    (h2 : 0 ≤ r ∧ r ≤ 6 → 0 ≤ o ∧ o ≤ 99999 → 0 ≤ l ∧ l ≤ o → 0 ≤ s ∧ s ≤ 99 → 0 ≤ e ∧ e ≤ 9999 → ¬ σ.1 3 (7 * 0 + r.toNat) 0 = 0 → Q (some (.inl 0)) (zU (zU (zU (zU (zU (zU σ 3 (7 * 0 + r.toNat) 0 1) 3 (7 * 0 + r.toNat) 1 o) 3 (7 * 0 + r.toNat) 2 l) 3 (7 * 0 + r.toNat) 3 s) 3 (7 * 0 + r.toNat) 4 e) 0 0 4 1))
    (h3 : 0 ≤ r ∧ r ≤ 6 → 0 ≤ o ∧ o ≤ 99999 → 0 ≤ l ∧ l ≤ o → 0 ≤ s ∧ s ≤ 99 → ¬ (0 ≤ e ∧ e ≤ 9999) → Q (some (.inl (-2))) σ)
    (h4 : 0 ≤ r ∧ r ≤ 6 → 0 ≤ o ∧ o ≤ 99999 → 0 ≤ l ∧ l ≤ o → ¬ (0 ≤ s ∧ s ≤ 99) → Q (some (.inl (-2))) σ)
    (h5 : 0 ≤ r ∧ r ≤ 6 → 0 ≤ o ∧ o ≤ 99999 → ¬ (0 ≤ l ∧ l ≤ o) → Q (some (.inl (-2))) σ)
    (h6 : 0 ≤ r ∧ r ≤ 6 → ¬ (0 ≤ o ∧ o ≤ 99999) → Q (some (.inl (-2))) σ)
    (h7 : ¬ (0 ≤ r ∧ r ≤ 6) → Q (some (.inl (-2))) σ) :
    zM (d + 3) 73 [.inr (.inr (9, 0)), .inl r, .inl o, .inl l, .inl s, .inl e] σ Q := by
  refine zX_run (n' := 1) (ls' := [some (.inr (.inr (9, 0))), some (.inl r), some (.inl o), some (.inl l), some (.inl s), some (.inl e), none, none]) (st' := [.inl r]) (σ' := σ) 1 rfl ?_
  refine zX_call rfl rfl ?_
  refine zs_105 (fun a1 => ?_) (fun a2 => ?_)
  · skip
    refine zX_run (n' := 6) (ls' := [some (.inr (.inr (9, 0))), some (.inl r), some (.inl o), some (.inl l), some (.inl s), some (.inl e), none, none]) (st' := [.inl 99999, .inl 0, .inl o]) (σ' := σ) 4 rfl ?_
    refine zX_call rfl rfl ?_
    refine zs_104 (fun a3 => ?_) (fun a4 => ?_)
    · skip
      refine zX_run (n' := 11) (ls' := [some (.inr (.inr (9, 0))), some (.inl r), some (.inl o), some (.inl l), some (.inl s), some (.inl e), none, none]) (st' := [.inl o, .inl 0, .inl l]) (σ' := σ) 4 rfl ?_
      refine zX_call rfl rfl ?_
      refine zs_104 (fun a5 => ?_) (fun a6 => ?_)
      · skip
        refine zX_run (n' := 16) (ls' := [some (.inr (.inr (9, 0))), some (.inl r), some (.inl o), some (.inl l), some (.inl s), some (.inl e), none, none]) (st' := [.inl 99, .inl 0, .inl s]) (σ' := σ) 4 rfl ?_
        refine zX_call rfl rfl ?_
        refine zs_104 (fun a7 => ?_) (fun a8 => ?_)
        · skip
          refine zX_run (n' := 21) (ls' := [some (.inr (.inr (9, 0))), some (.inl r), some (.inl o), some (.inl l), some (.inl s), some (.inl e), none, none]) (st' := [.inl 9999, .inl 0, .inl e]) (σ' := σ) 4 rfl ?_
          refine zX_call rfl rfl ?_
          refine zs_104 (fun a9 => ?_) (fun a10 => ?_)
          · skip
            refine zX_run (n' := 29) (ls' := [some (.inr (.inr (9, 0))), some (.inl r), some (.inl o), some (.inl l), some (.inl s), some (.inl e), none, none]) (st' := [.inl r, .inr (.inr (38, 0))]) (σ' := σ) 5 rfl ?_
            refine zX_ald5 (L := 7) rfl (by decide) rfl (o1 a1 a3 a5 a7 a9) ?_
            refine zX_run (n' := 33) (ls' := [some (.inr (.inr (9, 0))), some (.inl r), some (.inl o), some (.inl l), some (.inl s), some (.inl e), some (.inr (.inr (3, 7 * 0 + r.toNat))), none]) (st' := [.inl (σ.1 3 (7 * 0 + r.toNat) 0)]) (σ' := σ) 3 rfl ?_
            refine zX_i0 rfl (fun a11 => ?_) (fun a11 => ?_)
            · skip
              refine zX_run (n' := 58) (ls' := [some (.inr (.inr (9, 0))), some (.inl r), some (.inl o), some (.inl l), some (.inl s), some (.inl e), some (.inr (.inr (3, 7 * 0 + r.toNat))), some (.inl 1)]) (st' := [.inl 1]) (σ' := (zU (zU (zU (zU (zU (zU σ 3 (7 * 0 + r.toNat) 0 1) 3 (7 * 0 + r.toNat) 1 o) 3 (7 * 0 + r.toNat) 2 l) 3 (7 * 0 + r.toNat) 3 s) 3 (7 * 0 + r.toNat) 4 e) 0 0 4 1)) 22 rfl ?_
              exact zX_ret rfl rfl (h1 a1 a3 a5 a7 a9 a11)
            · skip
              refine zX_run (n' := 58) (ls' := [some (.inr (.inr (9, 0))), some (.inl r), some (.inl o), some (.inl l), some (.inl s), some (.inl e), some (.inr (.inr (3, 7 * 0 + r.toNat))), some (.inl 0)]) (st' := [.inl 0]) (σ' := (zU (zU (zU (zU (zU (zU σ 3 (7 * 0 + r.toNat) 0 1) 3 (7 * 0 + r.toNat) 1 o) 3 (7 * 0 + r.toNat) 2 l) 3 (7 * 0 + r.toNat) 3 s) 3 (7 * 0 + r.toNat) 4 e) 0 0 4 1)) 23 rfl ?_
              exact zX_ret rfl rfl (h2 a1 a3 a5 a7 a9 a11)
          · skip
            refine zX_run (n' := 24) (ls' := [some (.inr (.inr (9, 0))), some (.inl r), some (.inl o), some (.inl l), some (.inl s), some (.inl e), none, none]) (st' := [.inl (-2)]) (σ' := σ) 2 rfl ?_
            exact zX_ret rfl rfl (h3 a1 a3 a5 a7 a10)
        · skip
          refine zX_run (n' := 24) (ls' := [some (.inr (.inr (9, 0))), some (.inl r), some (.inl o), some (.inl l), some (.inl s), some (.inl e), none, none]) (st' := [.inl (-2)]) (σ' := σ) 2 rfl ?_
          exact zX_ret rfl rfl (h4 a1 a3 a5 a8)
      · skip
        refine zX_run (n' := 24) (ls' := [some (.inr (.inr (9, 0))), some (.inl r), some (.inl o), some (.inl l), some (.inl s), some (.inl e), none, none]) (st' := [.inl (-2)]) (σ' := σ) 2 rfl ?_
        exact zX_ret rfl rfl (h5 a1 a3 a6)
    · skip
      refine zX_run (n' := 24) (ls' := [some (.inr (.inr (9, 0))), some (.inl r), some (.inl o), some (.inl l), some (.inl s), some (.inl e), none, none]) (st' := [.inl (-2)]) (σ' := σ) 2 rfl ?_
      exact zX_ret rfl rfl (h6 a1 a4)
  · skip
    refine zX_run (n' := 24) (ls' := [some (.inr (.inr (9, 0))), some (.inl r), some (.inl o), some (.inl l), some (.inl s), some (.inl e), none, none]) (st' := [.inl (-2)]) (σ' := σ) 2 rfl ?_
    exact zX_ret rfl rfl (h7 a2)
-- X9_release
theorem zb_74 {d : Nat} {σ : zS} {Q : Option zV → zS → Prop} {r : Int} {n : Int}
    (o1 : 0 ≤ r ∧ r ≤ 6 → 0 ≤ n ∧ n ≤ 9999 → (0 : Int) ≤ r ∧ r < (7 : Int))
    (h1 : 0 ≤ r ∧ r ≤ 6 → 0 ≤ n ∧ n ≤ 9999 → ¬ σ.1 3 (7 * 0 + r.toNat) 0 = 0 → Q (some (.inl (σ.1 3 (7 * 0 + r.toNat) 4))) (zU (zU σ 3 (7 * 0 + r.toNat) 4 n) 0 0 4 1))
    (h2 : 0 ≤ r ∧ r ≤ 6 → 0 ≤ n ∧ n ≤ 9999 → σ.1 3 (7 * 0 + r.toNat) 0 = 0 → Q (some (.inl (-5))) σ)
    (h3 : 0 ≤ r ∧ r ≤ 6 → ¬ (0 ≤ n ∧ n ≤ 9999) → Q (some (.inl (-2))) σ)
    (h4 : ¬ (0 ≤ r ∧ r ≤ 6) → Q (some (.inl (-2))) σ) :
    zM (d + 3) 74 [.inr (.inr (9, 0)), .inl r, .inl n] σ Q := by
  refine zX_run (n' := 1) (ls' := [some (.inr (.inr (9, 0))), some (.inl r), some (.inl n), none, none]) (st' := [.inl r]) (σ' := σ) 1 rfl ?_
  refine zX_call rfl rfl ?_
  refine zs_105 (fun a1 => ?_) (fun a2 => ?_)
  · skip
    refine zX_run (n' := 6) (ls' := [some (.inr (.inr (9, 0))), some (.inl r), some (.inl n), none, none]) (st' := [.inl 9999, .inl 0, .inl n]) (σ' := σ) 4 rfl ?_
    refine zX_call rfl rfl ?_
    refine zs_104 (fun a3 => ?_) (fun a4 => ?_)
    · skip
      refine zX_run (n' := 14) (ls' := [some (.inr (.inr (9, 0))), some (.inl r), some (.inl n), none, none]) (st' := [.inl r, .inr (.inr (38, 0))]) (σ' := σ) 5 rfl ?_
      refine zX_ald5 (L := 7) rfl (by decide) rfl (o1 a1 a3) ?_
      refine zX_run (n' := 18) (ls' := [some (.inr (.inr (9, 0))), some (.inl r), some (.inl n), some (.inr (.inr (3, 7 * 0 + r.toNat))), none]) (st' := [.inl (σ.1 3 (7 * 0 + r.toNat) 0)]) (σ' := σ) 3 rfl ?_
      refine zX_i1 rfl (fun a5 => ?_) (fun a5 => ?_)
      · skip
        refine zX_run (n' := 32) (ls' := [some (.inr (.inr (9, 0))), some (.inl r), some (.inl n), some (.inr (.inr (3, 7 * 0 + r.toNat))), some (.inl (σ.1 3 (7 * 0 + r.toNat) 4))]) (st' := [.inl (σ.1 3 (7 * 0 + r.toNat) 4)]) (σ' := (zU (zU σ 3 (7 * 0 + r.toNat) 4 n) 0 0 4 1)) 11 rfl ?_
        exact zX_ret rfl rfl (h1 a1 a3 a5)
      · skip
        refine zX_run (n' := 20) (ls' := [some (.inr (.inr (9, 0))), some (.inl r), some (.inl n), some (.inr (.inr (3, 7 * 0 + r.toNat))), none]) (st' := [.inl (-5)]) (σ' := σ) 1 rfl ?_
        exact zX_ret rfl rfl (h2 a1 a3 a5)
    · skip
      refine zX_run (n' := 9) (ls' := [some (.inr (.inr (9, 0))), some (.inl r), some (.inl n), none, none]) (st' := [.inl (-2)]) (σ' := σ) 2 rfl ?_
      exact zX_ret rfl rfl (h3 a1 a4)
  · skip
    refine zX_run (n' := 9) (ls' := [some (.inr (.inr (9, 0))), some (.inl r), some (.inl n), none, none]) (st' := [.inl (-2)]) (σ' := σ) 2 rfl ?_
    exact zX_ret rfl rfl (h4 a2)
-- X9_hold
theorem zb_75 {d : Nat} {σ : zS} {Q : Option zV → zS → Prop} {k : Int} {s : Int} {r : Int} {n : Int} {e : Int}
    (o1 : (0 ≤ k ∧ k ≤ 5) ∧ (0 ≤ s ∧ s ≤ 3) ∧ (0 ≤ r ∧ r ≤ 6) ∧ (0 ≤ n ∧ n ≤ 9999 ∧ (k = 2 → n ≤ 100)) ∧ 0 ≤ e ∧ e ≤ 9999 → σ.1 8 0 8 < 16 → (0 : Int) ≤ σ.1 8 0 8 ∧ σ.1 8 0 8 < (16 : Int))
    (h1 : (0 ≤ k ∧ k ≤ 5) ∧ (0 ≤ s ∧ s ≤ 3) ∧ (0 ≤ r ∧ r ≤ 6) ∧ (0 ≤ n ∧ n ≤ 9999 ∧ (k = 2 → n ≤ 100)) ∧ 0 ≤ e ∧ e ≤ 9999 → σ.1 8 0 8 < 16 → Q (some (.inl (σ.1 8 0 8))) (zU (zU (zU (zU (zU (zU (zU (zU (zU σ 1 ((16 * 0 + (σ.1 8 0 8).toNat)) 0 k) 1 ((16 * 0 + (σ.1 8 0 8).toNat)) 1 s) 1 ((16 * 0 + (σ.1 8 0 8).toNat)) 2 r) 1 ((16 * 0 + (σ.1 8 0 8).toNat)) 3 n) 1 ((16 * 0 + (σ.1 8 0 8).toNat)) 4 e) 1 ((16 * 0 + (σ.1 8 0 8).toNat)) 5 0) 1 ((16 * 0 + (σ.1 8 0 8).toNat)) 6 96) 0 0 4 1) 8 0 8 (zW ((σ.1 8 0 8) + 1))))
    (h2 : (0 ≤ k ∧ k ≤ 5) ∧ (0 ≤ s ∧ s ≤ 3) ∧ (0 ≤ r ∧ r ≤ 6) ∧ (0 ≤ n ∧ n ≤ 9999 ∧ (k = 2 → n ≤ 100)) ∧ 0 ≤ e ∧ e ≤ 9999 → ¬ σ.1 8 0 8 < 16 → Q (some (.inl (-4))) σ)
    (h3 : ¬ ((0 ≤ k ∧ k ≤ 5) ∧ (0 ≤ s ∧ s ≤ 3) ∧ (0 ≤ r ∧ r ≤ 6) ∧ (0 ≤ n ∧ n ≤ 9999 ∧ (k = 2 → n ≤ 100)) ∧ 0 ≤ e ∧ e ≤ 9999) → Q (some (.inl (-2))) σ) :
    zM (d + 4) 75 [.inr (.inr (9, 0)), .inl k, .inl s, .inl r, .inl n, .inl e] σ Q := by
  refine zX_run (n' := 5) (ls' := [some (.inr (.inr (9, 0))), some (.inl k), some (.inl s), some (.inl r), some (.inl n), some (.inl e)]) (st' := [.inl e, .inl n, .inl r, .inl s, .inl k]) (σ' := σ) 5 rfl ?_
  refine zX_call rfl rfl ?_
  refine zs_111 (fun a1 => ?_) (fun a2 => ?_)
  · skip
    refine zX_run (n' := 13) (ls' := [some (.inr (.inr (9, 0))), some (.inl k), some (.inl s), some (.inl r), some (.inl n), some (.inl e)]) (st' := [.inl 16, .inl (σ.1 8 0 8)]) (σ' := σ) 5 rfl ?_
    refine zX_c2 rfl (fun a3 => ?_) (fun a3 => ?_)
    · skip
      refine zX_run (n' := 22) (ls' := [some (.inr (.inr (9, 0))), some (.inl k), some (.inl s), some (.inl r), some (.inl n), some (.inl e)]) (st' := [.inl (σ.1 8 0 8), .inr (.inr (39, 0))]) (σ' := σ) 6 rfl ?_
      refine zX_ald5 (L := 16) rfl (by decide) rfl (o1 a1 a3) ?_
      refine zX_run (n' := 28) (ls' := [some (.inr (.inr (9, 0))), some (.inl k), some (.inl s), some (.inl r), some (.inl n), some (.inl e)]) (st' := [.inl e, .inl n, .inl r, .inl s, .inl k, .inr (.inr (1, 16 * 0 + (σ.1 8 0 8).toNat))]) (σ' := σ) 5 rfl ?_
      refine zX_call rfl rfl ?_
      refine zm_25 ?_
      · skip
        refine zX_run (n' := 41) (ls' := [some (.inr (.inr (9, 0))), some (.inl k), some (.inl s), some (.inl r), some (.inl n), some (.inl e)]) (st' := [.inl (σ.1 8 0 8)]) (σ' := (zU (zU (zU (zU (zU (zU (zU (zU (zU σ 1 ((16 * 0 + (σ.1 8 0 8).toNat)) 0 k) 1 ((16 * 0 + (σ.1 8 0 8).toNat)) 1 s) 1 ((16 * 0 + (σ.1 8 0 8).toNat)) 2 r) 1 ((16 * 0 + (σ.1 8 0 8).toNat)) 3 n) 1 ((16 * 0 + (σ.1 8 0 8).toNat)) 4 e) 1 ((16 * 0 + (σ.1 8 0 8).toNat)) 5 0) 1 ((16 * 0 + (σ.1 8 0 8).toNat)) 6 96) 0 0 4 1) 8 0 8 (zW ((σ.1 8 0 8) + 1)))) 12 rfl ?_
        exact zX_ret rfl rfl (h1 a1 a3)
    · skip
      refine zX_run (n' := 15) (ls' := [some (.inr (.inr (9, 0))), some (.inl k), some (.inl s), some (.inl r), some (.inl n), some (.inl e)]) (st' := [.inl (-4)]) (σ' := σ) 1 rfl ?_
      exact zX_ret rfl rfl (h2 a1 a3)
  · skip
    refine zX_run (n' := 8) (ls' := [some (.inr (.inr (9, 0))), some (.inl k), some (.inl s), some (.inl r), some (.inl n), some (.inl e)]) (st' := [.inl (-2)]) (σ' := σ) 2 rfl ?_
    exact zX_ret rfl rfl (h3 a2)
-- X9_force
theorem zb_76 {d : Nat} {σ : zS} {Q : Option zV → zS → Prop} {p : Int} {a : Int} {b : Int}
    (o1 : 0 ≤ σ.1 8 0 8 ∧ σ.1 8 0 8 ≤ 1000)
    (o2 : 0 ≤ p ∧ p < σ.1 8 0 8 → 0 ≤ a ∧ a ≤ b ∧ b ≤ 96 → (0 : Int) ≤ p ∧ p < (16 : Int))
    (h1 : 0 ≤ p ∧ p < σ.1 8 0 8 → 0 ≤ a ∧ a ≤ b ∧ b ≤ 96 → Q (some (.inl (zW (b - a)))) (zU (zU (zU σ 1 (16 * 0 + p.toNat) 5 a) 1 (16 * 0 + p.toNat) 6 b) 0 0 4 1))
    (h2 : 0 ≤ p ∧ p < σ.1 8 0 8 → ¬ (0 ≤ a ∧ a ≤ b ∧ b ≤ 96) → Q (some (.inl (-2))) σ)
    (h3 : ¬ (0 ≤ p ∧ p < σ.1 8 0 8) → Q (some (.inl (-2))) σ) :
    zM (d + 3) 76 [.inr (.inr (9, 0)), .inl p, .inl a, .inl b] σ Q := by
  refine zX_run (n' := 2) (ls' := [some (.inr (.inr (9, 0))), some (.inl p), some (.inl a), some (.inl b)]) (st' := [.inl p, .inr (.inr (9, 0))]) (σ' := σ) 2 rfl ?_
  refine zX_call rfl rfl ?_
  refine zs_112 o1 (fun a1 => ?_) (fun a2 => ?_)
  · skip
    refine zX_run (n' := 6) (ls' := [some (.inr (.inr (9, 0))), some (.inl p), some (.inl a), some (.inl b)]) (st' := [.inl b, .inl a]) (σ' := σ) 3 rfl ?_
    refine zX_call rfl rfl ?_
    refine zs_107 (fun a3 => ?_) (fun a4 => ?_)
    · skip
      refine zX_run (n' := 14) (ls' := [some (.inr (.inr (9, 0))), some (.inl p), some (.inl a), some (.inl b)]) (st' := [.inl p, .inr (.inr (39, 0))]) (σ' := σ) 5 rfl ?_
      refine zX_ald5 (L := 16) rfl (by decide) rfl (o2 a1 a3) ?_
      refine zX_run (n' := 21) (ls' := [some (.inr (.inr (9, 0))), some (.inl p), some (.inl a), some (.inl b)]) (st' := [.inl p, .inr (.inr (39, 0))]) (σ' := (zU σ 1 (16 * 0 + p.toNat) 5 a)) 6 rfl ?_
      refine zX_ald5 (L := 16) rfl (by decide) rfl (o2 a1 a3) ?_
      refine zX_run (n' := 31) (ls' := [some (.inr (.inr (9, 0))), some (.inl p), some (.inl a), some (.inl b)]) (st' := [.inl (zW (b - a))]) (σ' := (zU (zU (zU σ 1 (16 * 0 + p.toNat) 5 a) 1 (16 * 0 + p.toNat) 6 b) 0 0 4 1)) 9 rfl ?_
      exact zX_ret rfl rfl (h1 a1 a3)
    · skip
      refine zX_run (n' := 9) (ls' := [some (.inr (.inr (9, 0))), some (.inl p), some (.inl a), some (.inl b)]) (st' := [.inl (-2)]) (σ' := σ) 2 rfl ?_
      exact zX_ret rfl rfl (h2 a1 a4)
  · skip
    refine zX_run (n' := 9) (ls' := [some (.inr (.inr (9, 0))), some (.inl p), some (.inl a), some (.inl b)]) (st' := [.inl (-2)]) (σ' := σ) 2 rfl ?_
    exact zX_ret rfl rfl (h3 a2)
-- X9_holdTold
theorem zb_77 {d : Nat} {σ : zS} {Q : Option zV → zS → Prop} {p : Int} {w : Int}
    (o1 : 0 ≤ σ.1 8 0 8 ∧ σ.1 8 0 8 ≤ 1000)
    (o2 : 0 ≤ p ∧ p < σ.1 8 0 8 → (0 : Int) ≤ p ∧ p < (16 : Int))
    (o3 : 0 ≤ p ∧ p < σ.1 8 0 8 → w = 6 → 0 ≤ σ.1 1 (16 * 0 + p.toNat) 0 ∧ σ.1 1 (16 * 0 + p.toNat) 0 ≤ 5)
    (h1 : 0 ≤ p ∧ p < σ.1 8 0 8 → w < 0 ∨ 6 < w → Q (some (.inl (-2))) σ)
    (h2 : 0 ≤ p ∧ p < σ.1 8 0 8 → w = 0 → Q (some (.inl (σ.1 1 (16 * 0 + p.toNat) 0))) σ)
    (h3 : 0 ≤ p ∧ p < σ.1 8 0 8 → w = 1 → Q (some (.inl (σ.1 1 (16 * 0 + p.toNat) 1))) σ)
    (h4 : 0 ≤ p ∧ p < σ.1 8 0 8 → w = 2 → Q (some (.inl (σ.1 1 (16 * 0 + p.toNat) 2))) σ)
    (h5 : 0 ≤ p ∧ p < σ.1 8 0 8 → w = 3 → Q (some (.inl (σ.1 1 (16 * 0 + p.toNat) 3))) σ)
    (h6 : 0 ≤ p ∧ p < σ.1 8 0 8 → w = 4 → Q (some (.inl (σ.1 1 (16 * 0 + p.toNat) 4))) σ)
    (h7 : 0 ≤ p ∧ p < σ.1 8 0 8 → w = 5 → Q (some (.inl (uRank (σ.1 1 (16 * 0 + p.toNat) 0) (σ.1 1 (16 * 0 + p.toNat) 4)))) σ)
    (h8 : 0 ≤ p ∧ p < σ.1 8 0 8 → w = 6 → Q (some (.inl (uHun (σ.1 1 (16 * 0 + p.toNat) 0)))) σ)
    (h9 : ¬ (0 ≤ p ∧ p < σ.1 8 0 8) → Q (some (.inl (-2))) σ) :
    zM (d + 3) 77 [.inr (.inr (9, 0)), .inl p, .inl w] σ Q := by
  refine zX_run (n' := 2) (ls' := [some (.inr (.inr (9, 0))), some (.inl p), some (.inl w), none]) (st' := [.inl p, .inr (.inr (9, 0))]) (σ' := σ) 2 rfl ?_
  refine zX_call rfl rfl ?_
  refine zs_112 o1 (fun a1 => ?_) (fun a2 => ?_)
  · skip
    refine zX_run (n' := 10) (ls' := [some (.inr (.inr (9, 0))), some (.inl p), some (.inl w), none]) (st' := [.inl p, .inr (.inr (39, 0))]) (σ' := σ) 5 rfl ?_
    refine zX_ald5 (L := 16) rfl (by decide) rfl (o2 a1) ?_
    refine zX_run (n' := 13) (ls' := [some (.inr (.inr (9, 0))), some (.inl p), some (.inl w), some (.inr (.inr (1, 16 * 0 + p.toNat)))]) (st' := [.inl w]) (σ' := σ) 2 rfl ?_
    refine zX_sw rfl (fun a3 => ?_) ⟨fun a3 => ?_, fun a3 => ?_, fun a3 => ?_, fun a3 => ?_, fun a3 => ?_, fun a3 => ?_, fun a3 => ?_, trivial⟩
    · skip
      refine zX_run (n' := 36) (ls' := [some (.inr (.inr (9, 0))), some (.inl p), some (.inl w), some (.inr (.inr (1, 16 * 0 + p.toNat)))]) (st' := [.inl (-2)]) (σ' := σ) 1 rfl ?_
      exact zX_ret rfl rfl (h1 a1 a3)
    · skip
      refine zX_run (n' := 16) (ls' := [some (.inr (.inr (9, 0))), some (.inl p), some (.inl w), some (.inr (.inr (1, 16 * 0 + p.toNat)))]) (st' := [.inl (σ.1 1 (16 * 0 + p.toNat) 0)]) (σ' := σ) 2 rfl ?_
      exact zX_ret rfl rfl (h2 a1 a3)
    · skip
      refine zX_run (n' := 19) (ls' := [some (.inr (.inr (9, 0))), some (.inl p), some (.inl w), some (.inr (.inr (1, 16 * 0 + p.toNat)))]) (st' := [.inl (σ.1 1 (16 * 0 + p.toNat) 1)]) (σ' := σ) 2 rfl ?_
      exact zX_ret rfl rfl (h3 a1 a3)
    · skip
      refine zX_run (n' := 22) (ls' := [some (.inr (.inr (9, 0))), some (.inl p), some (.inl w), some (.inr (.inr (1, 16 * 0 + p.toNat)))]) (st' := [.inl (σ.1 1 (16 * 0 + p.toNat) 2)]) (σ' := σ) 2 rfl ?_
      exact zX_ret rfl rfl (h4 a1 a3)
    · skip
      refine zX_run (n' := 25) (ls' := [some (.inr (.inr (9, 0))), some (.inl p), some (.inl w), some (.inr (.inr (1, 16 * 0 + p.toNat)))]) (st' := [.inl (σ.1 1 (16 * 0 + p.toNat) 3)]) (σ' := σ) 2 rfl ?_
      exact zX_ret rfl rfl (h5 a1 a3)
    · skip
      refine zX_run (n' := 28) (ls' := [some (.inr (.inr (9, 0))), some (.inl p), some (.inl w), some (.inr (.inr (1, 16 * 0 + p.toNat)))]) (st' := [.inl (σ.1 1 (16 * 0 + p.toNat) 4)]) (σ' := σ) 2 rfl ?_
      exact zX_ret rfl rfl (h6 a1 a3)
    · skip
      refine zX_run (n' := 30) (ls' := [some (.inr (.inr (9, 0))), some (.inl p), some (.inl w), some (.inr (.inr (1, 16 * 0 + p.toNat)))]) (st' := [.inr (.inr (1, 16 * 0 + p.toNat))]) (σ' := σ) 1 rfl ?_
      refine zX_call rfl rfl ?_
      refine zs_28 ?_
      · skip
        exact zX_ret rfl rfl (h7 a1 a3)
    · skip
      refine zX_run (n' := 33) (ls' := [some (.inr (.inr (9, 0))), some (.inl p), some (.inl w), some (.inr (.inr (1, 16 * 0 + p.toNat)))]) (st' := [.inr (.inr (1, 16 * 0 + p.toNat))]) (σ' := σ) 1 rfl ?_
      refine zX_call rfl rfl ?_
      refine zs_29 (o3 a1 a3) ?_
      · skip
        exact zX_ret rfl rfl (h8 a1 a3)
  · skip
    refine zX_run (n' := 5) (ls' := [some (.inr (.inr (9, 0))), some (.inl p), some (.inl w), none]) (st' := [.inl (-2)]) (σ' := σ) 2 rfl ?_
    exact zX_ret rfl rfl (h9 a2)
-- X9_call
theorem zb_80 {d : Nat} {σ : zS} {Q : Option zV → zS → Prop} {p : Int} {m : Int}
    (o1 : 0 ≤ σ.1 8 0 8 ∧ σ.1 8 0 8 ≤ 1000)
    (o2 : 0 ≤ p ∧ p < σ.1 8 0 8 → 0 ≤ m ∧ m ≤ 95 → σ.1 8 0 11 < 16 → (0 : Int) ≤ σ.1 8 0 11 ∧ σ.1 8 0 11 < (16 : Int))
    (h1 : 0 ≤ p ∧ p < σ.1 8 0 8 → 0 ≤ m ∧ m ≤ 95 → σ.1 8 0 11 < 16 → Q (some (.inl (σ.1 8 0 11))) (zU (zU (zU (zU σ 40 0 ((σ.1 8 0 11).toNat) p) 41 0 ((σ.1 8 0 11).toNat) m) 0 0 4 1) 8 0 11 (zW ((σ.1 8 0 11) + 1))))
    (h2 : 0 ≤ p ∧ p < σ.1 8 0 8 → 0 ≤ m ∧ m ≤ 95 → ¬ σ.1 8 0 11 < 16 → Q (some (.inl (-4))) σ)
    (h3 : 0 ≤ p ∧ p < σ.1 8 0 8 → ¬ (0 ≤ m ∧ m ≤ 95) → Q (some (.inl (-2))) σ)
    (h4 : ¬ (0 ≤ p ∧ p < σ.1 8 0 8) → Q (some (.inl (-2))) σ) :
    zM (d + 3) 80 [.inr (.inr (9, 0)), .inl p, .inl m] σ Q := by
  refine zX_run (n' := 2) (ls' := [some (.inr (.inr (9, 0))), some (.inl p), some (.inl m)]) (st' := [.inl p, .inr (.inr (9, 0))]) (σ' := σ) 2 rfl ?_
  refine zX_call rfl rfl ?_
  refine zs_112 o1 (fun a1 => ?_) (fun a2 => ?_)
  · skip
    refine zX_run (n' := 5) (ls' := [some (.inr (.inr (9, 0))), some (.inl p), some (.inl m)]) (st' := [.inl m]) (σ' := σ) 2 rfl ?_
    refine zX_call rfl rfl ?_
    refine zs_106 (fun a3 => ?_) (fun a4 => ?_)
    · skip
      refine zX_run (n' := 13) (ls' := [some (.inr (.inr (9, 0))), some (.inl p), some (.inl m)]) (st' := [.inl 16, .inl (σ.1 8 0 11)]) (σ' := σ) 5 rfl ?_
      refine zX_c2 rfl (fun a5 => ?_) (fun a5 => ?_)
      · skip
        refine zX_run (n' := 23) (ls' := [some (.inr (.inr (9, 0))), some (.inl p), some (.inl m)]) (st' := [.inl p, .inl (σ.1 8 0 11), .inr (.inr (40, 0))]) (σ' := σ) 7 rfl ?_
        refine zX_ast1 (L := 16) rfl (by decide) rfl (o2 a1 a3 a5) ?_
        refine zX_run (n' := 31) (ls' := [some (.inr (.inr (9, 0))), some (.inl p), some (.inl m)]) (st' := [.inl m, .inl (σ.1 8 0 11), .inr (.inr (41, 0))]) (σ' := (zU σ 40 0 ((σ.1 8 0 11).toNat) p)) 7 rfl ?_
        refine zX_ast1 (L := 16) rfl (by decide) rfl (o2 a1 a3 a5) ?_
        refine zX_run (n' := 44) (ls' := [some (.inr (.inr (9, 0))), some (.inl p), some (.inl m)]) (st' := [.inl (σ.1 8 0 11)]) (σ' := (zU (zU (zU (zU σ 40 0 ((σ.1 8 0 11).toNat) p) 41 0 ((σ.1 8 0 11).toNat) m) 0 0 4 1) 8 0 11 (zW ((σ.1 8 0 11) + 1)))) 12 rfl ?_
        exact zX_ret rfl rfl (h1 a1 a3 a5)
      · skip
        refine zX_run (n' := 15) (ls' := [some (.inr (.inr (9, 0))), some (.inl p), some (.inl m)]) (st' := [.inl (-4)]) (σ' := σ) 1 rfl ?_
        exact zX_ret rfl rfl (h2 a1 a3 a5)
    · skip
      refine zX_run (n' := 8) (ls' := [some (.inr (.inr (9, 0))), some (.inl p), some (.inl m)]) (st' := [.inl (-2)]) (σ' := σ) 2 rfl ?_
      exact zX_ret rfl rfl (h3 a1 a4)
  · skip
    refine zX_run (n' := 8) (ls' := [some (.inr (.inr (9, 0))), some (.inl p), some (.inl m)]) (st' := [.inl (-2)]) (σ' := σ) 2 rfl ?_
    exact zX_ret rfl rfl (h4 a2)
-- X9_rule
theorem zb_84 {d : Nat} {σ : zS} {Q : Option zV → zS → Prop} {s : Int} {t : Int}
    (o1 : 0 ≤ s ∧ s ≤ 3 → 0 ≤ σ.1 8 0 13 ∧ σ.1 8 0 13 ≤ 1000)
    (o2 : 0 ≤ s ∧ s ≤ 3 → 0 ≤ t ∧ t < σ.1 8 0 13 → (0 : Int) ≤ s ∧ s < (4 : Int))
    (h1 : 0 ≤ s ∧ s ≤ 3 → 0 ≤ t ∧ t < σ.1 8 0 13 → Q (some (.inl (σ.1 43 0 (s.toNat)))) (zU (zU σ 43 0 (s.toNat) t) 0 0 4 1))
    (h2 : 0 ≤ s ∧ s ≤ 3 → ¬ (0 ≤ t ∧ t < σ.1 8 0 13) → Q (some (.inl (-2))) σ)
    (h3 : ¬ (0 ≤ s ∧ s ≤ 3) → Q (some (.inl (-2))) σ) :
    zM (d + 3) 84 [.inr (.inr (9, 0)), .inl s, .inl t] σ Q := by
  refine zX_run (n' := 1) (ls' := [some (.inr (.inr (9, 0))), some (.inl s), some (.inl t), none]) (st' := [.inl s]) (σ' := σ) 1 rfl ?_
  refine zX_call rfl rfl ?_
  refine zs_108 (fun a1 => ?_) (fun a2 => ?_)
  · skip
    refine zX_run (n' := 5) (ls' := [some (.inr (.inr (9, 0))), some (.inl s), some (.inl t), none]) (st' := [.inl t, .inr (.inr (9, 0))]) (σ' := σ) 3 rfl ?_
    refine zX_call rfl rfl ?_
    refine zs_113 (o1 a1) (fun a3 => ?_) (fun a4 => ?_)
    · skip
      refine zX_run (n' := 13) (ls' := [some (.inr (.inr (9, 0))), some (.inl s), some (.inl t), none]) (st' := [.inl s, .inr (.inr (43, 0))]) (σ' := σ) 5 rfl ?_
      refine zX_ald1 (L := 4) rfl (by decide) rfl (o2 a1 a3) ?_
      refine zX_run (n' := 20) (ls' := [some (.inr (.inr (9, 0))), some (.inl s), some (.inl t), some (.inl (σ.1 43 0 (s.toNat)))]) (st' := [.inl t, .inl s, .inr (.inr (43, 0))]) (σ' := σ) 6 rfl ?_
      refine zX_ast1 (L := 4) rfl (by decide) rfl (o2 a1 a3) ?_
      refine zX_run (n' := 26) (ls' := [some (.inr (.inr (9, 0))), some (.inl s), some (.inl t), some (.inl (σ.1 43 0 (s.toNat)))]) (st' := [.inl (σ.1 43 0 (s.toNat))]) (σ' := (zU (zU σ 43 0 (s.toNat) t) 0 0 4 1)) 5 rfl ?_
      exact zX_ret rfl rfl (h1 a1 a3)
    · skip
      refine zX_run (n' := 8) (ls' := [some (.inr (.inr (9, 0))), some (.inl s), some (.inl t), none]) (st' := [.inl (-2)]) (σ' := σ) 2 rfl ?_
      exact zX_ret rfl rfl (h2 a1 a4)
  · skip
    refine zX_run (n' := 8) (ls' := [some (.inr (.inr (9, 0))), some (.inl s), some (.inl t), none]) (st' := [.inl (-2)]) (σ' := σ) 2 rfl ?_
    exact zX_ret rfl rfl (h3 a2)
-- X9_count
theorem zb_98 {d : Nat} {σ : zS} {Q : Option zV → zS → Prop} {w : Int}
    (o1 : w < 0 ∨ 6 < w → 0 ≤ (zW (w - 7)) ∧ (zW (w - 7)) ≤ 3 → (0 : Int) ≤ zW (w - 7) ∧ zW (w - 7) < (4 : Int))
    (h1 : w < 0 ∨ 6 < w → 0 ≤ (zW (w - 7)) ∧ (zW (w - 7)) ≤ 3 → Q (some (.inl (σ.1 43 0 ((zW (w - 7)).toNat)))) σ)
    (h2 : w < 0 ∨ 6 < w → ¬ (0 ≤ (zW (w - 7)) ∧ (zW (w - 7)) ≤ 3) → Q (some (.inl (-2))) σ)
    (h3 : w = 0 → Q (some (.inl (σ.1 8 0 8))) σ)
    (h4 : w = 1 → Q (some (.inl ((uCnt (cTh σ) 7 : Int)))) σ)
    (h5 : w = 2 → Q (some (.inl (σ.1 8 0 3))) σ)
    (h6 : w = 3 → Q (some (.inl (σ.1 8 0 5))) σ)
    (h7 : w = 4 → Q (some (.inl (σ.1 8 0 11))) σ)
    (h8 : w = 5 → Q (some (.inl (σ.1 8 0 13))) σ)
    (h9 : w = 6 → Q (some (.inl (σ.1 5 0 1))) σ) :
    zM (d + 3) 98 [.inr (.inr (9, 0)), .inl w] σ Q := by
  refine zX_run (n' := 1) (ls' := [some (.inr (.inr (9, 0))), some (.inl w)]) (st' := [.inl w]) (σ' := σ) 1 rfl ?_
  refine zX_sw rfl (fun a1 => ?_) ⟨fun a1 => ?_, fun a1 => ?_, fun a1 => ?_, fun a1 => ?_, fun a1 => ?_, fun a1 => ?_, fun a1 => ?_, trivial⟩
  · skip
    refine zX_run (n' := 33) (ls' := [some (.inr (.inr (9, 0))), some (.inl w)]) (st' := [.inl (zW (w - 7))]) (σ' := σ) 3 rfl ?_
    refine zX_call rfl rfl ?_
    refine zs_108 (fun a2 => ?_) (fun a3 => ?_)
    · skip
      refine zX_run (n' := 41) (ls' := [some (.inr (.inr (9, 0))), some (.inl w)]) (st' := [.inl (zW (w - 7)), .inr (.inr (43, 0))]) (σ' := σ) 7 rfl ?_
      refine zX_ald1 (L := 4) rfl (by decide) rfl (o1 a1 a2) ?_
      refine zX_run (n' := 44) (ls' := [some (.inr (.inr (9, 0))), some (.inl w)]) (st' := [.inl (σ.1 43 0 ((zW (w - 7)).toNat))]) (σ' := σ) 1 rfl ?_
      exact zX_ret rfl rfl (h1 a1 a2)
    · skip
      refine zX_run (n' := 44) (ls' := [some (.inr (.inr (9, 0))), some (.inl w)]) (st' := [.inl (-2)]) (σ' := σ) 2 rfl ?_
      exact zX_ret rfl rfl (h2 a1 a3)
  · skip
    refine zX_run (n' := 5) (ls' := [some (.inr (.inr (9, 0))), some (.inl w)]) (st' := [.inl (σ.1 8 0 8)]) (σ' := σ) 3 rfl ?_
    exact zX_ret rfl rfl (h3 a1)
  · skip
    refine zX_run (n' := 8) (ls' := [some (.inr (.inr (9, 0))), some (.inl w)]) (st' := [.inr (.inr (8, 0))]) (σ' := σ) 2 rfl ?_
    refine zX_call rfl rfl ?_
    refine zs_62 ?_
    · skip
      exact zX_ret rfl rfl (h4 a1)
  · skip
    refine zX_run (n' := 13) (ls' := [some (.inr (.inr (9, 0))), some (.inl w)]) (st' := [.inl (σ.1 8 0 3)]) (σ' := σ) 3 rfl ?_
    exact zX_ret rfl rfl (h5 a1)
  · skip
    refine zX_run (n' := 17) (ls' := [some (.inr (.inr (9, 0))), some (.inl w)]) (st' := [.inl (σ.1 8 0 5)]) (σ' := σ) 3 rfl ?_
    exact zX_ret rfl rfl (h6 a1)
  · skip
    refine zX_run (n' := 21) (ls' := [some (.inr (.inr (9, 0))), some (.inl w)]) (st' := [.inl (σ.1 8 0 11)]) (σ' := σ) 3 rfl ?_
    exact zX_ret rfl rfl (h7 a1)
  · skip
    refine zX_run (n' := 25) (ls' := [some (.inr (.inr (9, 0))), some (.inl w)]) (st' := [.inl (σ.1 8 0 13)]) (σ' := σ) 3 rfl ?_
    exact zX_ret rfl rfl (h8 a1)
  · skip
    refine zX_run (n' := 29) (ls' := [some (.inr (.inr (9, 0))), some (.inl w)]) (st' := [.inl (σ.1 5 0 1)]) (σ' := σ) 3 rfl ?_
    exact zX_ret rfl rfl (h9 a1)
-- X10_side
theorem zb_122 {d : Nat} {σ : zS} {Q : Option zV → zS → Prop} {r : Int} {m : Int} {n : Int}
    (o1 : 0 ≤ r ∧ r < 7 → ¬ m < 0 → ¬ 11 < m → ¬ n < 0 → n ≤ 9999 → (0 : Int) ≤ zW ((zW (12 * r)) + m) ∧ zW ((zW (12 * r)) + m) < (84 : Int))
    (h1 : 0 ≤ r ∧ r < 7 → m < 0 → Q (some (.inl (-2))) σ)
    (h2 : 0 ≤ r ∧ r < 7 → ¬ m < 0 → 11 < m → Q (some (.inl (-2))) σ)
    (h3 : 0 ≤ r ∧ r < 7 → ¬ m < 0 → ¬ 11 < m → n < 0 → Q (some (.inl (-2))) σ)
    (h4 : 0 ≤ r ∧ r < 7 → ¬ m < 0 → ¬ 11 < m → ¬ n < 0 → n ≤ 9999 → Q (some (.inl (σ.1 47 0 ((zW ((zW (12 * r)) + m)).toNat)))) (zU σ 47 0 ((zW ((zW (12 * r)) + m)).toNat) n))
    (h5 : 0 ≤ r ∧ r < 7 → ¬ m < 0 → ¬ 11 < m → ¬ n < 0 → ¬ n ≤ 9999 → Q (some (.inl (-2))) σ)
    (h6 : ¬ (0 ≤ r ∧ r < 7) → Q (some (.inl (-2))) σ) :
    zM (d + 3) 122 [.inr (.inr (10, 0)), .inl r, .inl m, .inl n] σ Q := by
  refine zX_run (n' := 1) (ls' := [some (.inr (.inr (10, 0))), some (.inl r), some (.inl m), some (.inl n), none]) (st' := [.inl r]) (σ' := σ) 1 rfl ?_
  refine zX_call rfl rfl ?_
  refine zs_119 (fun a1 => ?_) (fun a2 => ?_)
  · skip
    refine zX_run (n' := 4) (ls' := [some (.inr (.inr (10, 0))), some (.inl r), some (.inl m), some (.inl n), none]) (st' := [.inl m]) (σ' := σ) 2 rfl ?_
    refine zX_i2 rfl (fun a3 => ?_) (fun a3 => ?_)
    · skip
      refine zX_run (n' := 14) (ls' := [some (.inr (.inr (10, 0))), some (.inl r), some (.inl m), some (.inl n), none]) (st' := [.inl (-2)]) (σ' := σ) 1 rfl ?_
      exact zX_ret rfl rfl (h1 a1 a3)
    · skip
      refine zX_run (n' := 7) (ls' := [some (.inr (.inr (10, 0))), some (.inl r), some (.inl m), some (.inl n), none]) (st' := [.inl 11, .inl m]) (σ' := σ) 2 rfl ?_
      refine zX_c4 rfl (fun a4 => ?_) (fun a4 => ?_)
      · skip
        refine zX_run (n' := 14) (ls' := [some (.inr (.inr (10, 0))), some (.inl r), some (.inl m), some (.inl n), none]) (st' := [.inl (-2)]) (σ' := σ) 1 rfl ?_
        exact zX_ret rfl rfl (h2 a1 a3 a4)
      · skip
        refine zX_run (n' := 9) (ls' := [some (.inr (.inr (10, 0))), some (.inl r), some (.inl m), some (.inl n), none]) (st' := [.inl n]) (σ' := σ) 1 rfl ?_
        refine zX_i2 rfl (fun a5 => ?_) (fun a5 => ?_)
        · skip
          refine zX_run (n' := 14) (ls' := [some (.inr (.inr (10, 0))), some (.inl r), some (.inl m), some (.inl n), none]) (st' := [.inl (-2)]) (σ' := σ) 1 rfl ?_
          exact zX_ret rfl rfl (h3 a1 a3 a4 a5)
        · skip
          refine zX_run (n' := 12) (ls' := [some (.inr (.inr (10, 0))), some (.inl r), some (.inl m), some (.inl n), none]) (st' := [.inl 9999, .inl n]) (σ' := σ) 2 rfl ?_
          refine zX_c5 rfl (fun a6 => ?_) (fun a6 => ?_)
          · skip
            refine zX_run (n' := 22) (ls' := [some (.inr (.inr (10, 0))), some (.inl r), some (.inl m), some (.inl n), none]) (st' := [.inl (zW ((zW (12 * r)) + m)), .inr (.inr (47, 0))]) (σ' := σ) 7 rfl ?_
            refine zX_ald1 (L := 84) rfl (by decide) rfl (o1 a1 a3 a4 a5 a6) ?_
            refine zX_run (n' := 32) (ls' := [some (.inr (.inr (10, 0))), some (.inl r), some (.inl m), some (.inl n), some (.inl (σ.1 47 0 ((zW ((zW (12 * r)) + m)).toNat)))]) (st' := [.inl n, .inl (zW ((zW (12 * r)) + m)), .inr (.inr (47, 0))]) (σ' := σ) 9 rfl ?_
            refine zX_ast1 (L := 84) rfl (by decide) rfl (o1 a1 a3 a4 a5 a6) ?_
            refine zX_run (n' := 34) (ls' := [some (.inr (.inr (10, 0))), some (.inl r), some (.inl m), some (.inl n), some (.inl (σ.1 47 0 ((zW ((zW (12 * r)) + m)).toNat)))]) (st' := [.inl (σ.1 47 0 ((zW ((zW (12 * r)) + m)).toNat))]) (σ' := (zU σ 47 0 ((zW ((zW (12 * r)) + m)).toNat) n)) 1 rfl ?_
            exact zX_ret rfl rfl (h4 a1 a3 a4 a5 a6)
          · skip
            refine zX_run (n' := 14) (ls' := [some (.inr (.inr (10, 0))), some (.inl r), some (.inl m), some (.inl n), none]) (st' := [.inl (-2)]) (σ' := σ) 1 rfl ?_
            exact zX_ret rfl rfl (h5 a1 a3 a4 a5 a6)
  · skip
    refine zX_run (n' := 14) (ls' := [some (.inr (.inr (10, 0))), some (.inl r), some (.inl m), some (.inl n), none]) (st' := [.inl (-2)]) (σ' := σ) 2 rfl ?_
    exact zX_ret rfl rfl (h6 a2)
-- X10_salt
theorem zb_123 {d : Nat} {σ : zS} {Q : Option zV → zS → Prop} {r : Int} {n : Int}
    (o1 : 0 ≤ r ∧ r < 7 → ¬ n < 0 → n ≤ 99 → (0 : Int) ≤ r ∧ r < (7 : Int))
    (h1 : 0 ≤ r ∧ r < 7 → n < 0 → Q (some (.inl (-2))) σ)
    (h2 : 0 ≤ r ∧ r < 7 → ¬ n < 0 → n ≤ 99 → Q (some (.inl (σ.1 48 0 (r.toNat)))) (zU σ 48 0 (r.toNat) n))
    (h3 : 0 ≤ r ∧ r < 7 → ¬ n < 0 → ¬ n ≤ 99 → Q (some (.inl (-2))) σ)
    (h4 : ¬ (0 ≤ r ∧ r < 7) → Q (some (.inl (-2))) σ) :
    zM (d + 3) 123 [.inr (.inr (10, 0)), .inl r, .inl n] σ Q := by
  refine zX_run (n' := 1) (ls' := [some (.inr (.inr (10, 0))), some (.inl r), some (.inl n), none]) (st' := [.inl r]) (σ' := σ) 1 rfl ?_
  refine zX_call rfl rfl ?_
  refine zs_119 (fun a1 => ?_) (fun a2 => ?_)
  · skip
    refine zX_run (n' := 4) (ls' := [some (.inr (.inr (10, 0))), some (.inl r), some (.inl n), none]) (st' := [.inl n]) (σ' := σ) 2 rfl ?_
    refine zX_i2 rfl (fun a3 => ?_) (fun a3 => ?_)
    · skip
      refine zX_run (n' := 9) (ls' := [some (.inr (.inr (10, 0))), some (.inl r), some (.inl n), none]) (st' := [.inl (-2)]) (σ' := σ) 1 rfl ?_
      exact zX_ret rfl rfl (h1 a1 a3)
    · skip
      refine zX_run (n' := 7) (ls' := [some (.inr (.inr (10, 0))), some (.inl r), some (.inl n), none]) (st' := [.inl 99, .inl n]) (σ' := σ) 2 rfl ?_
      refine zX_c5 rfl (fun a4 => ?_) (fun a4 => ?_)
      · skip
        refine zX_run (n' := 13) (ls' := [some (.inr (.inr (10, 0))), some (.inl r), some (.inl n), none]) (st' := [.inl r, .inr (.inr (48, 0))]) (σ' := σ) 3 rfl ?_
        refine zX_ald1 (L := 7) rfl (by decide) rfl (o1 a1 a3 a4) ?_
        refine zX_run (n' := 19) (ls' := [some (.inr (.inr (10, 0))), some (.inl r), some (.inl n), some (.inl (σ.1 48 0 (r.toNat)))]) (st' := [.inl n, .inl r, .inr (.inr (48, 0))]) (σ' := σ) 5 rfl ?_
        refine zX_ast1 (L := 7) rfl (by decide) rfl (o1 a1 a3 a4) ?_
        refine zX_run (n' := 21) (ls' := [some (.inr (.inr (10, 0))), some (.inl r), some (.inl n), some (.inl (σ.1 48 0 (r.toNat)))]) (st' := [.inl (σ.1 48 0 (r.toNat))]) (σ' := (zU σ 48 0 (r.toNat) n)) 1 rfl ?_
        exact zX_ret rfl rfl (h2 a1 a3 a4)
      · skip
        refine zX_run (n' := 9) (ls' := [some (.inr (.inr (10, 0))), some (.inl r), some (.inl n), none]) (st' := [.inl (-2)]) (σ' := σ) 1 rfl ?_
        exact zX_ret rfl rfl (h3 a1 a3 a4)
  · skip
    refine zX_run (n' := 9) (ls' := [some (.inr (.inr (10, 0))), some (.inl r), some (.inl n), none]) (st' := [.inl (-2)]) (σ' := σ) 2 rfl ?_
    exact zX_ret rfl rfl (h4 a2)
-- X10_flood
theorem zb_124 {d : Nat} {σ : zS} {Q : Option zV → zS → Prop} {r : Int} {m : Int} {n : Int}
    (o1 : 0 ≤ r ∧ r < 7 → 0 ≤ m ∧ m < 96 → ¬ n < (-9999) → n ≤ 9999 → ¬ σ.1 10 0 2 = 24 → (0 : Int) ≤ σ.1 10 0 2 ∧ σ.1 10 0 2 < (24 : Int))
    (h1 : 0 ≤ r ∧ r < 7 → 0 ≤ m ∧ m < 96 → n < (-9999) → Q (some (.inl (-2))) σ)
    (h2 : 0 ≤ r ∧ r < 7 → 0 ≤ m ∧ m < 96 → ¬ n < (-9999) → n ≤ 9999 → ¬ σ.1 10 0 2 = 24 → Q (some (.inl (σ.1 10 0 2))) (zU (zU (zU (zU σ 49 0 ((σ.1 10 0 2).toNat) r) 50 0 ((σ.1 10 0 2).toNat) m) 51 0 ((σ.1 10 0 2).toNat) n) 10 0 2 (zW ((σ.1 10 0 2) + 1))))
    (h3 : 0 ≤ r ∧ r < 7 → 0 ≤ m ∧ m < 96 → ¬ n < (-9999) → n ≤ 9999 → σ.1 10 0 2 = 24 → Q (some (.inl (-4))) σ)
    (h4 : 0 ≤ r ∧ r < 7 → 0 ≤ m ∧ m < 96 → ¬ n < (-9999) → ¬ n ≤ 9999 → Q (some (.inl (-2))) σ)
    (h5 : 0 ≤ r ∧ r < 7 → ¬ (0 ≤ m ∧ m < 96) → Q (some (.inl (-2))) σ)
    (h6 : ¬ (0 ≤ r ∧ r < 7) → Q (some (.inl (-2))) σ) :
    zM (d + 3) 124 [.inr (.inr (10, 0)), .inl r, .inl m, .inl n] σ Q := by
  refine zX_run (n' := 1) (ls' := [some (.inr (.inr (10, 0))), some (.inl r), some (.inl m), some (.inl n)]) (st' := [.inl r]) (σ' := σ) 1 rfl ?_
  refine zX_call rfl rfl ?_
  refine zs_119 (fun a1 => ?_) (fun a2 => ?_)
  · skip
    refine zX_run (n' := 4) (ls' := [some (.inr (.inr (10, 0))), some (.inl r), some (.inl m), some (.inl n)]) (st' := [.inl m]) (σ' := σ) 2 rfl ?_
    refine zX_call rfl rfl ?_
    refine zs_120 (fun a3 => ?_) (fun a4 => ?_)
    · skip
      refine zX_run (n' := 8) (ls' := [some (.inr (.inr (10, 0))), some (.inl r), some (.inl m), some (.inl n)]) (st' := [.inl (-9999), .inl n]) (σ' := σ) 3 rfl ?_
      refine zX_c2 rfl (fun a5 => ?_) (fun a5 => ?_)
      · skip
        refine zX_run (n' := 13) (ls' := [some (.inr (.inr (10, 0))), some (.inl r), some (.inl m), some (.inl n)]) (st' := [.inl (-2)]) (σ' := σ) 1 rfl ?_
        exact zX_ret rfl rfl (h1 a1 a3 a5)
      · skip
        refine zX_run (n' := 11) (ls' := [some (.inr (.inr (10, 0))), some (.inl r), some (.inl m), some (.inl n)]) (st' := [.inl 9999, .inl n]) (σ' := σ) 2 rfl ?_
        refine zX_c5 rfl (fun a6 => ?_) (fun a6 => ?_)
        · skip
          refine zX_run (n' := 17) (ls' := [some (.inr (.inr (10, 0))), some (.inl r), some (.inl m), some (.inl n)]) (st' := [.inl 24, .inl (σ.1 10 0 2)]) (σ' := σ) 3 rfl ?_
          refine zX_c1 rfl (fun a7 => ?_) (fun a7 => ?_)
          · skip
            refine zX_run (n' := 25) (ls' := [some (.inr (.inr (10, 0))), some (.inl r), some (.inl m), some (.inl n)]) (st' := [.inl r, .inl (σ.1 10 0 2), .inr (.inr (49, 0))]) (σ' := σ) 5 rfl ?_
            refine zX_ast1 (L := 24) rfl (by decide) rfl (o1 a1 a3 a5 a6 a7) ?_
            refine zX_run (n' := 31) (ls' := [some (.inr (.inr (10, 0))), some (.inl r), some (.inl m), some (.inl n)]) (st' := [.inl m, .inl (σ.1 10 0 2), .inr (.inr (50, 0))]) (σ' := (zU σ 49 0 ((σ.1 10 0 2).toNat) r)) 5 rfl ?_
            refine zX_ast1 (L := 24) rfl (by decide) rfl (o1 a1 a3 a5 a6 a7) ?_
            refine zX_run (n' := 37) (ls' := [some (.inr (.inr (10, 0))), some (.inl r), some (.inl m), some (.inl n)]) (st' := [.inl n, .inl (σ.1 10 0 2), .inr (.inr (51, 0))]) (σ' := (zU (zU σ 49 0 ((σ.1 10 0 2).toNat) r) 50 0 ((σ.1 10 0 2).toNat) m)) 5 rfl ?_
            refine zX_ast1 (L := 24) rfl (by decide) rfl (o1 a1 a3 a5 a6 a7) ?_
            refine zX_run (n' := 45) (ls' := [some (.inr (.inr (10, 0))), some (.inl r), some (.inl m), some (.inl n)]) (st' := [.inl (σ.1 10 0 2)]) (σ' := (zU (zU (zU (zU σ 49 0 ((σ.1 10 0 2).toNat) r) 50 0 ((σ.1 10 0 2).toNat) m) 51 0 ((σ.1 10 0 2).toNat) n) 10 0 2 (zW ((σ.1 10 0 2) + 1)))) 7 rfl ?_
            exact zX_ret rfl rfl (h2 a1 a3 a5 a6 a7)
          · skip
            refine zX_run (n' := 19) (ls' := [some (.inr (.inr (10, 0))), some (.inl r), some (.inl m), some (.inl n)]) (st' := [.inl (-4)]) (σ' := σ) 1 rfl ?_
            exact zX_ret rfl rfl (h3 a1 a3 a5 a6 a7)
        · skip
          refine zX_run (n' := 13) (ls' := [some (.inr (.inr (10, 0))), some (.inl r), some (.inl m), some (.inl n)]) (st' := [.inl (-2)]) (σ' := σ) 1 rfl ?_
          exact zX_ret rfl rfl (h4 a1 a3 a5 a6)
    · skip
      refine zX_run (n' := 13) (ls' := [some (.inr (.inr (10, 0))), some (.inl r), some (.inl m), some (.inl n)]) (st' := [.inl (-2)]) (σ' := σ) 2 rfl ?_
      exact zX_ret rfl rfl (h5 a1 a4)
  · skip
    refine zX_run (n' := 13) (ls' := [some (.inr (.inr (10, 0))), some (.inl r), some (.inl m), some (.inl n)]) (st' := [.inl (-2)]) (σ' := σ) 2 rfl ?_
    exact zX_ret rfl rfl (h6 a2)
-- X10_gauge
theorem zb_125 {d : Nat} {σ : zS} {Q : Option zV → zS → Prop} {r : Int} {m : Int} {n : Int}
    (o1 : 0 ≤ r ∧ r < 7 → 0 ≤ m ∧ m < 96 → ¬ n < 0 → n ≤ 99999 → ¬ σ.1 10 0 3 = 40 → (0 : Int) ≤ σ.1 10 0 3 ∧ σ.1 10 0 3 < (40 : Int))
    (h1 : 0 ≤ r ∧ r < 7 → 0 ≤ m ∧ m < 96 → n < 0 → Q (some (.inl (-2))) σ)
    (h2 : 0 ≤ r ∧ r < 7 → 0 ≤ m ∧ m < 96 → ¬ n < 0 → n ≤ 99999 → ¬ σ.1 10 0 3 = 40 → Q (some (.inl (σ.1 10 0 3))) (zU (zU (zU (zU σ 52 0 ((σ.1 10 0 3).toNat) r) 53 0 ((σ.1 10 0 3).toNat) m) 54 0 ((σ.1 10 0 3).toNat) n) 10 0 3 (zW ((σ.1 10 0 3) + 1))))
    (h3 : 0 ≤ r ∧ r < 7 → 0 ≤ m ∧ m < 96 → ¬ n < 0 → n ≤ 99999 → σ.1 10 0 3 = 40 → Q (some (.inl (-4))) σ)
    (h4 : 0 ≤ r ∧ r < 7 → 0 ≤ m ∧ m < 96 → ¬ n < 0 → ¬ n ≤ 99999 → Q (some (.inl (-2))) σ)
    (h5 : 0 ≤ r ∧ r < 7 → ¬ (0 ≤ m ∧ m < 96) → Q (some (.inl (-2))) σ)
    (h6 : ¬ (0 ≤ r ∧ r < 7) → Q (some (.inl (-2))) σ) :
    zM (d + 3) 125 [.inr (.inr (10, 0)), .inl r, .inl m, .inl n] σ Q := by
  refine zX_run (n' := 1) (ls' := [some (.inr (.inr (10, 0))), some (.inl r), some (.inl m), some (.inl n)]) (st' := [.inl r]) (σ' := σ) 1 rfl ?_
  refine zX_call rfl rfl ?_
  refine zs_119 (fun a1 => ?_) (fun a2 => ?_)
  · skip
    refine zX_run (n' := 4) (ls' := [some (.inr (.inr (10, 0))), some (.inl r), some (.inl m), some (.inl n)]) (st' := [.inl m]) (σ' := σ) 2 rfl ?_
    refine zX_call rfl rfl ?_
    refine zs_120 (fun a3 => ?_) (fun a4 => ?_)
    · skip
      refine zX_run (n' := 7) (ls' := [some (.inr (.inr (10, 0))), some (.inl r), some (.inl m), some (.inl n)]) (st' := [.inl n]) (σ' := σ) 2 rfl ?_
      refine zX_i2 rfl (fun a5 => ?_) (fun a5 => ?_)
      · skip
        refine zX_run (n' := 12) (ls' := [some (.inr (.inr (10, 0))), some (.inl r), some (.inl m), some (.inl n)]) (st' := [.inl (-2)]) (σ' := σ) 1 rfl ?_
        exact zX_ret rfl rfl (h1 a1 a3 a5)
      · skip
        refine zX_run (n' := 10) (ls' := [some (.inr (.inr (10, 0))), some (.inl r), some (.inl m), some (.inl n)]) (st' := [.inl 99999, .inl n]) (σ' := σ) 2 rfl ?_
        refine zX_c5 rfl (fun a6 => ?_) (fun a6 => ?_)
        · skip
          refine zX_run (n' := 16) (ls' := [some (.inr (.inr (10, 0))), some (.inl r), some (.inl m), some (.inl n)]) (st' := [.inl 40, .inl (σ.1 10 0 3)]) (σ' := σ) 3 rfl ?_
          refine zX_c1 rfl (fun a7 => ?_) (fun a7 => ?_)
          · skip
            refine zX_run (n' := 24) (ls' := [some (.inr (.inr (10, 0))), some (.inl r), some (.inl m), some (.inl n)]) (st' := [.inl r, .inl (σ.1 10 0 3), .inr (.inr (52, 0))]) (σ' := σ) 5 rfl ?_
            refine zX_ast1 (L := 40) rfl (by decide) rfl (o1 a1 a3 a5 a6 a7) ?_
            refine zX_run (n' := 30) (ls' := [some (.inr (.inr (10, 0))), some (.inl r), some (.inl m), some (.inl n)]) (st' := [.inl m, .inl (σ.1 10 0 3), .inr (.inr (53, 0))]) (σ' := (zU σ 52 0 ((σ.1 10 0 3).toNat) r)) 5 rfl ?_
            refine zX_ast1 (L := 40) rfl (by decide) rfl (o1 a1 a3 a5 a6 a7) ?_
            refine zX_run (n' := 36) (ls' := [some (.inr (.inr (10, 0))), some (.inl r), some (.inl m), some (.inl n)]) (st' := [.inl n, .inl (σ.1 10 0 3), .inr (.inr (54, 0))]) (σ' := (zU (zU σ 52 0 ((σ.1 10 0 3).toNat) r) 53 0 ((σ.1 10 0 3).toNat) m)) 5 rfl ?_
            refine zX_ast1 (L := 40) rfl (by decide) rfl (o1 a1 a3 a5 a6 a7) ?_
            refine zX_run (n' := 44) (ls' := [some (.inr (.inr (10, 0))), some (.inl r), some (.inl m), some (.inl n)]) (st' := [.inl (σ.1 10 0 3)]) (σ' := (zU (zU (zU (zU σ 52 0 ((σ.1 10 0 3).toNat) r) 53 0 ((σ.1 10 0 3).toNat) m) 54 0 ((σ.1 10 0 3).toNat) n) 10 0 3 (zW ((σ.1 10 0 3) + 1)))) 7 rfl ?_
            exact zX_ret rfl rfl (h2 a1 a3 a5 a6 a7)
          · skip
            refine zX_run (n' := 18) (ls' := [some (.inr (.inr (10, 0))), some (.inl r), some (.inl m), some (.inl n)]) (st' := [.inl (-4)]) (σ' := σ) 1 rfl ?_
            exact zX_ret rfl rfl (h3 a1 a3 a5 a6 a7)
        · skip
          refine zX_run (n' := 12) (ls' := [some (.inr (.inr (10, 0))), some (.inl r), some (.inl m), some (.inl n)]) (st' := [.inl (-2)]) (σ' := σ) 1 rfl ?_
          exact zX_ret rfl rfl (h4 a1 a3 a5 a6)
    · skip
      refine zX_run (n' := 12) (ls' := [some (.inr (.inr (10, 0))), some (.inl r), some (.inl m), some (.inl n)]) (st' := [.inl (-2)]) (σ' := σ) 2 rfl ?_
      exact zX_ret rfl rfl (h5 a1 a4)
  · skip
    refine zX_run (n' := 12) (ls' := [some (.inr (.inr (10, 0))), some (.inl r), some (.inl m), some (.inl n)]) (st' := [.inl (-2)]) (σ' := σ) 2 rfl ?_
    exact zX_ret rfl rfl (h6 a2)
-- X10_lake
theorem zb_128 {d : Nat} {σ : zS} {Q : Option zV → zS → Prop} {r : Int} {o : Int} {l : Int} {s : Int} {e : Int}
    (o1 : 0 ≤ r ∧ r < 7 → ¬ o < 0 → ¬ 99999 < o → ¬ l < 0 → ¬ o < l → ¬ s < 0 → ¬ 99 < s → ¬ e < 0 → e ≤ 9999 → (0 : Int) ≤ r ∧ r < (7 : Int))
    (h1 : 0 ≤ r ∧ r < 7 → o < 0 → Q (some (.inl (-2))) σ)
    (h2 : 0 ≤ r ∧ r < 7 → ¬ o < 0 → 99999 < o → Q (some (.inl (-2))) σ)
    (h3 : 0 ≤ r ∧ r < 7 → ¬ o < 0 → ¬ 99999 < o → l < 0 → Q (some (.inl (-2))) σ)
    (h4 : 0 ≤ r ∧ r < 7 → ¬ o < 0 → ¬ 99999 < o → ¬ l < 0 → o < l → Q (some (.inl (-2))) σ)
    (h5 : 0 ≤ r ∧ r < 7 → ¬ o < 0 → ¬ 99999 < o → ¬ l < 0 → ¬ o < l → s < 0 → Q (some (.inl (-2))) σ)
    (h6 : 0 ≤ r ∧ r < 7 → ¬ o < 0 → ¬ 99999 < o → ¬ l < 0 → ¬ o < l → ¬ s < 0 → 99 < s → Q (some (.inl (-2))) σ)
    (h7 : 0 ≤ r ∧ r < 7 → ¬ o < 0 → ¬ 99999 < o → ¬ l < 0 → ¬ o < l → ¬ s < 0 → ¬ 99 < s → e < 0 → Q (some (.inl (-2))) σ)
    (h8 : 0 ≤ r ∧ r < 7 → ¬ o < 0 → ¬ 99999 < o → ¬ l < 0 → ¬ o < l → ¬ s < 0 → ¬ 99 < s → ¬ e < 0 → e ≤ 9999 → σ.1 55 0 (r.toNat) = 0 → Q (some (.inl 1)) (zU (zU (zU (zU (zU σ 55 0 (r.toNat) 1) 56 0 (r.toNat) o) 57 0 (r.toNat) l) 58 0 (r.toNat) s) 59 0 (r.toNat) e))
    (h9 : 0 ≤ r ∧ r < 7 → ¬ o < 0 → ¬ 99999 < o → ¬ l < 0 → ¬ o < l → ¬ s < 0 → ¬ 99 < s → ¬ e < 0 → e ≤ 9999 → ¬ σ.1 55 0 (r.toNat) = 0 → Q (some (.inl 0)) (zU (zU (zU (zU (zU σ 55 0 (r.toNat) 1) 56 0 (r.toNat) o) 57 0 (r.toNat) l) 58 0 (r.toNat) s) 59 0 (r.toNat) e))
    (h10 : 0 ≤ r ∧ r < 7 → ¬ o < 0 → ¬ 99999 < o → ¬ l < 0 → ¬ o < l → ¬ s < 0 → ¬ 99 < s → ¬ e < 0 → ¬ e ≤ 9999 → Q (some (.inl (-2))) σ)
    (h11 : ¬ (0 ≤ r ∧ r < 7) → Q (some (.inl (-2))) σ) :
    zM (d + 3) 128 [.inr (.inr (10, 0)), .inl r, .inl o, .inl l, .inl s, .inl e] σ Q := by
  refine zX_run (n' := 1) (ls' := [some (.inr (.inr (10, 0))), some (.inl r), some (.inl o), some (.inl l), some (.inl s), some (.inl e), none]) (st' := [.inl r]) (σ' := σ) 1 rfl ?_
  refine zX_call rfl rfl ?_
  refine zs_119 (fun a1 => ?_) (fun a2 => ?_)
  · skip
    refine zX_run (n' := 4) (ls' := [some (.inr (.inr (10, 0))), some (.inl r), some (.inl o), some (.inl l), some (.inl s), some (.inl e), none]) (st' := [.inl o]) (σ' := σ) 2 rfl ?_
    refine zX_i2 rfl (fun a3 => ?_) (fun a3 => ?_)
    · skip
      refine zX_run (n' := 24) (ls' := [some (.inr (.inr (10, 0))), some (.inl r), some (.inl o), some (.inl l), some (.inl s), some (.inl e), none]) (st' := [.inl (-2)]) (σ' := σ) 1 rfl ?_
      exact zX_ret rfl rfl (h1 a1 a3)
    · skip
      refine zX_run (n' := 7) (ls' := [some (.inr (.inr (10, 0))), some (.inl r), some (.inl o), some (.inl l), some (.inl s), some (.inl e), none]) (st' := [.inl 99999, .inl o]) (σ' := σ) 2 rfl ?_
      refine zX_c4 rfl (fun a4 => ?_) (fun a4 => ?_)
      · skip
        refine zX_run (n' := 24) (ls' := [some (.inr (.inr (10, 0))), some (.inl r), some (.inl o), some (.inl l), some (.inl s), some (.inl e), none]) (st' := [.inl (-2)]) (σ' := σ) 1 rfl ?_
        exact zX_ret rfl rfl (h2 a1 a3 a4)
      · skip
        refine zX_run (n' := 9) (ls' := [some (.inr (.inr (10, 0))), some (.inl r), some (.inl o), some (.inl l), some (.inl s), some (.inl e), none]) (st' := [.inl l]) (σ' := σ) 1 rfl ?_
        refine zX_i2 rfl (fun a5 => ?_) (fun a5 => ?_)
        · skip
          refine zX_run (n' := 24) (ls' := [some (.inr (.inr (10, 0))), some (.inl r), some (.inl o), some (.inl l), some (.inl s), some (.inl e), none]) (st' := [.inl (-2)]) (σ' := σ) 1 rfl ?_
          exact zX_ret rfl rfl (h3 a1 a3 a4 a5)
        · skip
          refine zX_run (n' := 12) (ls' := [some (.inr (.inr (10, 0))), some (.inl r), some (.inl o), some (.inl l), some (.inl s), some (.inl e), none]) (st' := [.inl o, .inl l]) (σ' := σ) 2 rfl ?_
          refine zX_c4 rfl (fun a6 => ?_) (fun a6 => ?_)
          · skip
            refine zX_run (n' := 24) (ls' := [some (.inr (.inr (10, 0))), some (.inl r), some (.inl o), some (.inl l), some (.inl s), some (.inl e), none]) (st' := [.inl (-2)]) (σ' := σ) 1 rfl ?_
            exact zX_ret rfl rfl (h4 a1 a3 a4 a5 a6)
          · skip
            refine zX_run (n' := 14) (ls' := [some (.inr (.inr (10, 0))), some (.inl r), some (.inl o), some (.inl l), some (.inl s), some (.inl e), none]) (st' := [.inl s]) (σ' := σ) 1 rfl ?_
            refine zX_i2 rfl (fun a7 => ?_) (fun a7 => ?_)
            · skip
              refine zX_run (n' := 24) (ls' := [some (.inr (.inr (10, 0))), some (.inl r), some (.inl o), some (.inl l), some (.inl s), some (.inl e), none]) (st' := [.inl (-2)]) (σ' := σ) 1 rfl ?_
              exact zX_ret rfl rfl (h5 a1 a3 a4 a5 a6 a7)
            · skip
              refine zX_run (n' := 17) (ls' := [some (.inr (.inr (10, 0))), some (.inl r), some (.inl o), some (.inl l), some (.inl s), some (.inl e), none]) (st' := [.inl 99, .inl s]) (σ' := σ) 2 rfl ?_
              refine zX_c4 rfl (fun a8 => ?_) (fun a8 => ?_)
              · skip
                refine zX_run (n' := 24) (ls' := [some (.inr (.inr (10, 0))), some (.inl r), some (.inl o), some (.inl l), some (.inl s), some (.inl e), none]) (st' := [.inl (-2)]) (σ' := σ) 1 rfl ?_
                exact zX_ret rfl rfl (h6 a1 a3 a4 a5 a6 a7 a8)
              · skip
                refine zX_run (n' := 19) (ls' := [some (.inr (.inr (10, 0))), some (.inl r), some (.inl o), some (.inl l), some (.inl s), some (.inl e), none]) (st' := [.inl e]) (σ' := σ) 1 rfl ?_
                refine zX_i2 rfl (fun a9 => ?_) (fun a9 => ?_)
                · skip
                  refine zX_run (n' := 24) (ls' := [some (.inr (.inr (10, 0))), some (.inl r), some (.inl o), some (.inl l), some (.inl s), some (.inl e), none]) (st' := [.inl (-2)]) (σ' := σ) 1 rfl ?_
                  exact zX_ret rfl rfl (h7 a1 a3 a4 a5 a6 a7 a8 a9)
                · skip
                  refine zX_run (n' := 22) (ls' := [some (.inr (.inr (10, 0))), some (.inl r), some (.inl o), some (.inl l), some (.inl s), some (.inl e), none]) (st' := [.inl 9999, .inl e]) (σ' := σ) 2 rfl ?_
                  refine zX_c5 rfl (fun a10 => ?_) (fun a10 => ?_)
                  · skip
                    refine zX_run (n' := 28) (ls' := [some (.inr (.inr (10, 0))), some (.inl r), some (.inl o), some (.inl l), some (.inl s), some (.inl e), none]) (st' := [.inl r, .inr (.inr (55, 0))]) (σ' := σ) 3 rfl ?_
                    refine zX_ald4 (L := 7) rfl (by decide) rfl (o1 a1 a3 a4 a5 a6 a7 a8 a9 a10) ?_
                    refine zX_i0 rfl (fun a11 => ?_) (fun a11 => ?_)
                    · skip
                      refine zX_run (n' := 38) (ls' := [some (.inr (.inr (10, 0))), some (.inl r), some (.inl o), some (.inl l), some (.inl s), some (.inl e), some (.inl 1)]) (st' := [.inl 1, .inl r, .inr (.inr (55, 0))]) (σ' := σ) 6 rfl ?_
                      refine zX_ast4 (L := 7) rfl (by decide) rfl (o1 a1 a3 a4 a5 a6 a7 a8 a9 a10) (by decide) ?_
                      refine zX_run (n' := 43) (ls' := [some (.inr (.inr (10, 0))), some (.inl r), some (.inl o), some (.inl l), some (.inl s), some (.inl e), some (.inl 1)]) (st' := [.inl o, .inl r, .inr (.inr (56, 0))]) (σ' := (zU σ 55 0 (r.toNat) 1)) 4 rfl ?_
                      refine zX_ast1 (L := 7) rfl (by decide) rfl (o1 a1 a3 a4 a5 a6 a7 a8 a9 a10) ?_
                      refine zX_run (n' := 48) (ls' := [some (.inr (.inr (10, 0))), some (.inl r), some (.inl o), some (.inl l), some (.inl s), some (.inl e), some (.inl 1)]) (st' := [.inl l, .inl r, .inr (.inr (57, 0))]) (σ' := (zU (zU σ 55 0 (r.toNat) 1) 56 0 (r.toNat) o)) 4 rfl ?_
                      refine zX_ast1 (L := 7) rfl (by decide) rfl (o1 a1 a3 a4 a5 a6 a7 a8 a9 a10) ?_
                      refine zX_run (n' := 53) (ls' := [some (.inr (.inr (10, 0))), some (.inl r), some (.inl o), some (.inl l), some (.inl s), some (.inl e), some (.inl 1)]) (st' := [.inl s, .inl r, .inr (.inr (58, 0))]) (σ' := (zU (zU (zU σ 55 0 (r.toNat) 1) 56 0 (r.toNat) o) 57 0 (r.toNat) l)) 4 rfl ?_
                      refine zX_ast1 (L := 7) rfl (by decide) rfl (o1 a1 a3 a4 a5 a6 a7 a8 a9 a10) ?_
                      refine zX_run (n' := 58) (ls' := [some (.inr (.inr (10, 0))), some (.inl r), some (.inl o), some (.inl l), some (.inl s), some (.inl e), some (.inl 1)]) (st' := [.inl e, .inl r, .inr (.inr (59, 0))]) (σ' := (zU (zU (zU (zU σ 55 0 (r.toNat) 1) 56 0 (r.toNat) o) 57 0 (r.toNat) l) 58 0 (r.toNat) s)) 4 rfl ?_
                      refine zX_ast1 (L := 7) rfl (by decide) rfl (o1 a1 a3 a4 a5 a6 a7 a8 a9 a10) ?_
                      refine zX_run (n' := 60) (ls' := [some (.inr (.inr (10, 0))), some (.inl r), some (.inl o), some (.inl l), some (.inl s), some (.inl e), some (.inl 1)]) (st' := [.inl 1]) (σ' := (zU (zU (zU (zU (zU σ 55 0 (r.toNat) 1) 56 0 (r.toNat) o) 57 0 (r.toNat) l) 58 0 (r.toNat) s) 59 0 (r.toNat) e)) 1 rfl ?_
                      exact zX_ret rfl rfl (h8 a1 a3 a4 a5 a6 a7 a8 a9 a10 a11)
                    · skip
                      refine zX_run (n' := 38) (ls' := [some (.inr (.inr (10, 0))), some (.inl r), some (.inl o), some (.inl l), some (.inl s), some (.inl e), some (.inl 0)]) (st' := [.inl 1, .inl r, .inr (.inr (55, 0))]) (σ' := σ) 7 rfl ?_
                      refine zX_ast4 (L := 7) rfl (by decide) rfl (o1 a1 a3 a4 a5 a6 a7 a8 a9 a10) (by decide) ?_
                      refine zX_run (n' := 43) (ls' := [some (.inr (.inr (10, 0))), some (.inl r), some (.inl o), some (.inl l), some (.inl s), some (.inl e), some (.inl 0)]) (st' := [.inl o, .inl r, .inr (.inr (56, 0))]) (σ' := (zU σ 55 0 (r.toNat) 1)) 4 rfl ?_
                      refine zX_ast1 (L := 7) rfl (by decide) rfl (o1 a1 a3 a4 a5 a6 a7 a8 a9 a10) ?_
                      refine zX_run (n' := 48) (ls' := [some (.inr (.inr (10, 0))), some (.inl r), some (.inl o), some (.inl l), some (.inl s), some (.inl e), some (.inl 0)]) (st' := [.inl l, .inl r, .inr (.inr (57, 0))]) (σ' := (zU (zU σ 55 0 (r.toNat) 1) 56 0 (r.toNat) o)) 4 rfl ?_
                      refine zX_ast1 (L := 7) rfl (by decide) rfl (o1 a1 a3 a4 a5 a6 a7 a8 a9 a10) ?_
                      refine zX_run (n' := 53) (ls' := [some (.inr (.inr (10, 0))), some (.inl r), some (.inl o), some (.inl l), some (.inl s), some (.inl e), some (.inl 0)]) (st' := [.inl s, .inl r, .inr (.inr (58, 0))]) (σ' := (zU (zU (zU σ 55 0 (r.toNat) 1) 56 0 (r.toNat) o) 57 0 (r.toNat) l)) 4 rfl ?_
                      refine zX_ast1 (L := 7) rfl (by decide) rfl (o1 a1 a3 a4 a5 a6 a7 a8 a9 a10) ?_
                      refine zX_run (n' := 58) (ls' := [some (.inr (.inr (10, 0))), some (.inl r), some (.inl o), some (.inl l), some (.inl s), some (.inl e), some (.inl 0)]) (st' := [.inl e, .inl r, .inr (.inr (59, 0))]) (σ' := (zU (zU (zU (zU σ 55 0 (r.toNat) 1) 56 0 (r.toNat) o) 57 0 (r.toNat) l) 58 0 (r.toNat) s)) 4 rfl ?_
                      refine zX_ast1 (L := 7) rfl (by decide) rfl (o1 a1 a3 a4 a5 a6 a7 a8 a9 a10) ?_
                      refine zX_run (n' := 60) (ls' := [some (.inr (.inr (10, 0))), some (.inl r), some (.inl o), some (.inl l), some (.inl s), some (.inl e), some (.inl 0)]) (st' := [.inl 0]) (σ' := (zU (zU (zU (zU (zU σ 55 0 (r.toNat) 1) 56 0 (r.toNat) o) 57 0 (r.toNat) l) 58 0 (r.toNat) s) 59 0 (r.toNat) e)) 1 rfl ?_
                      exact zX_ret rfl rfl (h9 a1 a3 a4 a5 a6 a7 a8 a9 a10 a11)
                  · skip
                    refine zX_run (n' := 24) (ls' := [some (.inr (.inr (10, 0))), some (.inl r), some (.inl o), some (.inl l), some (.inl s), some (.inl e), none]) (st' := [.inl (-2)]) (σ' := σ) 1 rfl ?_
                    exact zX_ret rfl rfl (h10 a1 a3 a4 a5 a6 a7 a8 a9 a10)
  · skip
    refine zX_run (n' := 24) (ls' := [some (.inr (.inr (10, 0))), some (.inl r), some (.inl o), some (.inl l), some (.inl s), some (.inl e), none]) (st' := [.inl (-2)]) (σ' := σ) 2 rfl ?_
    exact zX_ret rfl rfl (h11 a2)
-- X10_release
theorem zb_129 {d : Nat} {σ : zS} {Q : Option zV → zS → Prop} {r : Int} {n : Int}
    (o1 : 0 ≤ r ∧ r < 7 → ¬ n < 0 → n ≤ 9999 → (0 : Int) ≤ r ∧ r < (7 : Int))
    (h1 : 0 ≤ r ∧ r < 7 → n < 0 → Q (some (.inl (-2))) σ)
    (h2 : 0 ≤ r ∧ r < 7 → ¬ n < 0 → n ≤ 9999 → ¬ σ.1 55 0 (r.toNat) = 0 → Q (some (.inl (σ.1 59 0 (r.toNat)))) (zU σ 59 0 (r.toNat) n))
    (h3 : 0 ≤ r ∧ r < 7 → ¬ n < 0 → n ≤ 9999 → σ.1 55 0 (r.toNat) = 0 → Q (some (.inl (-5))) σ)
    (h4 : 0 ≤ r ∧ r < 7 → ¬ n < 0 → ¬ n ≤ 9999 → Q (some (.inl (-2))) σ)
    (h5 : ¬ (0 ≤ r ∧ r < 7) → Q (some (.inl (-2))) σ) :
    zM (d + 3) 129 [.inr (.inr (10, 0)), .inl r, .inl n] σ Q := by
  refine zX_run (n' := 1) (ls' := [some (.inr (.inr (10, 0))), some (.inl r), some (.inl n), none]) (st' := [.inl r]) (σ' := σ) 1 rfl ?_
  refine zX_call rfl rfl ?_
  refine zs_119 (fun a1 => ?_) (fun a2 => ?_)
  · skip
    refine zX_run (n' := 4) (ls' := [some (.inr (.inr (10, 0))), some (.inl r), some (.inl n), none]) (st' := [.inl n]) (σ' := σ) 2 rfl ?_
    refine zX_i2 rfl (fun a3 => ?_) (fun a3 => ?_)
    · skip
      refine zX_run (n' := 9) (ls' := [some (.inr (.inr (10, 0))), some (.inl r), some (.inl n), none]) (st' := [.inl (-2)]) (σ' := σ) 1 rfl ?_
      exact zX_ret rfl rfl (h1 a1 a3)
    · skip
      refine zX_run (n' := 7) (ls' := [some (.inr (.inr (10, 0))), some (.inl r), some (.inl n), none]) (st' := [.inl 9999, .inl n]) (σ' := σ) 2 rfl ?_
      refine zX_c5 rfl (fun a4 => ?_) (fun a4 => ?_)
      · skip
        refine zX_run (n' := 13) (ls' := [some (.inr (.inr (10, 0))), some (.inl r), some (.inl n), none]) (st' := [.inl r, .inr (.inr (55, 0))]) (σ' := σ) 3 rfl ?_
        refine zX_ald4 (L := 7) rfl (by decide) rfl (o1 a1 a3 a4) ?_
        refine zX_i1 rfl (fun a5 => ?_) (fun a5 => ?_)
        · skip
          refine zX_run (n' := 20) (ls' := [some (.inr (.inr (10, 0))), some (.inl r), some (.inl n), none]) (st' := [.inl r, .inr (.inr (59, 0))]) (σ' := σ) 3 rfl ?_
          refine zX_ald1 (L := 7) rfl (by decide) rfl (o1 a1 a3 a4) ?_
          refine zX_run (n' := 26) (ls' := [some (.inr (.inr (10, 0))), some (.inl r), some (.inl n), some (.inl (σ.1 59 0 (r.toNat)))]) (st' := [.inl n, .inl r, .inr (.inr (59, 0))]) (σ' := σ) 5 rfl ?_
          refine zX_ast1 (L := 7) rfl (by decide) rfl (o1 a1 a3 a4) ?_
          refine zX_run (n' := 28) (ls' := [some (.inr (.inr (10, 0))), some (.inl r), some (.inl n), some (.inl (σ.1 59 0 (r.toNat)))]) (st' := [.inl (σ.1 59 0 (r.toNat))]) (σ' := (zU σ 59 0 (r.toNat) n)) 1 rfl ?_
          exact zX_ret rfl rfl (h2 a1 a3 a4 a5)
        · skip
          refine zX_run (n' := 16) (ls' := [some (.inr (.inr (10, 0))), some (.inl r), some (.inl n), none]) (st' := [.inl (-5)]) (σ' := σ) 1 rfl ?_
          exact zX_ret rfl rfl (h3 a1 a3 a4 a5)
      · skip
        refine zX_run (n' := 9) (ls' := [some (.inr (.inr (10, 0))), some (.inl r), some (.inl n), none]) (st' := [.inl (-2)]) (σ' := σ) 1 rfl ?_
        exact zX_ret rfl rfl (h4 a1 a3 a4)
  · skip
    refine zX_run (n' := 9) (ls' := [some (.inr (.inr (10, 0))), some (.inl r), some (.inl n), none]) (st' := [.inl (-2)]) (σ' := σ) 2 rfl ?_
    exact zX_ret rfl rfl (h5 a2)
-- X10_hold
theorem zb_132 {d : Nat} {σ : zS} {Q : Option zV → zS → Prop} {k : Int} {s : Int} {r : Int} {n : Int} {e : Int}
    (o1 : (0 ≤ k ∧ k ≤ 5) ∧ (0 ≤ s ∧ s ≤ 3) ∧ (0 ≤ r ∧ r ≤ 6) ∧ (0 ≤ n ∧ n ≤ 9999 ∧ (k = 2 → n ≤ 100)) ∧ 0 ≤ e ∧ e ≤ 9999 → ¬ σ.1 10 0 4 = 16 → (0 : Int) ≤ (σ.1 10 0 4) ∧ (σ.1 10 0 4) < (17 : Int))
    (h1 : (0 ≤ k ∧ k ≤ 5) ∧ (0 ≤ s ∧ s ≤ 3) ∧ (0 ≤ r ∧ r ≤ 6) ∧ (0 ≤ n ∧ n ≤ 9999 ∧ (k = 2 → n ≤ 100)) ∧ 0 ≤ e ∧ e ≤ 9999 → ¬ σ.1 10 0 4 = 16 → Q (some (.inl (σ.1 10 0 4))) (zU (zU (zU (zU (zU (zU (zU (zU σ 60 0 ((σ.1 10 0 4).toNat) k) 61 0 ((σ.1 10 0 4).toNat) s) 62 0 ((σ.1 10 0 4).toNat) r) 63 0 ((σ.1 10 0 4).toNat) n) 64 0 ((σ.1 10 0 4).toNat) e) 65 0 ((σ.1 10 0 4).toNat) 0) 66 0 ((σ.1 10 0 4).toNat) 96) 10 0 4 (zW ((σ.1 10 0 4) + 1))))
    (h2 : (0 ≤ k ∧ k ≤ 5) ∧ (0 ≤ s ∧ s ≤ 3) ∧ (0 ≤ r ∧ r ≤ 6) ∧ (0 ≤ n ∧ n ≤ 9999 ∧ (k = 2 → n ≤ 100)) ∧ 0 ≤ e ∧ e ≤ 9999 → σ.1 10 0 4 = 16 → Q (some (.inl (-4))) σ)
    (h3 : ¬ ((0 ≤ k ∧ k ≤ 5) ∧ (0 ≤ s ∧ s ≤ 3) ∧ (0 ≤ r ∧ r ≤ 6) ∧ (0 ≤ n ∧ n ≤ 9999 ∧ (k = 2 → n ≤ 100)) ∧ 0 ≤ e ∧ e ≤ 9999) → Q (some (.inl (-2))) σ) :
    zM (d + 4) 132 [.inr (.inr (10, 0)), .inl k, .inl s, .inl r, .inl n, .inl e] σ Q := by
  refine zX_run (n' := 5) (ls' := [some (.inr (.inr (10, 0))), some (.inl k), some (.inl s), some (.inl r), some (.inl n), some (.inl e)]) (st' := [.inl e, .inl n, .inl r, .inl s, .inl k]) (σ' := σ) 5 rfl ?_
  refine zX_call rfl rfl ?_
  refine zs_130 (fun a1 => ?_) (fun a2 => ?_)
  · skip
    refine zX_run (n' := 12) (ls' := [some (.inr (.inr (10, 0))), some (.inl k), some (.inl s), some (.inl r), some (.inl n), some (.inl e)]) (st' := [.inl 16, .inl (σ.1 10 0 4)]) (σ' := σ) 4 rfl ?_
    refine zX_c1 rfl (fun a3 => ?_) (fun a3 => ?_)
    · skip
      refine zX_run (n' := 23) (ls' := [some (.inr (.inr (10, 0))), some (.inl k), some (.inl s), some (.inl r), some (.inl n), some (.inl e)]) (st' := [.inl e, .inl n, .inl r, .inl s, .inl k, .inl (σ.1 10 0 4), .inr (.inr (10, 0))]) (σ' := σ) 8 rfl ?_
      refine zX_call rfl rfl ?_
      refine zm_131 (o1 a1 a3) (o1 a1 a3) (o1 a1 a3) (o1 a1 a3) (o1 a1 a3) (o1 a1 a3) (o1 a1 a3) ?_
      · skip
        refine zX_run (n' := 31) (ls' := [some (.inr (.inr (10, 0))), some (.inl k), some (.inl s), some (.inl r), some (.inl n), some (.inl e)]) (st' := [.inl (σ.1 10 0 4)]) (σ' := (zU (zU (zU (zU (zU (zU (zU (zU σ 60 0 ((σ.1 10 0 4).toNat) k) 61 0 ((σ.1 10 0 4).toNat) s) 62 0 ((σ.1 10 0 4).toNat) r) 63 0 ((σ.1 10 0 4).toNat) n) 64 0 ((σ.1 10 0 4).toNat) e) 65 0 ((σ.1 10 0 4).toNat) 0) 66 0 ((σ.1 10 0 4).toNat) 96) 10 0 4 (zW ((σ.1 10 0 4) + 1)))) 7 rfl ?_
        exact zX_ret rfl rfl (h1 a1 a3)
    · skip
      refine zX_run (n' := 14) (ls' := [some (.inr (.inr (10, 0))), some (.inl k), some (.inl s), some (.inl r), some (.inl n), some (.inl e)]) (st' := [.inl (-4)]) (σ' := σ) 1 rfl ?_
      exact zX_ret rfl rfl (h2 a1 a3)
  · skip
    refine zX_run (n' := 8) (ls' := [some (.inr (.inr (10, 0))), some (.inl k), some (.inl s), some (.inl r), some (.inl n), some (.inl e)]) (st' := [.inl (-2)]) (σ' := σ) 2 rfl ?_
    exact zX_ret rfl rfl (h3 a2)
-- X10_force
theorem zb_134 {d : Nat} {σ : zS} {Q : Option zV → zS → Prop} {p : Int} {a : Int} {b : Int}
    (o1 : 0 ≤ p ∧ p < σ.1 10 0 4 → 0 ≤ a ∧ a ≤ b ∧ b ≤ 96 → (0 : Int) ≤ p ∧ p < (17 : Int))
    (h1 : 0 ≤ p ∧ p < σ.1 10 0 4 → 0 ≤ a ∧ a ≤ b ∧ b ≤ 96 → Q (some (.inl (zW (b - a)))) (zU (zU σ 65 0 (p.toNat) a) 66 0 (p.toNat) b))
    (h2 : 0 ≤ p ∧ p < σ.1 10 0 4 → ¬ (0 ≤ a ∧ a ≤ b ∧ b ≤ 96) → Q (some (.inl (-2))) σ)
    (h3 : ¬ (0 ≤ p ∧ p < σ.1 10 0 4) → Q (some (.inl (-2))) σ) :
    zM (d + 3) 134 [.inr (.inr (10, 0)), .inl p, .inl a, .inl b] σ Q := by
  refine zX_run (n' := 2) (ls' := [some (.inr (.inr (10, 0))), some (.inl p), some (.inl a), some (.inl b)]) (st' := [.inl p, .inr (.inr (10, 0))]) (σ' := σ) 2 rfl ?_
  refine zX_call rfl rfl ?_
  refine zs_121 (fun a1 => ?_) (fun a2 => ?_)
  · skip
    refine zX_run (n' := 6) (ls' := [some (.inr (.inr (10, 0))), some (.inl p), some (.inl a), some (.inl b)]) (st' := [.inl b, .inl a]) (σ' := σ) 3 rfl ?_
    refine zX_call rfl rfl ?_
    refine zs_133 (fun a3 => ?_) (fun a4 => ?_)
    · skip
      refine zX_run (n' := 14) (ls' := [some (.inr (.inr (10, 0))), some (.inl p), some (.inl a), some (.inl b)]) (st' := [.inl a, .inl p, .inr (.inr (65, 0))]) (σ' := σ) 5 rfl ?_
      refine zX_ast1 (L := 17) rfl (by decide) rfl (o1 a1 a3) ?_
      refine zX_run (n' := 19) (ls' := [some (.inr (.inr (10, 0))), some (.inl p), some (.inl a), some (.inl b)]) (st' := [.inl b, .inl p, .inr (.inr (66, 0))]) (σ' := (zU σ 65 0 (p.toNat) a)) 4 rfl ?_
      refine zX_ast1 (L := 17) rfl (by decide) rfl (o1 a1 a3) ?_
      refine zX_run (n' := 23) (ls' := [some (.inr (.inr (10, 0))), some (.inl p), some (.inl a), some (.inl b)]) (st' := [.inl (zW (b - a))]) (σ' := (zU (zU σ 65 0 (p.toNat) a) 66 0 (p.toNat) b)) 3 rfl ?_
      exact zX_ret rfl rfl (h1 a1 a3)
    · skip
      refine zX_run (n' := 9) (ls' := [some (.inr (.inr (10, 0))), some (.inl p), some (.inl a), some (.inl b)]) (st' := [.inl (-2)]) (σ' := σ) 2 rfl ?_
      exact zX_ret rfl rfl (h2 a1 a4)
  · skip
    refine zX_run (n' := 9) (ls' := [some (.inr (.inr (10, 0))), some (.inl p), some (.inl a), some (.inl b)]) (st' := [.inl (-2)]) (σ' := σ) 2 rfl ?_
    exact zX_ret rfl rfl (h3 a2)
-- X10_holdTold
theorem zb_137 {d : Nat} {σ : zS} {Q : Option zV → zS → Prop} {p : Int} {w : Int}
    (o1 : 0 ≤ p ∧ p < σ.1 10 0 4 → w = 0 → (0 : Int) ≤ p ∧ p < (17 : Int))
    (o2 : 0 ≤ p ∧ p < σ.1 10 0 4 → w = 1 → (0 : Int) ≤ p ∧ p < (17 : Int))
    (o3 : 0 ≤ p ∧ p < σ.1 10 0 4 → w = 2 → (0 : Int) ≤ p ∧ p < (17 : Int))
    (o4 : 0 ≤ p ∧ p < σ.1 10 0 4 → w = 3 → (0 : Int) ≤ p ∧ p < (17 : Int))
    (o5 : 0 ≤ p ∧ p < σ.1 10 0 4 → w = 4 → (0 : Int) ≤ p ∧ p < (17 : Int))
    (o6 : 0 ≤ p ∧ p < σ.1 10 0 4 → w = 5 → 0 ≤ p ∧ p < 17)
    (o7 : 0 ≤ p ∧ p < σ.1 10 0 4 → w = 6 → 0 ≤ p ∧ p < 17)
    (h1 : 0 ≤ p ∧ p < σ.1 10 0 4 → w < 0 ∨ 6 < w → Q (some (.inl (-2))) σ)
    (h2 : 0 ≤ p ∧ p < σ.1 10 0 4 → w = 0 → Q (some (.inl (σ.1 60 0 (p.toNat)))) σ)
    (h3 : 0 ≤ p ∧ p < σ.1 10 0 4 → w = 1 → Q (some (.inl (σ.1 61 0 (p.toNat)))) σ)
    (h4 : 0 ≤ p ∧ p < σ.1 10 0 4 → w = 2 → Q (some (.inl (σ.1 62 0 (p.toNat)))) σ)
    (h5 : 0 ≤ p ∧ p < σ.1 10 0 4 → w = 3 → Q (some (.inl (σ.1 63 0 (p.toNat)))) σ)
    (h6 : 0 ≤ p ∧ p < σ.1 10 0 4 → w = 4 → Q (some (.inl (σ.1 64 0 (p.toNat)))) σ)
    (h7 : 0 ≤ p ∧ p < σ.1 10 0 4 → w = 5 → Q (some (.inl (uRank (σ.1 60 0 p.toNat) (σ.1 64 0 p.toNat)))) σ)
    (h8 : 0 ≤ p ∧ p < σ.1 10 0 4 → w = 6 → Q (some (.inl (uHun (σ.1 60 0 p.toNat)))) σ)
    (h9 : ¬ (0 ≤ p ∧ p < σ.1 10 0 4) → Q (some (.inl (-2))) σ) :
    zM (d + 3) 137 [.inr (.inr (10, 0)), .inl p, .inl w] σ Q := by
  refine zX_run (n' := 2) (ls' := [some (.inr (.inr (10, 0))), some (.inl p), some (.inl w)]) (st' := [.inl p, .inr (.inr (10, 0))]) (σ' := σ) 2 rfl ?_
  refine zX_call rfl rfl ?_
  refine zs_121 (fun a1 => ?_) (fun a2 => ?_)
  · skip
    refine zX_run (n' := 7) (ls' := [some (.inr (.inr (10, 0))), some (.inl p), some (.inl w)]) (st' := [.inl w]) (σ' := σ) 2 rfl ?_
    refine zX_sw rfl (fun a3 => ?_) ⟨fun a3 => ?_, fun a3 => ?_, fun a3 => ?_, fun a3 => ?_, fun a3 => ?_, fun a3 => ?_, fun a3 => ?_, trivial⟩
    · skip
      refine zX_run (n' := 42) (ls' := [some (.inr (.inr (10, 0))), some (.inl p), some (.inl w)]) (st' := [.inl (-2)]) (σ' := σ) 1 rfl ?_
      exact zX_ret rfl rfl (h1 a1 a3)
    · skip
      refine zX_run (n' := 11) (ls' := [some (.inr (.inr (10, 0))), some (.inl p), some (.inl w)]) (st' := [.inl p, .inr (.inr (60, 0))]) (σ' := σ) 3 rfl ?_
      refine zX_ald1 (L := 17) rfl (by decide) rfl (o1 a1 a3) ?_
      exact zX_ret rfl rfl (h2 a1 a3)
    · skip
      refine zX_run (n' := 16) (ls' := [some (.inr (.inr (10, 0))), some (.inl p), some (.inl w)]) (st' := [.inl p, .inr (.inr (61, 0))]) (σ' := σ) 3 rfl ?_
      refine zX_ald1 (L := 17) rfl (by decide) rfl (o2 a1 a3) ?_
      exact zX_ret rfl rfl (h3 a1 a3)
    · skip
      refine zX_run (n' := 21) (ls' := [some (.inr (.inr (10, 0))), some (.inl p), some (.inl w)]) (st' := [.inl p, .inr (.inr (62, 0))]) (σ' := σ) 3 rfl ?_
      refine zX_ald1 (L := 17) rfl (by decide) rfl (o3 a1 a3) ?_
      exact zX_ret rfl rfl (h4 a1 a3)
    · skip
      refine zX_run (n' := 26) (ls' := [some (.inr (.inr (10, 0))), some (.inl p), some (.inl w)]) (st' := [.inl p, .inr (.inr (63, 0))]) (σ' := σ) 3 rfl ?_
      refine zX_ald1 (L := 17) rfl (by decide) rfl (o4 a1 a3) ?_
      exact zX_ret rfl rfl (h5 a1 a3)
    · skip
      refine zX_run (n' := 31) (ls' := [some (.inr (.inr (10, 0))), some (.inl p), some (.inl w)]) (st' := [.inl p, .inr (.inr (64, 0))]) (σ' := σ) 3 rfl ?_
      refine zX_ald1 (L := 17) rfl (by decide) rfl (o5 a1 a3) ?_
      exact zX_ret rfl rfl (h6 a1 a3)
    · skip
      refine zX_run (n' := 35) (ls' := [some (.inr (.inr (10, 0))), some (.inl p), some (.inl w)]) (st' := [.inl p, .inr (.inr (10, 0))]) (σ' := σ) 2 rfl ?_
      refine zX_call rfl rfl ?_
      refine zs_135 (o6 a1 a3) ?_
      · skip
        exact zX_ret rfl rfl (h7 a1 a3)
    · skip
      refine zX_run (n' := 39) (ls' := [some (.inr (.inr (10, 0))), some (.inl p), some (.inl w)]) (st' := [.inl p, .inr (.inr (10, 0))]) (σ' := σ) 2 rfl ?_
      refine zX_call rfl rfl ?_
      refine zs_136 (o7 a1 a3) ?_
      · skip
        exact zX_ret rfl rfl (h8 a1 a3)
  · skip
    refine zX_run (n' := 5) (ls' := [some (.inr (.inr (10, 0))), some (.inl p), some (.inl w)]) (st' := [.inl (-2)]) (σ' := σ) 2 rfl ?_
    exact zX_ret rfl rfl (h9 a2)
-- X10_call
theorem zb_139 {d : Nat} {σ : zS} {Q : Option zV → zS → Prop} {p : Int} {m : Int}
    (o1 : 0 ≤ p ∧ p < σ.1 10 0 4 → 0 ≤ m ∧ m < 96 → ¬ σ.1 10 0 5 = 16 → (0 : Int) ≤ σ.1 10 0 5 ∧ σ.1 10 0 5 < (16 : Int))
    (h1 : 0 ≤ p ∧ p < σ.1 10 0 4 → 0 ≤ m ∧ m < 96 → ¬ σ.1 10 0 5 = 16 → Q (some (.inl (σ.1 10 0 5))) (zU (zU (zU σ 67 0 ((σ.1 10 0 5).toNat) p) 68 0 ((σ.1 10 0 5).toNat) m) 10 0 5 (zW ((σ.1 10 0 5) + 1))))
    (h2 : 0 ≤ p ∧ p < σ.1 10 0 4 → 0 ≤ m ∧ m < 96 → σ.1 10 0 5 = 16 → Q (some (.inl (-4))) σ)
    (h3 : 0 ≤ p ∧ p < σ.1 10 0 4 → ¬ (0 ≤ m ∧ m < 96) → Q (some (.inl (-2))) σ)
    (h4 : ¬ (0 ≤ p ∧ p < σ.1 10 0 4) → Q (some (.inl (-2))) σ) :
    zM (d + 3) 139 [.inr (.inr (10, 0)), .inl p, .inl m] σ Q := by
  refine zX_run (n' := 2) (ls' := [some (.inr (.inr (10, 0))), some (.inl p), some (.inl m)]) (st' := [.inl p, .inr (.inr (10, 0))]) (σ' := σ) 2 rfl ?_
  refine zX_call rfl rfl ?_
  refine zs_121 (fun a1 => ?_) (fun a2 => ?_)
  · skip
    refine zX_run (n' := 5) (ls' := [some (.inr (.inr (10, 0))), some (.inl p), some (.inl m)]) (st' := [.inl m]) (σ' := σ) 2 rfl ?_
    refine zX_call rfl rfl ?_
    refine zs_120 (fun a3 => ?_) (fun a4 => ?_)
    · skip
      refine zX_run (n' := 12) (ls' := [some (.inr (.inr (10, 0))), some (.inl p), some (.inl m)]) (st' := [.inl 16, .inl (σ.1 10 0 5)]) (σ' := σ) 4 rfl ?_
      refine zX_c1 rfl (fun a5 => ?_) (fun a5 => ?_)
      · skip
        refine zX_run (n' := 20) (ls' := [some (.inr (.inr (10, 0))), some (.inl p), some (.inl m)]) (st' := [.inl p, .inl (σ.1 10 0 5), .inr (.inr (67, 0))]) (σ' := σ) 5 rfl ?_
        refine zX_ast1 (L := 16) rfl (by decide) rfl (o1 a1 a3 a5) ?_
        refine zX_run (n' := 26) (ls' := [some (.inr (.inr (10, 0))), some (.inl p), some (.inl m)]) (st' := [.inl m, .inl (σ.1 10 0 5), .inr (.inr (68, 0))]) (σ' := (zU σ 67 0 ((σ.1 10 0 5).toNat) p)) 5 rfl ?_
        refine zX_ast1 (L := 16) rfl (by decide) rfl (o1 a1 a3 a5) ?_
        refine zX_run (n' := 34) (ls' := [some (.inr (.inr (10, 0))), some (.inl p), some (.inl m)]) (st' := [.inl (σ.1 10 0 5)]) (σ' := (zU (zU (zU σ 67 0 ((σ.1 10 0 5).toNat) p) 68 0 ((σ.1 10 0 5).toNat) m) 10 0 5 (zW ((σ.1 10 0 5) + 1)))) 7 rfl ?_
        exact zX_ret rfl rfl (h1 a1 a3 a5)
      · skip
        refine zX_run (n' := 14) (ls' := [some (.inr (.inr (10, 0))), some (.inl p), some (.inl m)]) (st' := [.inl (-4)]) (σ' := σ) 1 rfl ?_
        exact zX_ret rfl rfl (h2 a1 a3 a5)
    · skip
      refine zX_run (n' := 8) (ls' := [some (.inr (.inr (10, 0))), some (.inl p), some (.inl m)]) (st' := [.inl (-2)]) (σ' := σ) 2 rfl ?_
      exact zX_ret rfl rfl (h3 a1 a4)
  · skip
    refine zX_run (n' := 8) (ls' := [some (.inr (.inr (10, 0))), some (.inl p), some (.inl m)]) (st' := [.inl (-2)]) (σ' := σ) 2 rfl ?_
    exact zX_ret rfl rfl (h4 a2)
-- X10_rule
theorem zb_152 {d : Nat} {σ : zS} {Q : Option zV → zS → Prop} {s : Int} {t : Int}
    (o1 : ¬ s < 0 → ¬ 3 < s → ¬ t < 0 → t < σ.1 10 0 6 → (0 : Int) ≤ s ∧ s < (4 : Int))
    (h1 : s < 0 → Q (some (.inl (-2))) σ)
    (h2 : ¬ s < 0 → 3 < s → Q (some (.inl (-2))) σ)
    (h3 : ¬ s < 0 → ¬ 3 < s → t < 0 → Q (some (.inl (-2))) σ)
    (h4 : ¬ s < 0 → ¬ 3 < s → ¬ t < 0 → t < σ.1 10 0 6 → Q (some (.inl (σ.1 70 0 (s.toNat)))) (zU σ 70 0 (s.toNat) t))
    (h5 : ¬ s < 0 → ¬ 3 < s → ¬ t < 0 → ¬ t < σ.1 10 0 6 → Q (some (.inl (-2))) σ) :
    zM (d + 3) 152 [.inr (.inr (10, 0)), .inl s, .inl t] σ Q := by
  refine zX_run (n' := 1) (ls' := [some (.inr (.inr (10, 0))), some (.inl s), some (.inl t), none]) (st' := [.inl s]) (σ' := σ) 1 rfl ?_
  refine zX_i2 rfl (fun a1 => ?_) (fun a1 => ?_)
  · skip
    refine zX_run (n' := 12) (ls' := [some (.inr (.inr (10, 0))), some (.inl s), some (.inl t), none]) (st' := [.inl (-2)]) (σ' := σ) 1 rfl ?_
    exact zX_ret rfl rfl (h1 a1)
  · skip
    refine zX_run (n' := 4) (ls' := [some (.inr (.inr (10, 0))), some (.inl s), some (.inl t), none]) (st' := [.inl 3, .inl s]) (σ' := σ) 2 rfl ?_
    refine zX_c4 rfl (fun a2 => ?_) (fun a2 => ?_)
    · skip
      refine zX_run (n' := 12) (ls' := [some (.inr (.inr (10, 0))), some (.inl s), some (.inl t), none]) (st' := [.inl (-2)]) (σ' := σ) 1 rfl ?_
      exact zX_ret rfl rfl (h2 a1 a2)
    · skip
      refine zX_run (n' := 6) (ls' := [some (.inr (.inr (10, 0))), some (.inl s), some (.inl t), none]) (st' := [.inl t]) (σ' := σ) 1 rfl ?_
      refine zX_i2 rfl (fun a3 => ?_) (fun a3 => ?_)
      · skip
        refine zX_run (n' := 12) (ls' := [some (.inr (.inr (10, 0))), some (.inl s), some (.inl t), none]) (st' := [.inl (-2)]) (σ' := σ) 1 rfl ?_
        exact zX_ret rfl rfl (h3 a1 a2 a3)
      · skip
        refine zX_run (n' := 10) (ls' := [some (.inr (.inr (10, 0))), some (.inl s), some (.inl t), none]) (st' := [.inl (σ.1 10 0 6), .inl t]) (σ' := σ) 3 rfl ?_
        refine zX_c2 rfl (fun a4 => ?_) (fun a4 => ?_)
        · skip
          refine zX_run (n' := 16) (ls' := [some (.inr (.inr (10, 0))), some (.inl s), some (.inl t), none]) (st' := [.inl s, .inr (.inr (70, 0))]) (σ' := σ) 3 rfl ?_
          refine zX_ald1 (L := 4) rfl (by decide) rfl (o1 a1 a2 a3 a4) ?_
          refine zX_run (n' := 22) (ls' := [some (.inr (.inr (10, 0))), some (.inl s), some (.inl t), some (.inl (σ.1 70 0 (s.toNat)))]) (st' := [.inl t, .inl s, .inr (.inr (70, 0))]) (σ' := σ) 5 rfl ?_
          refine zX_ast1 (L := 4) rfl (by decide) rfl (o1 a1 a2 a3 a4) ?_
          refine zX_run (n' := 24) (ls' := [some (.inr (.inr (10, 0))), some (.inl s), some (.inl t), some (.inl (σ.1 70 0 (s.toNat)))]) (st' := [.inl (σ.1 70 0 (s.toNat))]) (σ' := (zU σ 70 0 (s.toNat) t)) 1 rfl ?_
          exact zX_ret rfl rfl (h4 a1 a2 a3 a4)
        · skip
          refine zX_run (n' := 12) (ls' := [some (.inr (.inr (10, 0))), some (.inl s), some (.inl t), none]) (st' := [.inl (-2)]) (σ' := σ) 1 rfl ?_
          exact zX_ret rfl rfl (h5 a1 a2 a3 a4)
