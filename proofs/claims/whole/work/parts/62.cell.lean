-- cells of sheets (wip/whole/gen/laws37.py)
-- X9_cell
theorem zb_100 {d : Nat} {σ : zS} {Q : Option zV → zS → Prop} {s : Int} {i : Int} {v : Int}
    (o1 : 0 ≤ s ∧ s ≤ 3 → (0 : Int) ≤ s ∧ s < (4 : Int))
    (o2 : 0 ≤ s ∧ s ≤ 3 → ¬ σ.1 6 (4 * 0 + s.toNat) 1 = (-1) → ¬ i < 0 → ¬ σ.1 6 (4 * 0 + s.toNat) 2 ≤ i → ¬ σ.1 6 (4 * 0 + s.toNat) 1 = 0 → ¬ σ.1 6 (4 * 0 + s.toNat) 1 = 1 → (0 : Int) ≤ i ∧ i < (40 : Int))
    (o3 : 0 ≤ s ∧ s ≤ 3 → ¬ σ.1 6 (4 * 0 + s.toNat) 1 = (-1) → ¬ i < 0 → ¬ σ.1 6 (4 * 0 + s.toNat) 2 ≤ i → ¬ σ.1 6 (4 * 0 + s.toNat) 1 = 0 → σ.1 6 (4 * 0 + s.toNat) 1 = 1 → (0 : Int) ≤ i ∧ i < (40 : Int))
    (o4 : 0 ≤ s ∧ s ≤ 3 → ¬ σ.1 6 (4 * 0 + s.toNat) 1 = (-1) → ¬ i < 0 → ¬ σ.1 6 (4 * 0 + s.toNat) 2 ≤ i → σ.1 6 (4 * 0 + s.toNat) 1 = 0 → (0 : Int) ≤ i ∧ i < (40 : Int))
    (h1 : 0 ≤ s ∧ s ≤ 3 → ¬ σ.1 6 (4 * 0 + s.toNat) 1 = (-1) → i < 0 → Q (some (.inl (-12))) σ)
    (h2 : 0 ≤ s ∧ s ≤ 3 → ¬ σ.1 6 (4 * 0 + s.toNat) 1 = (-1) → ¬ i < 0 → σ.1 6 (4 * 0 + s.toNat) 2 ≤ i → Q (some (.inl (-12))) σ)
    (h3 : 0 ≤ s ∧ s ≤ 3 → ¬ σ.1 6 (4 * 0 + s.toNat) 1 = (-1) → ¬ i < 0 → ¬ σ.1 6 (4 * 0 + s.toNat) 2 ≤ i → ¬ σ.1 6 (4 * 0 + s.toNat) 1 = 0 → ¬ σ.1 6 (4 * 0 + s.toNat) 1 = 1 → Q (some (.inl 1)) (zU σ 32 (4 * 0 + s.toNat) (i.toNat) v))
    (h4 : 0 ≤ s ∧ s ≤ 3 → ¬ σ.1 6 (4 * 0 + s.toNat) 1 = (-1) → ¬ i < 0 → ¬ σ.1 6 (4 * 0 + s.toNat) 2 ≤ i → ¬ σ.1 6 (4 * 0 + s.toNat) 1 = 0 → σ.1 6 (4 * 0 + s.toNat) 1 = 1 → Q (some (.inl 1)) (zU σ 32 (4 * 0 + s.toNat) (i.toNat) ((v + 32768) % 65536 - 32768)))
    (h5 : 0 ≤ s ∧ s ≤ 3 → ¬ σ.1 6 (4 * 0 + s.toNat) 1 = (-1) → ¬ i < 0 → ¬ σ.1 6 (4 * 0 + s.toNat) 2 ≤ i → σ.1 6 (4 * 0 + s.toNat) 1 = 0 → Q (some (.inl 1)) (zU σ 32 (4 * 0 + s.toNat) (i.toNat) ((v + 128) % 256 - 128)))
    (h6 : 0 ≤ s ∧ s ≤ 3 → σ.1 6 (4 * 0 + s.toNat) 1 = (-1) → Q (some (.inl (-11))) σ)
    (h7 : ¬ (0 ≤ s ∧ s ≤ 3) → Q (some (.inl (-2))) σ) :
    zM (d + 14) 100 [.inr (.inr (9, 0)), .inl s, .inl i, .inl v] σ Q := by
  refine zX_run (n' := 1) (ls' := [some (.inr (.inr (9, 0))), some (.inl s), some (.inl i), some (.inl v), none]) (st' := [.inl s]) (σ' := σ) 1 rfl ?_
  refine zX_call rfl rfl ?_
  refine zs_110 (fun a1 => ?_) (fun a2 => ?_)
  · skip
    refine zX_run (n' := 8) (ls' := [some (.inr (.inr (9, 0))), some (.inl s), some (.inl i), some (.inl v), none]) (st' := [.inl s, .inr (.inr (46, 0))]) (σ' := σ) 4 rfl ?_
    refine zX_ald5 (L := 4) rfl (by decide) rfl (o1 a1) ?_
    refine zX_run (n' := 13) (ls' := [some (.inr (.inr (9, 0))), some (.inl s), some (.inl i), some (.inl v), some (.inr (.inr (6, 4 * 0 + s.toNat)))]) (st' := [.inl (-1), .inl (σ.1 6 (4 * 0 + s.toNat) 1)]) (σ' := σ) 4 rfl ?_
    refine zX_c1 rfl (fun a3 => ?_) (fun a3 => ?_)
    · skip
      refine zX_run (n' := 18) (ls' := [some (.inr (.inr (9, 0))), some (.inl s), some (.inl i), some (.inl v), some (.inr (.inr (6, 4 * 0 + s.toNat)))]) (st' := [.inl i, .inr (.inr (6, 4 * 0 + s.toNat))]) (σ' := σ) 2 rfl ?_
      refine zX_call rfl rfl ?_
      refine zm_55 (fun a4 => ?_) (fun a5 a6 => ?_) (fun a7 a8 => ?_)
      · skip
        refine zX_run (n' := 21) (ls' := [some (.inr (.inr (9, 0))), some (.inl s), some (.inl i), some (.inl v), some (.inr (.inr (6, 4 * 0 + s.toNat)))]) (st' := [.inl (-12)]) (σ' := σ) 2 rfl ?_
        exact zX_ret rfl rfl (h1 a1 a3 a4)
      · skip
        refine zX_run (n' := 21) (ls' := [some (.inr (.inr (9, 0))), some (.inl s), some (.inl i), some (.inl v), some (.inr (.inr (6, 4 * 0 + s.toNat)))]) (st' := [.inl (-12)]) (σ' := σ) 2 rfl ?_
        exact zX_ret rfl rfl (h2 a1 a3 a5 a6)
      · skip
        refine zX_run (n' := 25) (ls' := [some (.inr (.inr (9, 0))), some (.inl s), some (.inl i), some (.inl v), some (.inr (.inr (6, 4 * 0 + s.toNat)))]) (st' := [.inl v, .inl i, .inr (.inr (6, 4 * 0 + s.toNat))]) (σ' := σ) 4 rfl ?_
        refine zX_call rfl rfl ?_
        refine zm_57 (o2 a1 a3 a7 a8) (o3 a1 a3 a7 a8) (o4 a1 a3 a7 a8) (fun a9 a10 => ?_) (fun a11 a12 => ?_) (fun a13 => ?_)
        · skip
          refine zX_run (n' := 27) (ls' := [some (.inr (.inr (9, 0))), some (.inl s), some (.inl i), some (.inl v), some (.inr (.inr (6, 4 * 0 + s.toNat)))]) (st' := [.inl 1]) (σ' := (zU σ 32 (4 * 0 + s.toNat) (i.toNat) v)) 1 rfl ?_
          exact zX_ret rfl rfl (h3 a1 a3 a7 a8 a9 a10)
        · skip
          refine zX_run (n' := 27) (ls' := [some (.inr (.inr (9, 0))), some (.inl s), some (.inl i), some (.inl v), some (.inr (.inr (6, 4 * 0 + s.toNat)))]) (st' := [.inl 1]) (σ' := (zU σ 32 (4 * 0 + s.toNat) (i.toNat) ((v + 32768) % 65536 - 32768))) 1 rfl ?_
          exact zX_ret rfl rfl (h4 a1 a3 a7 a8 a11 a12)
        · skip
          refine zX_run (n' := 27) (ls' := [some (.inr (.inr (9, 0))), some (.inl s), some (.inl i), some (.inl v), some (.inr (.inr (6, 4 * 0 + s.toNat)))]) (st' := [.inl 1]) (σ' := (zU σ 32 (4 * 0 + s.toNat) (i.toNat) ((v + 128) % 256 - 128))) 1 rfl ?_
          exact zX_ret rfl rfl (h5 a1 a3 a7 a8 a13)
    · skip
      refine zX_run (n' := 15) (ls' := [some (.inr (.inr (9, 0))), some (.inl s), some (.inl i), some (.inl v), some (.inr (.inr (6, 4 * 0 + s.toNat)))]) (st' := [.inl (-11)]) (σ' := σ) 1 rfl ?_
      exact zX_ret rfl rfl (h6 a1 a3)
  · skip
    refine zX_run (n' := 4) (ls' := [some (.inr (.inr (9, 0))), some (.inl s), some (.inl i), some (.inl v), none]) (st' := [.inl (-2)]) (σ' := σ) 2 rfl ?_
    exact zX_ret rfl rfl (h7 a2)
-- X10_cell
theorem zb_185 {d : Nat} {σ : zS} {Q : Option zV → zS → Prop} {s : Int} {i : Int} {v : Int}
    (o1 : ¬ s < 0 → s ≤ 3 → (0 : Int) ≤ s ∧ s < (4 : Int))
    (o2 : ¬ s < 0 → s ≤ 3 → ¬ σ.1 74 0 (s.toNat) = (-1) → ¬ i < 0 → i < σ.1 75 0 (s.toNat) → ¬ σ.1 74 0 (s.toNat) = 0 → ¬ σ.1 74 0 (s.toNat) = 1 → (0 : Int) ≤ zW ((zW (40 * s)) + i) ∧ zW ((zW (40 * s)) + i) < (160 : Int))
    (o3 : ¬ s < 0 → s ≤ 3 → ¬ σ.1 74 0 (s.toNat) = (-1) → ¬ i < 0 → i < σ.1 75 0 (s.toNat) → ¬ σ.1 74 0 (s.toNat) = 0 → σ.1 74 0 (s.toNat) = 1 → (0 : Int) ≤ zW ((zW (40 * s)) + i) ∧ zW ((zW (40 * s)) + i) < (160 : Int))
    (o4 : ¬ s < 0 → s ≤ 3 → ¬ σ.1 74 0 (s.toNat) = (-1) → ¬ i < 0 → i < σ.1 75 0 (s.toNat) → σ.1 74 0 (s.toNat) = 0 → (0 : Int) ≤ zW ((zW (40 * s)) + i) ∧ zW ((zW (40 * s)) + i) < (160 : Int))
    (h1 : s < 0 → Q (some (.inl (-2))) σ)
    (h2 : ¬ s < 0 → s ≤ 3 → ¬ σ.1 74 0 (s.toNat) = (-1) → i < 0 → Q (some (.inl (-12))) σ)
    (h3 : ¬ s < 0 → s ≤ 3 → ¬ σ.1 74 0 (s.toNat) = (-1) → ¬ i < 0 → i < σ.1 75 0 (s.toNat) → ¬ σ.1 74 0 (s.toNat) = 0 → ¬ σ.1 74 0 (s.toNat) = 1 → Q (some (.inl 1)) (zU σ 76 0 ((zW ((zW (40 * s)) + i)).toNat) v))
    (h4 : ¬ s < 0 → s ≤ 3 → ¬ σ.1 74 0 (s.toNat) = (-1) → ¬ i < 0 → i < σ.1 75 0 (s.toNat) → ¬ σ.1 74 0 (s.toNat) = 0 → σ.1 74 0 (s.toNat) = 1 → Q (some (.inl 1)) (zU σ 76 0 ((zW ((zW (40 * s)) + i)).toNat) ((v + 32768) % 65536 - 32768)))
    (h5 : ¬ s < 0 → s ≤ 3 → ¬ σ.1 74 0 (s.toNat) = (-1) → ¬ i < 0 → i < σ.1 75 0 (s.toNat) → σ.1 74 0 (s.toNat) = 0 → Q (some (.inl 1)) (zU σ 76 0 ((zW ((zW (40 * s)) + i)).toNat) ((v + 128) % 256 - 128)))
    (h6 : ¬ s < 0 → s ≤ 3 → ¬ σ.1 74 0 (s.toNat) = (-1) → ¬ i < 0 → ¬ i < σ.1 75 0 (s.toNat) → Q (some (.inl (-12))) σ)
    (h7 : ¬ s < 0 → s ≤ 3 → σ.1 74 0 (s.toNat) = (-1) → Q (some (.inl (-11))) σ)
    (h8 : ¬ s < 0 → ¬ s ≤ 3 → Q (some (.inl (-2))) σ) :
    zM (d + 3) 185 [.inr (.inr (10, 0)), .inl s, .inl i, .inl v] σ Q := by
  refine zX_run (n' := 1) (ls' := [some (.inr (.inr (10, 0))), some (.inl s), some (.inl i), some (.inl v)]) (st' := [.inl s]) (σ' := σ) 1 rfl ?_
  refine zX_i2 rfl (fun a1 => ?_) (fun a1 => ?_)
  · skip
    refine zX_run (n' := 6) (ls' := [some (.inr (.inr (10, 0))), some (.inl s), some (.inl i), some (.inl v)]) (st' := [.inl (-2)]) (σ' := σ) 1 rfl ?_
    exact zX_ret rfl rfl (h1 a1)
  · skip
    refine zX_run (n' := 4) (ls' := [some (.inr (.inr (10, 0))), some (.inl s), some (.inl i), some (.inl v)]) (st' := [.inl 3, .inl s]) (σ' := σ) 2 rfl ?_
    refine zX_c5 rfl (fun a2 => ?_) (fun a2 => ?_)
    · skip
      refine zX_run (n' := 10) (ls' := [some (.inr (.inr (10, 0))), some (.inl s), some (.inl i), some (.inl v)]) (st' := [.inl s, .inr (.inr (74, 0))]) (σ' := σ) 3 rfl ?_
      refine zX_ald1 (L := 4) rfl (by decide) rfl (o1 a1 a2) ?_
      refine zX_run (n' := 12) (ls' := [some (.inr (.inr (10, 0))), some (.inl s), some (.inl i), some (.inl v)]) (st' := [.inl (-1), .inl (σ.1 74 0 (s.toNat))]) (σ' := σ) 1 rfl ?_
      refine zX_c1 rfl (fun a3 => ?_) (fun a3 => ?_)
      · skip
        refine zX_run (n' := 16) (ls' := [some (.inr (.inr (10, 0))), some (.inl s), some (.inl i), some (.inl v)]) (st' := [.inl i]) (σ' := σ) 1 rfl ?_
        refine zX_i2 rfl (fun a4 => ?_) (fun a4 => ?_)
        · skip
          refine zX_run (n' := 24) (ls' := [some (.inr (.inr (10, 0))), some (.inl s), some (.inl i), some (.inl v)]) (st' := [.inl (-12)]) (σ' := σ) 1 rfl ?_
          exact zX_ret rfl rfl (h2 a1 a2 a3 a4)
        · skip
          refine zX_run (n' := 21) (ls' := [some (.inr (.inr (10, 0))), some (.inl s), some (.inl i), some (.inl v)]) (st' := [.inl s, .inr (.inr (75, 0)), .inl i]) (σ' := σ) 4 rfl ?_
          refine zX_ald1 (L := 4) rfl (by decide) rfl (o1 a1 a2) ?_
          refine zX_c2 rfl (fun a5 => ?_) (fun a5 => ?_)
          · skip
            refine zX_run (n' := 35) (ls' := [some (.inr (.inr (10, 0))), some (.inl s), some (.inl i), some (.inl v)]) (st' := [.inl s, .inr (.inr (74, 0)), .inl (zW ((zW (40 * s)) + i)), .inr (.inr (76, 0))]) (σ' := σ) 10 rfl ?_
            refine zX_ald1 (L := 4) rfl (by decide) rfl (o1 a1 a2) ?_
            refine zX_i1 rfl (fun a6 => ?_) (fun a6 => ?_)
            · skip
              refine zX_run (n' := 43) (ls' := [some (.inr (.inr (10, 0))), some (.inl s), some (.inl i), some (.inl v)]) (st' := [.inl s, .inr (.inr (74, 0)), .inl (zW ((zW (40 * s)) + i)), .inr (.inr (76, 0))]) (σ' := σ) 3 rfl ?_
              refine zX_ald1 (L := 4) rfl (by decide) rfl (o1 a1 a2) ?_
              refine zX_run (n' := 45) (ls' := [some (.inr (.inr (10, 0))), some (.inl s), some (.inl i), some (.inl v)]) (st' := [.inl 1, .inl (σ.1 74 0 (s.toNat)), .inl (zW ((zW (40 * s)) + i)), .inr (.inr (76, 0))]) (σ' := σ) 1 rfl ?_
              refine zX_c1 rfl (fun a7 => ?_) (fun a7 => ?_)
              · skip
                refine zX_run (n' := 50) (ls' := [some (.inr (.inr (10, 0))), some (.inl s), some (.inl i), some (.inl v)]) (st' := [.inl v, .inl (zW ((zW (40 * s)) + i)), .inr (.inr (76, 0))]) (σ' := σ) 1 rfl ?_
                refine zX_ast1 (L := 160) rfl (by decide) rfl (o2 a1 a2 a3 a4 a5 a6 a7) ?_
                refine zX_run (n' := 52) (ls' := [some (.inr (.inr (10, 0))), some (.inl s), some (.inl i), some (.inl v)]) (st' := [.inl 1]) (σ' := (zU σ 76 0 ((zW ((zW (40 * s)) + i)).toNat) v)) 1 rfl ?_
                exact zX_ret rfl rfl (h3 a1 a2 a3 a4 a5 a6 a7)
              · skip
                refine zX_run (n' := 50) (ls' := [some (.inr (.inr (10, 0))), some (.inl s), some (.inl i), some (.inl v)]) (st' := [.inl ((v + 32768) % 65536 - 32768), .inl (zW ((zW (40 * s)) + i)), .inr (.inr (76, 0))]) (σ' := σ) 3 rfl ?_
                refine zX_ast1 (L := 160) rfl (by decide) rfl (o3 a1 a2 a3 a4 a5 a6 a7) ?_
                refine zX_run (n' := 52) (ls' := [some (.inr (.inr (10, 0))), some (.inl s), some (.inl i), some (.inl v)]) (st' := [.inl 1]) (σ' := (zU σ 76 0 ((zW ((zW (40 * s)) + i)).toNat) ((v + 32768) % 65536 - 32768))) 1 rfl ?_
                exact zX_ret rfl rfl (h4 a1 a2 a3 a4 a5 a6 a7)
            · skip
              refine zX_run (n' := 50) (ls' := [some (.inr (.inr (10, 0))), some (.inl s), some (.inl i), some (.inl v)]) (st' := [.inl ((v + 128) % 256 - 128), .inl (zW ((zW (40 * s)) + i)), .inr (.inr (76, 0))]) (σ' := σ) 3 rfl ?_
              refine zX_ast1 (L := 160) rfl (by decide) rfl (o4 a1 a2 a3 a4 a5 a6) ?_
              refine zX_run (n' := 52) (ls' := [some (.inr (.inr (10, 0))), some (.inl s), some (.inl i), some (.inl v)]) (st' := [.inl 1]) (σ' := (zU σ 76 0 ((zW ((zW (40 * s)) + i)).toNat) ((v + 128) % 256 - 128))) 1 rfl ?_
              exact zX_ret rfl rfl (h5 a1 a2 a3 a4 a5 a6)
          · skip
            refine zX_run (n' := 24) (ls' := [some (.inr (.inr (10, 0))), some (.inl s), some (.inl i), some (.inl v)]) (st' := [.inl (-12)]) (σ' := σ) 1 rfl ?_
            exact zX_ret rfl rfl (h6 a1 a2 a3 a4 a5)
      · skip
        refine zX_run (n' := 14) (ls' := [some (.inr (.inr (10, 0))), some (.inl s), some (.inl i), some (.inl v)]) (st' := [.inl (-11)]) (σ' := σ) 1 rfl ?_
        exact zX_ret rfl rfl (h7 a1 a2 a3)
    · skip
      refine zX_run (n' := 6) (ls' := [some (.inr (.inr (10, 0))), some (.inl s), some (.inl i), some (.inl v)]) (st' := [.inl (-2)]) (σ' := σ) 1 rfl ?_
      exact zX_ret rfl rfl (h8 a1 a2)
theorem rBase_32 {σ : zS} {a b : Nat} {c : Int} (B : rBase σ) : rBase (zU σ 32 a b c) := B
theorem rBase_76 {σ : zS} {a b : Nat} {c : Int} (B : rBase σ) : rBase (zU σ 76 a b c) := B
theorem ifo4 {K a b i j : Nat} {x y : Int} : (if K = K ∧ j = i ∧ 4 * 0 + a = 4 * 0 + b then x else y) = if a = b ∧ j = i then x else y := by
  by_cases e : a = b ∧ j = i
  · rw [if_pos ⟨rfl, e.2, by rw [e.1]⟩, if_pos e]
  · rw [if_neg (fun q => e ⟨by have := q.2.2; omega, q.2.1⟩), if_neg e]
theorem yr_cell {σ : zS} (R : yRel σ) {s i : Nat} {w : Int} (hs : s < 4) (hi : i < 40) : yRel (zU (zU σ 32 (4 * 0 + s) i w) 76 0 (40 * s + i) w) := by
  obtain ⟨S, G, L, H, C, Tx, Ru, K, Tp, Sh, B⟩ := R
  refine ⟨S, G, L, H, C, Tx, Ru, K, Tp, fun t ht => ?_, rBase_76 (rBase_32 B)⟩
  obtain ⟨h1, h2, h3, h4, h5⟩ := Sh t ht
  refine ⟨h1, h2, h3, h4, fun j hj => ?_⟩
  show (if 32 = 32 ∧ j = i ∧ 4 * 0 + t = 4 * 0 + s then w else σ.1 32 (4 * 0 + t) j) = (if 76 = 76 ∧ 40 * t + j = 40 * s + i ∧ 0 = 0 then w else σ.1 76 0 (40 * t + j))
  rw [ifo4, ifk]
  by_cases e : t = s ∧ j = i
  · rw [if_pos e, if_pos (by omega)]
  · rw [if_neg e, if_neg (by omega)]; exact h5 j hj
theorem z40 {s i : Nat} (hs : s < 4) (hi : i < 40) : zW ((zW (40 * (s : Int))) + (i : Int)) = ((40 * s + i : Nat) : Int) := by unfold zW; omega
theorem yp_cell {d : Nat} {σ : zS} (R : yRel σ) (s i v : Int) : yPi d 100 185 [.inl s, .inl i, .inl v] σ := by
  have Sh := R.2.2.2.2.2.2.2.2.2.1
  by_cases a : 0 ≤ s ∧ s ≤ 3
  · obtain ⟨s, rfl⟩ := Int.eq_ofNat_of_zero_le a.1
    obtain ⟨h1, h2, h3, h4, -⟩ := Sh s (by omega)
    have h1 : σ.1 6 (4 * 0 + (s : Int).toNat) 1 = σ.1 74 0 s := h1
    have h3 : σ.1 6 (4 * 0 + (s : Int).toNat) 2 = σ.1 75 0 s := h3
    have k1 : σ.1 74 0 (s : Int).toNat = σ.1 74 0 s := rfl
    have k2 : σ.1 75 0 (s : Int).toNat = σ.1 75 0 s := rfl
    by_cases b : 0 ≤ i ∧ i < σ.1 75 0 s
    · obtain ⟨i, rfl⟩ := Int.eq_ofNat_of_zero_le b.1
      have s0 : (0 : Int) ≤ (s : Int) ∧ (s : Int) < 4 := by omega
      have i0 : (0 : Int) ≤ (i : Int) ∧ (i : Int) < 40 := by omega
      have n1 : ¬ (i : Int) < 0 := by omega
      have n2 : ¬ σ.1 6 (4 * 0 + (s : Int).toNat) 2 ≤ (i : Int) := by omega
      have n3 : ¬ (s : Int) < 0 := by omega
      have s1 : s < 4 := by omega
      have i1 : i < 40 := by omega
      have zz : (0 : Int) ≤ ((40 * s + i : Nat) : Int) ∧ ((40 * s + i : Nat) : Int) < 160 := by omega
      clear h3 k1 k2 h2 h4
      have z := z40 (s := s) (i := i) s1 i1
      have F := fun w => yr_cell R (s := s) (i := i) (w := w) s1 i1
      have z2 : 0 ≤ zW ((zW (40 * (s : Int))) + (i : Int)) ∧ zW ((zW (40 * (s : Int))) + (i : Int)) < 160 := by rw [z]; exact zz
      refine zb_100 (d := d + 46) (fun _ => s0) (fun _ _ _ _ _ _ => i0) (fun _ _ _ _ _ _ => i0) (fun _ _ _ _ _ => i0) (fun _ _ q => absurd q n1) (fun _ _ _ q => absurd q n2) (fun _ x _ _ y w => ?_) (fun _ x _ _ y w => ?_) (fun _ x _ _ y => ?_) (fun _ x => ?_) (fun q => absurd a q)
      · refine zb_185 (d := d + 57) (fun _ _ => s0) (fun _ _ _ _ _ _ _ => z2) (fun _ _ _ _ _ _ _ => z2) (fun _ _ _ _ _ _ => z2) (fun q => absurd q n3) (fun _ _ _ q => absurd q n1) (fun _ _ _ _ _ _ _ => ?_) (fun _ _ _ _ _ _ q => absurd (h1.trans q) w) (fun _ _ _ _ _ q => absurd (h1.trans q) y) (fun _ _ _ _ q => absurd b.2 q) (fun _ _ q => absurd (h1.trans q) x) (fun _ q => absurd a.2 q)
        rw [z]; exact ⟨⟨_, rfl, rfl⟩, F v⟩
      · refine zb_185 (d := d + 57) (fun _ _ => s0) (fun _ _ _ _ _ _ _ => z2) (fun _ _ _ _ _ _ _ => z2) (fun _ _ _ _ _ _ => z2) (fun q => absurd q n3) (fun _ _ _ q => absurd q n1) (fun _ _ _ _ _ _ q => absurd (h1.symm.trans w) q) (fun _ _ _ _ _ _ _ => ?_) (fun _ _ _ _ _ q => absurd (h1.trans q) y) (fun _ _ _ _ q => absurd b.2 q) (fun _ _ q => absurd (h1.trans q) x) (fun _ q => absurd a.2 q)
        rw [z]; exact ⟨⟨_, rfl, rfl⟩, F _⟩
      · refine zb_185 (d := d + 57) (fun _ _ => s0) (fun _ _ _ _ _ _ _ => z2) (fun _ _ _ _ _ _ _ => z2) (fun _ _ _ _ _ _ => z2) (fun q => absurd q n3) (fun _ _ _ q => absurd q n1) (fun _ _ _ _ _ q _ => absurd (h1.symm.trans y) q) (fun _ _ _ _ _ q _ => absurd (h1.symm.trans y) q) (fun _ _ _ _ _ _ => ?_) (fun _ _ _ _ q => absurd b.2 q) (fun _ _ q => absurd (h1.trans q) x) (fun _ q => absurd a.2 q)
        rw [z]; exact ⟨⟨_, rfl, rfl⟩, F _⟩
      · exact zb_185 (d := d + 57) (fun _ _ => s0) (fun _ _ _ _ _ _ _ => z2) (fun _ _ _ _ _ _ _ => z2) (fun _ _ _ _ _ _ => z2) (fun q => absurd q n3) (fun _ _ q _ => absurd (h1.symm.trans x) q) (fun _ _ q _ _ _ _ => absurd (h1.symm.trans x) q) (fun _ _ q _ _ _ _ => absurd (h1.symm.trans x) q) (fun _ _ q _ _ _ => absurd (h1.symm.trans x) q) (fun _ _ q _ _ => absurd (h1.symm.trans x) q) (fun _ _ _ => ⟨⟨_, rfl, rfl⟩, R⟩) (fun _ q => absurd a.2 q)
    · have nb : ∀ {p : Prop}, ¬ i < 0 → i < σ.1 75 0 (s : Int).toNat → p := fun x y => absurd (show 0 ≤ i ∧ i < σ.1 75 0 s from ⟨by omega, y⟩) b
      have nc : ∀ {p : Prop}, ¬ i < 0 → ¬ σ.1 6 (4 * 0 + (s : Int).toNat) 2 ≤ i → p := fun x y => absurd (show 0 ≤ i ∧ i < σ.1 75 0 s by omega) b
      have far : ¬ σ.1 74 0 s = -1 → zM (d + 60) 185 [.inr (.inr (10, 0)), .inl (s : Int), .inl i, .inl v] σ (fun b s' => (∃ v : Int, (some (.inl (-12)) : Option zV) = some (.inl v) ∧ b = some (.inl v)) ∧ yRel s') := fun x =>
        zb_185 (d := d + 57) (fun _ _ => by omega) (fun _ _ _ p q _ _ => nb p q) (fun _ _ _ p q _ _ => nb p q) (fun _ _ _ p q _ => nb p q) (fun q => absurd q (by omega)) (fun _ _ _ _ => ⟨⟨_, rfl, rfl⟩, R⟩) (fun _ _ _ p q _ _ => nb p q) (fun _ _ _ p q _ _ => nb p q) (fun _ _ _ p q _ => nb p q) (fun _ _ _ _ _ => ⟨⟨_, rfl, rfl⟩, R⟩) (fun _ _ q => absurd q x) (fun _ q => absurd a.2 q)
      refine zb_100 (d := d + 46) (fun _ => by omega) (fun _ _ p q _ _ => nc p q) (fun _ _ p q _ _ => nc p q) (fun _ _ p q _ => nc p q) (fun _ x _ => far (fun y => x (h1.trans y))) (fun _ x _ _ => far (fun y => x (h1.trans y))) (fun _ _ p q _ _ => nc p q) (fun _ _ p q _ _ => nc p q) (fun _ _ p q _ => nc p q) (fun _ x => ?_) (fun q => absurd a q)
      exact zb_185 (d := d + 57) (fun _ _ => by omega) (fun _ _ _ p q _ _ => nb p q) (fun _ _ _ p q _ _ => nb p q) (fun _ _ _ p q _ => nb p q) (fun q => absurd q (by omega)) (fun _ _ q _ => absurd (h1.symm.trans x) q) (fun _ _ _ p q _ _ => nb p q) (fun _ _ _ p q _ _ => nb p q) (fun _ _ _ p q _ => nb p q) (fun _ _ q _ _ => absurd (h1.symm.trans x) q) (fun _ _ _ => ⟨⟨_, rfl, rfl⟩, R⟩) (fun _ q => absurd a.2 q)
  · refine zb_100 (d := d + 46) (fun q => absurd q a) (fun q _ _ _ _ _ => absurd q a) (fun q _ _ _ _ _ => absurd q a) (fun q _ _ _ _ => absurd q a) (fun q _ _ => absurd q a) (fun q _ _ _ => absurd q a) (fun q _ _ _ _ _ => absurd q a) (fun q _ _ _ _ _ => absurd q a) (fun q _ _ _ _ => absurd q a) (fun q _ => absurd q a) (fun _ => ?_)
    have na : ∀ {p : Prop}, ¬ s < 0 → s ≤ 3 → p := fun x y => absurd (show 0 ≤ s ∧ s ≤ 3 by omega) a
    exact zb_185 (d := d + 57) (fun x y => na x y) (fun x y _ _ _ _ _ => na x y) (fun x y _ _ _ _ _ => na x y) (fun x y _ _ _ _ => na x y) (fun _ => ⟨⟨_, rfl, rfl⟩, R⟩) (fun x y _ _ => na x y) (fun x y _ _ _ _ _ => na x y) (fun x y _ _ _ _ _ => na x y) (fun x y _ _ _ _ => na x y) (fun x y _ _ _ => na x y) (fun x y _ => na x y) (fun _ _ => ⟨⟨_, rfl, rfl⟩, R⟩)
