-- the reference, small methods (wip/whole/gen/laws20.py)
theorem zs_119 {d : Nat} {σ : zS} {Q : Option zV → zS → Prop} {p1 : Int} 
    (h1 : 0 ≤ p1 ∧ p1 < 7 → Q (some (.inl 1)) σ) (h2 : ¬ (0 ≤ p1 ∧ p1 < 7) → Q (some (.inl 0)) σ) :
    zM d 119 [.inl p1] σ Q :=
  zm_119 (fun a0 => h2 (by omega)) (fun a0 a1 => h2 (by omega)) (fun a0 a1 => h1 (by omega))
theorem zs_120 {d : Nat} {σ : zS} {Q : Option zV → zS → Prop} {p1 : Int} 
    (h1 : 0 ≤ p1 ∧ p1 < 96 → Q (some (.inl 1)) σ) (h2 : ¬ (0 ≤ p1 ∧ p1 < 96) → Q (some (.inl 0)) σ) :
    zM d 120 [.inl p1] σ Q :=
  zm_120 (fun a0 => h2 (by omega)) (fun a0 a1 => h2 (by omega)) (fun a0 a1 => h1 (by omega))
theorem zs_121 {d : Nat} {σ : zS} {Q : Option zV → zS → Prop} {p1 : Int} 
    (h1 : 0 ≤ p1 ∧ p1 < σ.1 10 0 4 → Q (some (.inl 1)) σ) (h2 : ¬ (0 ≤ p1 ∧ p1 < σ.1 10 0 4) → Q (some (.inl 0)) σ) :
    zM d 121 [.inr (.inr (10, 0)), .inl p1] σ Q :=
  zm_121 (fun a0 => h2 (by omega)) (fun a0 a1 => h2 (by omega)) (fun a0 a1 => h1 (by omega))
theorem zs_133 {d : Nat} {σ : zS} {Q : Option zV → zS → Prop} {p1 p2 : Int} 
    (h1 : 0 ≤ p1 ∧ p1 ≤ p2 ∧ p2 ≤ 96 → Q (some (.inl 1)) σ) (h2 : ¬ (0 ≤ p1 ∧ p1 ≤ p2 ∧ p2 ≤ 96) → Q (some (.inl 0)) σ) :
    zM d 133 [.inl p1, .inl p2] σ Q :=
  zm_133 (fun a0 => h2 (by omega)) (fun a0 a1 => h2 (by omega)) (fun a0 a1 a2 => h2 (by omega)) (fun a0 a1 a2 => h1 (by omega))
theorem zs_130 {d : Nat} {σ : zS} {Q : Option zV → zS → Prop} {p1 p2 p3 p4 p5 : Int} 
    (h1 : (0 ≤ p1 ∧ p1 ≤ 5) ∧ (0 ≤ p2 ∧ p2 ≤ 3) ∧ (0 ≤ p3 ∧ p3 ≤ 6) ∧ (0 ≤ p4 ∧ p4 ≤ 9999 ∧ (p1 = 2 → p4 ≤ 100)) ∧ 0 ≤ p5 ∧ p5 ≤ 9999 → Q (some (.inl 1)) σ) (h2 : ¬ ((0 ≤ p1 ∧ p1 ≤ 5) ∧ (0 ≤ p2 ∧ p2 ≤ 3) ∧ (0 ≤ p3 ∧ p3 ≤ 6) ∧ (0 ≤ p4 ∧ p4 ≤ 9999 ∧ (p1 = 2 → p4 ≤ 100)) ∧ 0 ≤ p5 ∧ p5 ≤ 9999) → Q (some (.inl 0)) σ) :
    zM (d + 1) 130 [.inl p1, .inl p2, .inl p3, .inl p4, .inl p5] σ Q :=
  zm_130 (fun a0 => h2 (by omega)) (fun a0 a1 => h2 (by omega)) (fun a0 a1 a2 => h2 (by omega)) (fun a0 a1 a2 a3 => h2 (by omega)) (fun a0 a1 a2 a3 a4 => h2 (by omega)) (fun a0 a1 a2 a3 a4 a5 => h2 (by omega)) (fun a0 a1 a2 a3 a4 a5 a6 => h2 (by omega)) (fun a0 a1 a2 a3 a4 a5 a6 a7 a8 => h2 (by omega)) (fun a0 a1 a2 a3 a4 a5 a6 a7 a8 a9 => h2 (by omega)) (fun a0 a1 a2 a3 a4 a5 a6 a7 a8 a9 a10 => h2 (by omega)) (fun a0 a1 a2 a3 a4 a5 a6 a7 a8 a9 a10 => h1 (by omega)) (fun a0 a1 a2 a3 a4 a5 a6 a7 a8 => h2 (by omega)) (fun a0 a1 a2 a3 a4 a5 a6 a7 a8 a9 => h2 (by omega)) (fun a0 a1 a2 a3 a4 a5 a6 a7 a8 a9 a10 => h2 (by omega)) (fun a0 a1 a2 a3 a4 a5 a6 a7 a8 a9 a10 => h1 (by omega))
theorem zs_170 {d : Nat} {σ : zS} {Q : Option zV → zS → Prop} {p1 p2 p3 : Int} 
    (h1 : (0 ≤ p1 ∧ p1 < 7) ∧ (0 ≤ p2 ∧ p2 ≤ 9999999) ∧ 1 ≤ p3 ∧ p3 ≤ 60 → Q (some (.inl 1)) σ) (h2 : ¬ ((0 ≤ p1 ∧ p1 < 7) ∧ (0 ≤ p2 ∧ p2 ≤ 9999999) ∧ 1 ≤ p3 ∧ p3 ≤ 60) → Q (some (.inl 0)) σ) :
    zM (d + 1) 170 [.inl p1, .inl p2, .inl p3] σ Q :=
  zm_170 (fun a0 => h2 (by omega)) (fun a0 a1 => h2 (by omega)) (fun a0 a1 a2 => h2 (by omega)) (fun a0 a1 a2 a3 => h2 (by omega)) (fun a0 a1 a2 a3 a4 => h2 (by omega)) (fun a0 a1 a2 a3 a4 a5 => h2 (by omega)) (fun a0 a1 a2 a3 a4 a5 => h1 (by omega))
-- X10_rank
theorem zb_135 {d : Nat} {σ : zS} {Q : Option zV → zS → Prop} {p : Int}
    (o1 : (0 : Int) ≤ p ∧ p < (17 : Int))
    (h1 : σ.1 60 0 (p.toNat) < 2 ∨ 5 < σ.1 60 0 (p.toNat) → Q (some (.inl (σ.1 64 0 (p.toNat)))) σ)
    (h2 : σ.1 60 0 (p.toNat) = 2 → Q (some (.inl 0)) σ)
    (h3 : σ.1 60 0 (p.toNat) = 3 → Q (some (.inl (zW ((σ.1 64 0 (p.toNat)) - 1000)))) σ)
    (h4 : σ.1 60 0 (p.toNat) = 4 → Q (some (.inl (zW ((σ.1 64 0 (p.toNat)) + 1)))) σ)
    (h5 : σ.1 60 0 (p.toNat) = 5 → Q (some (.inl (zW ((σ.1 64 0 (p.toNat)) - 2000)))) σ) :
    zM (d + 0) 135 [.inr (.inr (10, 0)), .inl p] σ Q := by
  refine zX_run (n' := 3) (ls' := [some (.inr (.inr (10, 0))), some (.inl p)]) (st' := [.inl p, .inr (.inr (60, 0))]) (σ' := σ) 3 rfl ?_
  refine zX_ald1 (L := 17) rfl (by decide) rfl o1 ?_
  refine zX_sw rfl (fun a1 => ?_) ⟨fun a1 => ?_, fun a1 => ?_, fun a1 => ?_, fun a1 => ?_, trivial⟩
  · skip
    refine zX_run (n' := 31) (ls' := [some (.inr (.inr (10, 0))), some (.inl p)]) (st' := [.inl p, .inr (.inr (64, 0))]) (σ' := σ) 3 rfl ?_
    refine zX_ald1 (L := 17) rfl (by decide) rfl o1 ?_
    exact zX_ret rfl rfl (h1 a1)
  · skip
    refine zX_run (n' := 6) (ls' := [some (.inr (.inr (10, 0))), some (.inl p)]) (st' := [.inl 0]) (σ' := σ) 1 rfl ?_
    exact zX_ret rfl rfl (h2 a1)
  · skip
    refine zX_run (n' := 10) (ls' := [some (.inr (.inr (10, 0))), some (.inl p)]) (st' := [.inl p, .inr (.inr (64, 0))]) (σ' := σ) 3 rfl ?_
    refine zX_ald1 (L := 17) rfl (by decide) rfl o1 ?_
    refine zX_run (n' := 13) (ls' := [some (.inr (.inr (10, 0))), some (.inl p)]) (st' := [.inl (zW ((σ.1 64 0 (p.toNat)) - 1000))]) (σ' := σ) 2 rfl ?_
    exact zX_ret rfl rfl (h3 a1)
  · skip
    refine zX_run (n' := 17) (ls' := [some (.inr (.inr (10, 0))), some (.inl p)]) (st' := [.inl p, .inr (.inr (64, 0))]) (σ' := σ) 3 rfl ?_
    refine zX_ald1 (L := 17) rfl (by decide) rfl o1 ?_
    refine zX_run (n' := 20) (ls' := [some (.inr (.inr (10, 0))), some (.inl p)]) (st' := [.inl (zW ((σ.1 64 0 (p.toNat)) + 1))]) (σ' := σ) 2 rfl ?_
    exact zX_ret rfl rfl (h4 a1)
  · skip
    refine zX_run (n' := 24) (ls' := [some (.inr (.inr (10, 0))), some (.inl p)]) (st' := [.inl p, .inr (.inr (64, 0))]) (σ' := σ) 3 rfl ?_
    refine zX_ald1 (L := 17) rfl (by decide) rfl o1 ?_
    refine zX_run (n' := 27) (ls' := [some (.inr (.inr (10, 0))), some (.inl p)]) (st' := [.inl (zW ((σ.1 64 0 (p.toNat)) - 2000))]) (σ' := σ) 2 rfl ?_
    exact zX_ret rfl rfl (h5 a1)
theorem zs_135 {d : Nat} {σ : zS} {Q : Option zV → zS → Prop} {p : Int} (o1 : 0 ≤ p ∧ p < 17)
    (h : Q (some (.inl (uRank (σ.1 60 0 p.toNat) (σ.1 64 0 p.toNat)))) σ) :
    zM d 135 [.inr (.inr (10, 0)), .inl p] σ Q := by
  refine zb_135 (by omega) (fun a0 => ?_) (fun a0 => ?_) (fun a0 => ?_) (fun a0 => ?_) (fun a0 => ?_)
  all_goals
    refine zQ_i h ?_
    unfold uRank
    repeat' split
    all_goals first | rfl | omega | (exfalso; omega)
-- X10_hundredths
theorem zb_136 {d : Nat} {σ : zS} {Q : Option zV → zS → Prop} {p : Int}
    (o1 : (0 : Int) ≤ p ∧ p < (17 : Int))
    (h1 : σ.1 60 0 (p.toNat) < 0 ∨ 4 < σ.1 60 0 (p.toNat) → Q (some (.inl 50)) σ)
    (h2 : σ.1 60 0 (p.toNat) = 0 → Q (some (.inl 0)) σ)
    (h3 : σ.1 60 0 (p.toNat) = 1 → Q (some (.inl 40)) σ)
    (h4 : σ.1 60 0 (p.toNat) = 2 → Q (some (.inl 20)) σ)
    (h5 : σ.1 60 0 (p.toNat) = 3 → Q (some (.inl 50)) σ)
    (h6 : σ.1 60 0 (p.toNat) = 4 → Q (some (.inl 20)) σ) :
    zM (d + 0) 136 [.inr (.inr (10, 0)), .inl p] σ Q := by
  refine zX_run (n' := 3) (ls' := [some (.inr (.inr (10, 0))), some (.inl p)]) (st' := [.inl p, .inr (.inr (60, 0))]) (σ' := σ) 3 rfl ?_
  refine zX_ald1 (L := 17) rfl (by decide) rfl o1 ?_
  refine zX_sw rfl (fun a1 => ?_) ⟨fun a1 => ?_, fun a1 => ?_, fun a1 => ?_, fun a1 => ?_, fun a1 => ?_, trivial⟩
  · skip
    refine zX_run (n' := 14) (ls' := [some (.inr (.inr (10, 0))), some (.inl p)]) (st' := [.inl 50]) (σ' := σ) 1 rfl ?_
    exact zX_ret rfl rfl (h1 a1)
  · skip
    refine zX_run (n' := 6) (ls' := [some (.inr (.inr (10, 0))), some (.inl p)]) (st' := [.inl 0]) (σ' := σ) 1 rfl ?_
    exact zX_ret rfl rfl (h2 a1)
  · skip
    refine zX_run (n' := 8) (ls' := [some (.inr (.inr (10, 0))), some (.inl p)]) (st' := [.inl 40]) (σ' := σ) 1 rfl ?_
    exact zX_ret rfl rfl (h3 a1)
  · skip
    refine zX_run (n' := 10) (ls' := [some (.inr (.inr (10, 0))), some (.inl p)]) (st' := [.inl 20]) (σ' := σ) 1 rfl ?_
    exact zX_ret rfl rfl (h4 a1)
  · skip
    refine zX_run (n' := 14) (ls' := [some (.inr (.inr (10, 0))), some (.inl p)]) (st' := [.inl 50]) (σ' := σ) 1 rfl ?_
    exact zX_ret rfl rfl (h5 a1)
  · skip
    refine zX_run (n' := 12) (ls' := [some (.inr (.inr (10, 0))), some (.inl p)]) (st' := [.inl 20]) (σ' := σ) 1 rfl ?_
    exact zX_ret rfl rfl (h6 a1)
theorem zs_136 {d : Nat} {σ : zS} {Q : Option zV → zS → Prop} {p : Int} (o1 : 0 ≤ p ∧ p < 17)
    (h : Q (some (.inl (uHun (σ.1 60 0 p.toNat)))) σ) :
    zM d 136 [.inr (.inr (10, 0)), .inl p] σ Q := by
  refine zb_136 (by omega) (fun a0 => ?_) (fun a0 => ?_) (fun a0 => ?_) (fun a0 => ?_) (fun a0 => ?_) (fun a0 => ?_)
  all_goals
    refine zQ_i h ?_
    unfold uHun
    repeat' split
    all_goals first | rfl | omega | (exfalso; omega)
-- X10_asks
theorem zb_138 {d : Nat} {σ : zS} {Q : Option zV → zS → Prop} {p : Int} {m : Int}
    (o1 : (0 : Int) ≤ p ∧ p < (17 : Int))
    (o2 : zW (m - zW (zW (m.tdiv 12) * 12)) ≤ 2 → σ.1 60 0 (p.toNat) = 2 → (0 : Int) ≤ zW ((zW (7 * m)) + (σ.1 62 0 (p.toNat))) ∧ zW ((zW (7 * m)) + (σ.1 62 0 (p.toNat))) < (672 : Int))
    (o3 : ¬ zW (m - zW (zW (m.tdiv 12) * 12)) ≤ 2 → 9 ≤ zW (m - zW (zW (m.tdiv 12) * 12)) → σ.1 60 0 (p.toNat) = 2 → (0 : Int) ≤ zW ((zW (7 * m)) + (σ.1 62 0 (p.toNat))) ∧ zW ((zW (7 * m)) + (σ.1 62 0 (p.toNat))) < (672 : Int))
    (o4 : ¬ zW (m - zW (zW (m.tdiv 12) * 12)) ≤ 2 → ¬ 9 ≤ zW (m - zW (zW (m.tdiv 12) * 12)) → σ.1 60 0 (p.toNat) = 2 → (0 : Int) ≤ zW ((zW (7 * m)) + (σ.1 62 0 (p.toNat))) ∧ zW ((zW (7 * m)) + (σ.1 62 0 (p.toNat))) < (672 : Int))
    (h1 : zW (m - zW (zW (m.tdiv 12) * 12)) ≤ 2 → σ.1 60 0 (p.toNat) < 1 ∨ 5 < σ.1 60 0 (p.toNat) → Q (some (.inl (σ.1 63 0 (p.toNat)))) σ)
    (h2 : zW (m - zW (zW (m.tdiv 12) * 12)) ≤ 2 → σ.1 60 0 (p.toNat) = 1 → Q (some (.inl 0)) σ)
    (h3 : zW (m - zW (zW (m.tdiv 12) * 12)) ≤ 2 → σ.1 60 0 (p.toNat) = 2 → Q (some (.inl (zW ((zW ((σ.1 63 0 (p.toNat)) * (σ.1 100 0 ((zW ((zW (7 * m)) + (σ.1 62 0 (p.toNat)))).toNat)))).tdiv 100)))) σ)
    (h4 : zW (m - zW (zW (m.tdiv 12) * 12)) ≤ 2 → σ.1 60 0 (p.toNat) = 3 → Q (some (.inl (σ.1 63 0 (p.toNat)))) σ)
    (h5 : zW (m - zW (zW (m.tdiv 12) * 12)) ≤ 2 → σ.1 60 0 (p.toNat) = 4 → Q (some (.inl 0)) σ)
    (h6 : zW (m - zW (zW (m.tdiv 12) * 12)) ≤ 2 → σ.1 60 0 (p.toNat) = 5 → zW (m - zW (zW (m.tdiv 12) * 12)) = 6 → Q (some (.inl (zW ((σ.1 63 0 (p.toNat)) + (zW ((σ.1 63 0 (p.toNat)).tdiv 2)))))) σ)
    (h7 : zW (m - zW (zW (m.tdiv 12) * 12)) ≤ 2 → σ.1 60 0 (p.toNat) = 5 → ¬ zW (m - zW (zW (m.tdiv 12) * 12)) = 6 → ¬ zW (m - zW (zW (m.tdiv 12) * 12)) = 7 → Q (some (.inl (σ.1 63 0 (p.toNat)))) σ)
    (h8 : zW (m - zW (zW (m.tdiv 12) * 12)) ≤ 2 → σ.1 60 0 (p.toNat) = 5 → ¬ zW (m - zW (zW (m.tdiv 12) * 12)) = 6 → zW (m - zW (zW (m.tdiv 12) * 12)) = 7 → Q (some (.inl (zW ((σ.1 63 0 (p.toNat)) + (zW ((σ.1 63 0 (p.toNat)).tdiv 2)))))) σ)
    (h9 : ¬ zW (m - zW (zW (m.tdiv 12) * 12)) ≤ 2 → 9 ≤ zW (m - zW (zW (m.tdiv 12) * 12)) → σ.1 60 0 (p.toNat) < 1 ∨ 5 < σ.1 60 0 (p.toNat) → Q (some (.inl (σ.1 63 0 (p.toNat)))) σ)
    (h10 : ¬ zW (m - zW (zW (m.tdiv 12) * 12)) ≤ 2 → 9 ≤ zW (m - zW (zW (m.tdiv 12) * 12)) → σ.1 60 0 (p.toNat) = 1 → Q (some (.inl 0)) σ)
    (h11 : ¬ zW (m - zW (zW (m.tdiv 12) * 12)) ≤ 2 → 9 ≤ zW (m - zW (zW (m.tdiv 12) * 12)) → σ.1 60 0 (p.toNat) = 2 → Q (some (.inl (zW ((zW ((σ.1 63 0 (p.toNat)) * (σ.1 100 0 ((zW ((zW (7 * m)) + (σ.1 62 0 (p.toNat)))).toNat)))).tdiv 100)))) σ)
    (h12 : ¬ zW (m - zW (zW (m.tdiv 12) * 12)) ≤ 2 → 9 ≤ zW (m - zW (zW (m.tdiv 12) * 12)) → σ.1 60 0 (p.toNat) = 3 → Q (some (.inl (σ.1 63 0 (p.toNat)))) σ)
    (h13 : ¬ zW (m - zW (zW (m.tdiv 12) * 12)) ≤ 2 → 9 ≤ zW (m - zW (zW (m.tdiv 12) * 12)) → σ.1 60 0 (p.toNat) = 4 → Q (some (.inl 0)) σ)
    (h14 : ¬ zW (m - zW (zW (m.tdiv 12) * 12)) ≤ 2 → 9 ≤ zW (m - zW (zW (m.tdiv 12) * 12)) → σ.1 60 0 (p.toNat) = 5 → zW (m - zW (zW (m.tdiv 12) * 12)) = 6 → Q (some (.inl (zW ((σ.1 63 0 (p.toNat)) + (zW ((σ.1 63 0 (p.toNat)).tdiv 2)))))) σ)
    (h15 : ¬ zW (m - zW (zW (m.tdiv 12) * 12)) ≤ 2 → 9 ≤ zW (m - zW (zW (m.tdiv 12) * 12)) → σ.1 60 0 (p.toNat) = 5 → ¬ zW (m - zW (zW (m.tdiv 12) * 12)) = 6 → ¬ zW (m - zW (zW (m.tdiv 12) * 12)) = 7 → Q (some (.inl (σ.1 63 0 (p.toNat)))) σ)
    (h16 : ¬ zW (m - zW (zW (m.tdiv 12) * 12)) ≤ 2 → 9 ≤ zW (m - zW (zW (m.tdiv 12) * 12)) → σ.1 60 0 (p.toNat) = 5 → ¬ zW (m - zW (zW (m.tdiv 12) * 12)) = 6 → zW (m - zW (zW (m.tdiv 12) * 12)) = 7 → Q (some (.inl (zW ((σ.1 63 0 (p.toNat)) + (zW ((σ.1 63 0 (p.toNat)).tdiv 2)))))) σ)
    (h17 : ¬ zW (m - zW (zW (m.tdiv 12) * 12)) ≤ 2 → ¬ 9 ≤ zW (m - zW (zW (m.tdiv 12) * 12)) → σ.1 60 0 (p.toNat) < 1 ∨ 5 < σ.1 60 0 (p.toNat) → Q (some (.inl (σ.1 63 0 (p.toNat)))) σ)
    (h18 : ¬ zW (m - zW (zW (m.tdiv 12) * 12)) ≤ 2 → ¬ 9 ≤ zW (m - zW (zW (m.tdiv 12) * 12)) → σ.1 60 0 (p.toNat) = 1 → Q (some (.inl (σ.1 63 0 (p.toNat)))) σ)
    (h19 : ¬ zW (m - zW (zW (m.tdiv 12) * 12)) ≤ 2 → ¬ 9 ≤ zW (m - zW (zW (m.tdiv 12) * 12)) → σ.1 60 0 (p.toNat) = 2 → Q (some (.inl (zW ((zW ((σ.1 63 0 (p.toNat)) * (σ.1 100 0 ((zW ((zW (7 * m)) + (σ.1 62 0 (p.toNat)))).toNat)))).tdiv 100)))) σ)
    (h20 : ¬ zW (m - zW (zW (m.tdiv 12) * 12)) ≤ 2 → ¬ 9 ≤ zW (m - zW (zW (m.tdiv 12) * 12)) → σ.1 60 0 (p.toNat) = 3 → Q (some (.inl (σ.1 63 0 (p.toNat)))) σ)
    (h21 : ¬ zW (m - zW (zW (m.tdiv 12) * 12)) ≤ 2 → ¬ 9 ≤ zW (m - zW (zW (m.tdiv 12) * 12)) → σ.1 60 0 (p.toNat) = 4 → Q (some (.inl (zW ((σ.1 63 0 (p.toNat)) + (zW ((σ.1 63 0 (p.toNat)).tdiv 10)))))) σ)
    (h22 : ¬ zW (m - zW (zW (m.tdiv 12) * 12)) ≤ 2 → ¬ 9 ≤ zW (m - zW (zW (m.tdiv 12) * 12)) → σ.1 60 0 (p.toNat) = 5 → zW (m - zW (zW (m.tdiv 12) * 12)) = 6 → Q (some (.inl (zW ((σ.1 63 0 (p.toNat)) + (zW ((σ.1 63 0 (p.toNat)).tdiv 2)))))) σ)
    (h23 : ¬ zW (m - zW (zW (m.tdiv 12) * 12)) ≤ 2 → ¬ 9 ≤ zW (m - zW (zW (m.tdiv 12) * 12)) → σ.1 60 0 (p.toNat) = 5 → ¬ zW (m - zW (zW (m.tdiv 12) * 12)) = 6 → ¬ zW (m - zW (zW (m.tdiv 12) * 12)) = 7 → Q (some (.inl (σ.1 63 0 (p.toNat)))) σ)
    (h24 : ¬ zW (m - zW (zW (m.tdiv 12) * 12)) ≤ 2 → ¬ 9 ≤ zW (m - zW (zW (m.tdiv 12) * 12)) → σ.1 60 0 (p.toNat) = 5 → ¬ zW (m - zW (zW (m.tdiv 12) * 12)) = 6 → zW (m - zW (zW (m.tdiv 12) * 12)) = 7 → Q (some (.inl (zW ((σ.1 63 0 (p.toNat)) + (zW ((σ.1 63 0 (p.toNat)).tdiv 2)))))) σ) :
    zM (d + 0) 138 [.inr (.inr (10, 0)), .inl p, .inl m] σ Q := by
  refine zX_run (n' := 3) (ls' := [some (.inr (.inr (10, 0))), some (.inl p), some (.inl m), none, none, none]) (st' := [.inl p, .inr (.inr (63, 0))]) (σ' := σ) 3 rfl ?_
  refine zX_ald1 (L := 17) rfl (by decide) rfl o1 ?_
  refine zX_run (n' := 11) (ls' := [some (.inr (.inr (10, 0))), some (.inl p), some (.inl m), some (.inl (σ.1 63 0 (p.toNat))), some (.inl (zW (m - zW (zW (m.tdiv 12) * 12)))), none]) (st' := [.inl 2, .inl (zW (m - zW (zW (m.tdiv 12) * 12)))]) (σ' := σ) 7 rfl ?_
  refine zX_c5 rfl (fun a1 => ?_) (fun a1 => ?_)
  · skip
    refine zX_run (n' := 22) (ls' := [some (.inr (.inr (10, 0))), some (.inl p), some (.inl m), some (.inl (σ.1 63 0 (p.toNat))), some (.inl (zW (m - zW (zW (m.tdiv 12) * 12)))), some (.inl 0)]) (st' := [.inl p, .inr (.inr (60, 0))]) (σ' := σ) 5 rfl ?_
    refine zX_ald1 (L := 17) rfl (by decide) rfl o1 ?_
    refine zX_sw rfl (fun a2 => ?_) ⟨fun a2 => ?_, fun a2 => ?_, fun a2 => ?_, fun a2 => ?_, fun a2 => ?_, trivial⟩
    · skip
      refine zX_run (n' := 63) (ls' := [some (.inr (.inr (10, 0))), some (.inl p), some (.inl m), some (.inl (σ.1 63 0 (p.toNat))), some (.inl (zW (m - zW (zW (m.tdiv 12) * 12)))), some (.inl 0)]) (st' := [.inl (σ.1 63 0 (p.toNat))]) (σ' := σ) 1 rfl ?_
      exact zX_ret rfl rfl (h1 a1 a2)
    · skip
      refine zX_run (n' := 25) (ls' := [some (.inr (.inr (10, 0))), some (.inl p), some (.inl m), some (.inl (σ.1 63 0 (p.toNat))), some (.inl (zW (m - zW (zW (m.tdiv 12) * 12)))), some (.inl 0)]) (st' := [.inl 0]) (σ' := σ) 1 rfl ?_
      exact zX_ret rfl rfl (h2 a1 a2)
    · skip
      refine zX_run (n' := 35) (ls' := [some (.inr (.inr (10, 0))), some (.inl p), some (.inl m), some (.inl (σ.1 63 0 (p.toNat))), some (.inl (zW (m - zW (zW (m.tdiv 12) * 12)))), some (.inl 0)]) (st' := [.inl p, .inr (.inr (62, 0)), .inl (zW (7 * m)), .inr (.inr (100, 0)), .inl (σ.1 63 0 (p.toNat))]) (σ' := σ) 9 rfl ?_
      refine zX_ald1 (L := 17) rfl (by decide) rfl o1 ?_
      refine zX_run (n' := 37) (ls' := [some (.inr (.inr (10, 0))), some (.inl p), some (.inl m), some (.inl (σ.1 63 0 (p.toNat))), some (.inl (zW (m - zW (zW (m.tdiv 12) * 12)))), some (.inl 0)]) (st' := [.inl (zW ((zW (7 * m)) + (σ.1 62 0 (p.toNat)))), .inr (.inr (100, 0)), .inl (σ.1 63 0 (p.toNat))]) (σ' := σ) 1 rfl ?_
      refine zX_ald1 (L := 672) rfl (by decide) rfl (o2 a1 a2) ?_
      refine zX_run (n' := 41) (ls' := [some (.inr (.inr (10, 0))), some (.inl p), some (.inl m), some (.inl (σ.1 63 0 (p.toNat))), some (.inl (zW (m - zW (zW (m.tdiv 12) * 12)))), some (.inl 0)]) (st' := [.inl (zW ((zW ((σ.1 63 0 (p.toNat)) * (σ.1 100 0 ((zW ((zW (7 * m)) + (σ.1 62 0 (p.toNat)))).toNat)))).tdiv 100))]) (σ' := σ) 3 rfl ?_
      exact zX_ret rfl rfl (h3 a1 a2)
    · skip
      refine zX_run (n' := 63) (ls' := [some (.inr (.inr (10, 0))), some (.inl p), some (.inl m), some (.inl (σ.1 63 0 (p.toNat))), some (.inl (zW (m - zW (zW (m.tdiv 12) * 12)))), some (.inl 0)]) (st' := [.inl (σ.1 63 0 (p.toNat))]) (σ' := σ) 1 rfl ?_
      exact zX_ret rfl rfl (h4 a1 a2)
    · skip
      refine zX_run (n' := 47) (ls' := [some (.inr (.inr (10, 0))), some (.inl p), some (.inl m), some (.inl (σ.1 63 0 (p.toNat))), some (.inl (zW (m - zW (zW (m.tdiv 12) * 12)))), some (.inl 0)]) (st' := [.inl 0]) (σ' := σ) 5 rfl ?_
      exact zX_ret rfl rfl (h5 a1 a2)
    · skip
      refine zX_run (n' := 50) (ls' := [some (.inr (.inr (10, 0))), some (.inl p), some (.inl m), some (.inl (σ.1 63 0 (p.toNat))), some (.inl (zW (m - zW (zW (m.tdiv 12) * 12)))), some (.inl 0)]) (st' := [.inl 6, .inl (zW (m - zW (zW (m.tdiv 12) * 12)))]) (σ' := σ) 2 rfl ?_
      refine zX_c0 rfl (fun a3 => ?_) (fun a3 => ?_)
      · skip
        refine zX_run (n' := 61) (ls' := [some (.inr (.inr (10, 0))), some (.inl p), some (.inl m), some (.inl (σ.1 63 0 (p.toNat))), some (.inl (zW (m - zW (zW (m.tdiv 12) * 12)))), some (.inl 0)]) (st' := [.inl (zW ((σ.1 63 0 (p.toNat)) + (zW ((σ.1 63 0 (p.toNat)).tdiv 2))))]) (σ' := σ) 6 rfl ?_
        exact zX_ret rfl rfl (h6 a1 a2 a3)
      · skip
        refine zX_run (n' := 53) (ls' := [some (.inr (.inr (10, 0))), some (.inl p), some (.inl m), some (.inl (σ.1 63 0 (p.toNat))), some (.inl (zW (m - zW (zW (m.tdiv 12) * 12)))), some (.inl 0)]) (st' := [.inl 7, .inl (zW (m - zW (zW (m.tdiv 12) * 12)))]) (σ' := σ) 2 rfl ?_
        refine zX_c1 rfl (fun a4 => ?_) (fun a4 => ?_)
        · skip
          refine zX_run (n' := 61) (ls' := [some (.inr (.inr (10, 0))), some (.inl p), some (.inl m), some (.inl (σ.1 63 0 (p.toNat))), some (.inl (zW (m - zW (zW (m.tdiv 12) * 12)))), some (.inl 0)]) (st' := [.inl (σ.1 63 0 (p.toNat))]) (σ' := σ) 1 rfl ?_
          exact zX_ret rfl rfl (h7 a1 a2 a3 a4)
        · skip
          refine zX_run (n' := 61) (ls' := [some (.inr (.inr (10, 0))), some (.inl p), some (.inl m), some (.inl (σ.1 63 0 (p.toNat))), some (.inl (zW (m - zW (zW (m.tdiv 12) * 12)))), some (.inl 0)]) (st' := [.inl (zW ((σ.1 63 0 (p.toNat)) + (zW ((σ.1 63 0 (p.toNat)).tdiv 2))))]) (σ' := σ) 6 rfl ?_
          exact zX_ret rfl rfl (h8 a1 a2 a3 a4)
  · skip
    refine zX_run (n' := 14) (ls' := [some (.inr (.inr (10, 0))), some (.inl p), some (.inl m), some (.inl (σ.1 63 0 (p.toNat))), some (.inl (zW (m - zW (zW (m.tdiv 12) * 12)))), none]) (st' := [.inl 9, .inl (zW (m - zW (zW (m.tdiv 12) * 12)))]) (σ' := σ) 2 rfl ?_
    refine zX_c3 rfl (fun a5 => ?_) (fun a5 => ?_)
    · skip
      refine zX_run (n' := 22) (ls' := [some (.inr (.inr (10, 0))), some (.inl p), some (.inl m), some (.inl (σ.1 63 0 (p.toNat))), some (.inl (zW (m - zW (zW (m.tdiv 12) * 12)))), some (.inl 0)]) (st' := [.inl p, .inr (.inr (60, 0))]) (σ' := σ) 5 rfl ?_
      refine zX_ald1 (L := 17) rfl (by decide) rfl o1 ?_
      refine zX_sw rfl (fun a6 => ?_) ⟨fun a6 => ?_, fun a6 => ?_, fun a6 => ?_, fun a6 => ?_, fun a6 => ?_, trivial⟩
      · skip
        refine zX_run (n' := 63) (ls' := [some (.inr (.inr (10, 0))), some (.inl p), some (.inl m), some (.inl (σ.1 63 0 (p.toNat))), some (.inl (zW (m - zW (zW (m.tdiv 12) * 12)))), some (.inl 0)]) (st' := [.inl (σ.1 63 0 (p.toNat))]) (σ' := σ) 1 rfl ?_
        exact zX_ret rfl rfl (h9 a1 a5 a6)
      · skip
        refine zX_run (n' := 25) (ls' := [some (.inr (.inr (10, 0))), some (.inl p), some (.inl m), some (.inl (σ.1 63 0 (p.toNat))), some (.inl (zW (m - zW (zW (m.tdiv 12) * 12)))), some (.inl 0)]) (st' := [.inl 0]) (σ' := σ) 1 rfl ?_
        exact zX_ret rfl rfl (h10 a1 a5 a6)
      · skip
        refine zX_run (n' := 35) (ls' := [some (.inr (.inr (10, 0))), some (.inl p), some (.inl m), some (.inl (σ.1 63 0 (p.toNat))), some (.inl (zW (m - zW (zW (m.tdiv 12) * 12)))), some (.inl 0)]) (st' := [.inl p, .inr (.inr (62, 0)), .inl (zW (7 * m)), .inr (.inr (100, 0)), .inl (σ.1 63 0 (p.toNat))]) (σ' := σ) 9 rfl ?_
        refine zX_ald1 (L := 17) rfl (by decide) rfl o1 ?_
        refine zX_run (n' := 37) (ls' := [some (.inr (.inr (10, 0))), some (.inl p), some (.inl m), some (.inl (σ.1 63 0 (p.toNat))), some (.inl (zW (m - zW (zW (m.tdiv 12) * 12)))), some (.inl 0)]) (st' := [.inl (zW ((zW (7 * m)) + (σ.1 62 0 (p.toNat)))), .inr (.inr (100, 0)), .inl (σ.1 63 0 (p.toNat))]) (σ' := σ) 1 rfl ?_
        refine zX_ald1 (L := 672) rfl (by decide) rfl (o3 a1 a5 a6) ?_
        refine zX_run (n' := 41) (ls' := [some (.inr (.inr (10, 0))), some (.inl p), some (.inl m), some (.inl (σ.1 63 0 (p.toNat))), some (.inl (zW (m - zW (zW (m.tdiv 12) * 12)))), some (.inl 0)]) (st' := [.inl (zW ((zW ((σ.1 63 0 (p.toNat)) * (σ.1 100 0 ((zW ((zW (7 * m)) + (σ.1 62 0 (p.toNat)))).toNat)))).tdiv 100))]) (σ' := σ) 3 rfl ?_
        exact zX_ret rfl rfl (h11 a1 a5 a6)
      · skip
        refine zX_run (n' := 63) (ls' := [some (.inr (.inr (10, 0))), some (.inl p), some (.inl m), some (.inl (σ.1 63 0 (p.toNat))), some (.inl (zW (m - zW (zW (m.tdiv 12) * 12)))), some (.inl 0)]) (st' := [.inl (σ.1 63 0 (p.toNat))]) (σ' := σ) 1 rfl ?_
        exact zX_ret rfl rfl (h12 a1 a5 a6)
      · skip
        refine zX_run (n' := 47) (ls' := [some (.inr (.inr (10, 0))), some (.inl p), some (.inl m), some (.inl (σ.1 63 0 (p.toNat))), some (.inl (zW (m - zW (zW (m.tdiv 12) * 12)))), some (.inl 0)]) (st' := [.inl 0]) (σ' := σ) 5 rfl ?_
        exact zX_ret rfl rfl (h13 a1 a5 a6)
      · skip
        refine zX_run (n' := 50) (ls' := [some (.inr (.inr (10, 0))), some (.inl p), some (.inl m), some (.inl (σ.1 63 0 (p.toNat))), some (.inl (zW (m - zW (zW (m.tdiv 12) * 12)))), some (.inl 0)]) (st' := [.inl 6, .inl (zW (m - zW (zW (m.tdiv 12) * 12)))]) (σ' := σ) 2 rfl ?_
        refine zX_c0 rfl (fun a7 => ?_) (fun a7 => ?_)
        · skip
          refine zX_run (n' := 61) (ls' := [some (.inr (.inr (10, 0))), some (.inl p), some (.inl m), some (.inl (σ.1 63 0 (p.toNat))), some (.inl (zW (m - zW (zW (m.tdiv 12) * 12)))), some (.inl 0)]) (st' := [.inl (zW ((σ.1 63 0 (p.toNat)) + (zW ((σ.1 63 0 (p.toNat)).tdiv 2))))]) (σ' := σ) 6 rfl ?_
          exact zX_ret rfl rfl (h14 a1 a5 a6 a7)
        · skip
          refine zX_run (n' := 53) (ls' := [some (.inr (.inr (10, 0))), some (.inl p), some (.inl m), some (.inl (σ.1 63 0 (p.toNat))), some (.inl (zW (m - zW (zW (m.tdiv 12) * 12)))), some (.inl 0)]) (st' := [.inl 7, .inl (zW (m - zW (zW (m.tdiv 12) * 12)))]) (σ' := σ) 2 rfl ?_
          refine zX_c1 rfl (fun a8 => ?_) (fun a8 => ?_)
          · skip
            refine zX_run (n' := 61) (ls' := [some (.inr (.inr (10, 0))), some (.inl p), some (.inl m), some (.inl (σ.1 63 0 (p.toNat))), some (.inl (zW (m - zW (zW (m.tdiv 12) * 12)))), some (.inl 0)]) (st' := [.inl (σ.1 63 0 (p.toNat))]) (σ' := σ) 1 rfl ?_
            exact zX_ret rfl rfl (h15 a1 a5 a6 a7 a8)
          · skip
            refine zX_run (n' := 61) (ls' := [some (.inr (.inr (10, 0))), some (.inl p), some (.inl m), some (.inl (σ.1 63 0 (p.toNat))), some (.inl (zW (m - zW (zW (m.tdiv 12) * 12)))), some (.inl 0)]) (st' := [.inl (zW ((σ.1 63 0 (p.toNat)) + (zW ((σ.1 63 0 (p.toNat)).tdiv 2))))]) (σ' := σ) 6 rfl ?_
            exact zX_ret rfl rfl (h16 a1 a5 a6 a7 a8)
    · skip
      refine zX_run (n' := 22) (ls' := [some (.inr (.inr (10, 0))), some (.inl p), some (.inl m), some (.inl (σ.1 63 0 (p.toNat))), some (.inl (zW (m - zW (zW (m.tdiv 12) * 12)))), some (.inl (σ.1 63 0 (p.toNat)))]) (st' := [.inl p, .inr (.inr (60, 0))]) (σ' := σ) 6 rfl ?_
      refine zX_ald1 (L := 17) rfl (by decide) rfl o1 ?_
      refine zX_sw rfl (fun a9 => ?_) ⟨fun a9 => ?_, fun a9 => ?_, fun a9 => ?_, fun a9 => ?_, fun a9 => ?_, trivial⟩
      · skip
        refine zX_run (n' := 63) (ls' := [some (.inr (.inr (10, 0))), some (.inl p), some (.inl m), some (.inl (σ.1 63 0 (p.toNat))), some (.inl (zW (m - zW (zW (m.tdiv 12) * 12)))), some (.inl (σ.1 63 0 (p.toNat)))]) (st' := [.inl (σ.1 63 0 (p.toNat))]) (σ' := σ) 1 rfl ?_
        exact zX_ret rfl rfl (h17 a1 a5 a9)
      · skip
        refine zX_run (n' := 25) (ls' := [some (.inr (.inr (10, 0))), some (.inl p), some (.inl m), some (.inl (σ.1 63 0 (p.toNat))), some (.inl (zW (m - zW (zW (m.tdiv 12) * 12)))), some (.inl (σ.1 63 0 (p.toNat)))]) (st' := [.inl (σ.1 63 0 (p.toNat))]) (σ' := σ) 1 rfl ?_
        exact zX_ret rfl rfl (h18 a1 a5 a9)
      · skip
        refine zX_run (n' := 35) (ls' := [some (.inr (.inr (10, 0))), some (.inl p), some (.inl m), some (.inl (σ.1 63 0 (p.toNat))), some (.inl (zW (m - zW (zW (m.tdiv 12) * 12)))), some (.inl (σ.1 63 0 (p.toNat)))]) (st' := [.inl p, .inr (.inr (62, 0)), .inl (zW (7 * m)), .inr (.inr (100, 0)), .inl (σ.1 63 0 (p.toNat))]) (σ' := σ) 9 rfl ?_
        refine zX_ald1 (L := 17) rfl (by decide) rfl o1 ?_
        refine zX_run (n' := 37) (ls' := [some (.inr (.inr (10, 0))), some (.inl p), some (.inl m), some (.inl (σ.1 63 0 (p.toNat))), some (.inl (zW (m - zW (zW (m.tdiv 12) * 12)))), some (.inl (σ.1 63 0 (p.toNat)))]) (st' := [.inl (zW ((zW (7 * m)) + (σ.1 62 0 (p.toNat)))), .inr (.inr (100, 0)), .inl (σ.1 63 0 (p.toNat))]) (σ' := σ) 1 rfl ?_
        refine zX_ald1 (L := 672) rfl (by decide) rfl (o4 a1 a5 a9) ?_
        refine zX_run (n' := 41) (ls' := [some (.inr (.inr (10, 0))), some (.inl p), some (.inl m), some (.inl (σ.1 63 0 (p.toNat))), some (.inl (zW (m - zW (zW (m.tdiv 12) * 12)))), some (.inl (σ.1 63 0 (p.toNat)))]) (st' := [.inl (zW ((zW ((σ.1 63 0 (p.toNat)) * (σ.1 100 0 ((zW ((zW (7 * m)) + (σ.1 62 0 (p.toNat)))).toNat)))).tdiv 100))]) (σ' := σ) 3 rfl ?_
        exact zX_ret rfl rfl (h19 a1 a5 a9)
      · skip
        refine zX_run (n' := 63) (ls' := [some (.inr (.inr (10, 0))), some (.inl p), some (.inl m), some (.inl (σ.1 63 0 (p.toNat))), some (.inl (zW (m - zW (zW (m.tdiv 12) * 12)))), some (.inl (σ.1 63 0 (p.toNat)))]) (st' := [.inl (σ.1 63 0 (p.toNat))]) (σ' := σ) 1 rfl ?_
        exact zX_ret rfl rfl (h20 a1 a5 a9)
      · skip
        refine zX_run (n' := 47) (ls' := [some (.inr (.inr (10, 0))), some (.inl p), some (.inl m), some (.inl (σ.1 63 0 (p.toNat))), some (.inl (zW (m - zW (zW (m.tdiv 12) * 12)))), some (.inl (σ.1 63 0 (p.toNat)))]) (st' := [.inl (zW ((σ.1 63 0 (p.toNat)) + (zW ((σ.1 63 0 (p.toNat)).tdiv 10))))]) (σ' := σ) 5 rfl ?_
        exact zX_ret rfl rfl (h21 a1 a5 a9)
      · skip
        refine zX_run (n' := 50) (ls' := [some (.inr (.inr (10, 0))), some (.inl p), some (.inl m), some (.inl (σ.1 63 0 (p.toNat))), some (.inl (zW (m - zW (zW (m.tdiv 12) * 12)))), some (.inl (σ.1 63 0 (p.toNat)))]) (st' := [.inl 6, .inl (zW (m - zW (zW (m.tdiv 12) * 12)))]) (σ' := σ) 2 rfl ?_
        refine zX_c0 rfl (fun a10 => ?_) (fun a10 => ?_)
        · skip
          refine zX_run (n' := 61) (ls' := [some (.inr (.inr (10, 0))), some (.inl p), some (.inl m), some (.inl (σ.1 63 0 (p.toNat))), some (.inl (zW (m - zW (zW (m.tdiv 12) * 12)))), some (.inl (σ.1 63 0 (p.toNat)))]) (st' := [.inl (zW ((σ.1 63 0 (p.toNat)) + (zW ((σ.1 63 0 (p.toNat)).tdiv 2))))]) (σ' := σ) 6 rfl ?_
          exact zX_ret rfl rfl (h22 a1 a5 a9 a10)
        · skip
          refine zX_run (n' := 53) (ls' := [some (.inr (.inr (10, 0))), some (.inl p), some (.inl m), some (.inl (σ.1 63 0 (p.toNat))), some (.inl (zW (m - zW (zW (m.tdiv 12) * 12)))), some (.inl (σ.1 63 0 (p.toNat)))]) (st' := [.inl 7, .inl (zW (m - zW (zW (m.tdiv 12) * 12)))]) (σ' := σ) 2 rfl ?_
          refine zX_c1 rfl (fun a11 => ?_) (fun a11 => ?_)
          · skip
            refine zX_run (n' := 61) (ls' := [some (.inr (.inr (10, 0))), some (.inl p), some (.inl m), some (.inl (σ.1 63 0 (p.toNat))), some (.inl (zW (m - zW (zW (m.tdiv 12) * 12)))), some (.inl (σ.1 63 0 (p.toNat)))]) (st' := [.inl (σ.1 63 0 (p.toNat))]) (σ' := σ) 1 rfl ?_
            exact zX_ret rfl rfl (h23 a1 a5 a9 a10 a11)
          · skip
            refine zX_run (n' := 61) (ls' := [some (.inr (.inr (10, 0))), some (.inl p), some (.inl m), some (.inl (σ.1 63 0 (p.toNat))), some (.inl (zW (m - zW (zW (m.tdiv 12) * 12)))), some (.inl (σ.1 63 0 (p.toNat)))]) (st' := [.inl (zW ((σ.1 63 0 (p.toNat)) + (zW ((σ.1 63 0 (p.toNat)).tdiv 2))))]) (σ' := σ) 6 rfl ?_
            exact zX_ret rfl rfl (h24 a1 a5 a9 a10 a11)
theorem zs_138 {d : Nat} {σ : zS} {Q : Option zV → zS → Prop} {p m : Int} (o1 : 0 ≤ p ∧ p < 17) (o2 : 0 ≤ m ∧ m < 96) (o3 : 0 ≤ σ.1 62 0 p.toNat ∧ σ.1 62 0 p.toNat < 7)
    (h : Q (some (.inl (uAsk (σ.1 60 0 p.toNat) (σ.1 63 0 p.toNat) (zW (m - zW (zW (m.tdiv 12) * 12))) (σ.1 100 0 (7 * m.toNat + (σ.1 62 0 p.toNat).toNat))))) σ) :
    zM (d + 0) 138 [.inr (.inr (10, 0)), .inl p, .inl m] σ Q := by
  have e : zW ((zW (7 * m)) + (σ.1 62 0 p.toNat)) = ((7 * m.toNat + (σ.1 62 0 p.toNat).toNat : Nat) : Int) := by unfold zW; omega
  refine zb_138 (by omega) (fun _ _ => by rw [e]; omega) (fun _ _ _ => by rw [e]; omega) (fun _ _ _ => by rw [e]; omega) (fun a0 a1 => ?_) (fun a0 a1 => ?_) (fun a0 a1 => ?_) (fun a0 a1 => ?_) (fun a0 a1 => ?_) (fun a0 a1 a2 => ?_) (fun a0 a1 a2 a3 => ?_) (fun a0 a1 a2 a3 => ?_) (fun a0 a1 a2 => ?_) (fun a0 a1 a2 => ?_) (fun a0 a1 a2 => ?_) (fun a0 a1 a2 => ?_) (fun a0 a1 a2 => ?_) (fun a0 a1 a2 a3 => ?_) (fun a0 a1 a2 a3 a4 => ?_) (fun a0 a1 a2 a3 a4 => ?_) (fun a0 a1 a2 => ?_) (fun a0 a1 a2 => ?_) (fun a0 a1 a2 => ?_) (fun a0 a1 a2 => ?_) (fun a0 a1 a2 => ?_) (fun a0 a1 a2 a3 => ?_) (fun a0 a1 a2 a3 a4 => ?_) (fun a0 a1 a2 a3 a4 => ?_)
  all_goals
    (try rw [e])
    refine zQ_i h ?_
    unfold uAsk uRgt
    repeat' split
    all_goals first | rfl | omega | (exfalso; omega)
-- X10_levels
theorem zb_153 {d : Nat} {σ : zS} {Q : Option zV → zS → Prop} {m s r : Int}
    (o1 : ¬ 7 ≤ r → (0 : Int) ≤ r ∧ r < (7 : Int))
    (o2 : ¬ 7 ≤ r → ¬ σ.1 55 0 (r.toNat) = 0 → (0 : Int) ≤ zW ((zW (7 * m)) + r) ∧ zW ((zW (7 * m)) + r) < (672 : Int))
    (h1 : 7 ≤ r → Q (some (.inl s)) σ)
    (h2 : ¬ 7 ≤ r → σ.1 55 0 (r.toNat) = 0 → zX (d + 0) 153 4 [some (.inr (.inr (10, 0))), some (.inl m), some (.inl s), some (.inl (zW (r + 1)))] [] σ Q)
    (h3 : ¬ 7 ≤ r → ¬ σ.1 55 0 (r.toNat) = 0 → zX (d + 0) 153 4 [some (.inr (.inr (10, 0))), some (.inl m), some (.inl (zW (s + (σ.1 87 0 ((zW ((zW (7 * m)) + r)).toNat))))), some (.inl (zW (r + 1)))] [] σ Q) :
    zX (d + 0) 153 4 [some (.inr (.inr (10, 0))), some (.inl m), some (.inl s), some (.inl r)] [] σ Q := by
  refine zX_run (n' := 6) (ls' := [some (.inr (.inr (10, 0))), some (.inl m), some (.inl s), some (.inl r)]) (st' := [.inl 7, .inl r]) (σ' := σ) 2 rfl ?_
  refine zX_c3 rfl (fun a1 => ?_) (fun a1 => ?_)
  · skip
    refine zX_run (n' := 26) (ls' := [some (.inr (.inr (10, 0))), some (.inl m), some (.inl s), some (.inl r)]) (st' := [.inl s]) (σ' := σ) 1 rfl ?_
    exact zX_ret rfl rfl (h1 a1)
  · skip
    refine zX_run (n' := 10) (ls' := [some (.inr (.inr (10, 0))), some (.inl m), some (.inl s), some (.inl r)]) (st' := [.inl r, .inr (.inr (55, 0))]) (σ' := σ) 3 rfl ?_
    refine zX_ald4 (L := 7) rfl (by decide) rfl (o1 a1) ?_
    refine zX_i0 rfl (fun a2 => ?_) (fun a2 => ?_)
    · skip
      refine zX_run (n' := 4) (ls' := [some (.inr (.inr (10, 0))), some (.inl m), some (.inl s), some (.inl (zW (r + 1)))]) (st' := []) (σ' := σ) 2 rfl ?_
      exact h2 a1 a2
    · skip
      refine zX_run (n' := 20) (ls' := [some (.inr (.inr (10, 0))), some (.inl m), some (.inl s), some (.inl r)]) (st' := [.inl (zW ((zW (7 * m)) + r)), .inr (.inr (87, 0)), .inl s]) (σ' := σ) 8 rfl ?_
      refine zX_ald1 (L := 672) rfl (by decide) rfl (o2 a1 a2) ?_
      refine zX_run (n' := 4) (ls' := [some (.inr (.inr (10, 0))), some (.inl m), some (.inl (zW (s + (σ.1 87 0 ((zW ((zW (7 * m)) + r)).toNat))))), some (.inl (zW (r + 1)))]) (st' := []) (σ' := σ) 4 rfl ?_
      exact h3 a1 a2
-- X10_isShut
theorem zb_140 {d : Nat} {σ : zS} {Q : Option zV → zS → Prop} {h m c : Int} {x : Option zV}
    (o1 : ¬ σ.1 10 0 5 ≤ c → (0 : Int) ≤ c ∧ c < (16 : Int))
    (o2 : ¬ σ.1 10 0 5 ≤ c → ¬ c = σ.1 10 0 54 → σ.1 68 0 (c.toNat) = m → (0 : Int) ≤ h ∧ h < (17 : Int))
    (o3 : ¬ σ.1 10 0 5 ≤ c → ¬ c = σ.1 10 0 54 → σ.1 68 0 (c.toNat) = m → (0 : Int) ≤ σ.1 67 0 (c.toNat) ∧ σ.1 67 0 (c.toNat) < (17 : Int))
    (o4 : ¬ σ.1 10 0 5 ≤ c → ¬ c = σ.1 10 0 54 → σ.1 68 0 (c.toNat) = m → ¬ σ.1 62 0 ((σ.1 67 0 (c.toNat)).toNat) < σ.1 62 0 (h.toNat) → 0 ≤ h ∧ h < 17)
    (o5 : ¬ σ.1 10 0 5 ≤ c → ¬ c = σ.1 10 0 54 → σ.1 68 0 (c.toNat) = m → ¬ σ.1 62 0 ((σ.1 67 0 (c.toNat)).toNat) < σ.1 62 0 (h.toNat) → 0 ≤ (σ.1 67 0 (c.toNat)) ∧ (σ.1 67 0 (c.toNat)) < 17)
    (h1 : σ.1 10 0 5 ≤ c → Q (some (.inl 0)) σ)
    (h2 : ¬ σ.1 10 0 5 ≤ c → c = σ.1 10 0 54 → zX (d + 1) 140 2 [some (.inr (.inr (10, 0))), some (.inl h), some (.inl m), some (.inl (zW (c + 1))), some (.inl (σ.1 67 0 (c.toNat)))] [] σ Q)
    (h3 : ¬ σ.1 10 0 5 ≤ c → ¬ c = σ.1 10 0 54 → ¬ σ.1 68 0 (c.toNat) = m → zX (d + 1) 140 2 [some (.inr (.inr (10, 0))), some (.inl h), some (.inl m), some (.inl (zW (c + 1))), some (.inl (σ.1 67 0 (c.toNat)))] [] σ Q)
    (h4 : ¬ σ.1 10 0 5 ≤ c → ¬ c = σ.1 10 0 54 → σ.1 68 0 (c.toNat) = m → σ.1 62 0 ((σ.1 67 0 (c.toNat)).toNat) < σ.1 62 0 (h.toNat) → zX (d + 1) 140 2 [some (.inr (.inr (10, 0))), some (.inl h), some (.inl m), some (.inl (zW (c + 1))), some (.inl (σ.1 67 0 (c.toNat)))] [] σ Q)
    (h5 : ¬ σ.1 10 0 5 ≤ c → ¬ c = σ.1 10 0 54 → σ.1 68 0 (c.toNat) = m → ¬ σ.1 62 0 ((σ.1 67 0 (c.toNat)).toNat) < σ.1 62 0 (h.toNat) → uRank (σ.1 60 0 h.toNat) (σ.1 64 0 h.toNat) ≤ uRank (σ.1 60 0 (σ.1 67 0 (c.toNat)).toNat) (σ.1 64 0 (σ.1 67 0 (c.toNat)).toNat) → zX (d + 1) 140 2 [some (.inr (.inr (10, 0))), some (.inl h), some (.inl m), some (.inl (zW (c + 1))), some (.inl (σ.1 67 0 (c.toNat)))] [] σ Q)
    (h6 : ¬ σ.1 10 0 5 ≤ c → ¬ c = σ.1 10 0 54 → σ.1 68 0 (c.toNat) = m → ¬ σ.1 62 0 ((σ.1 67 0 (c.toNat)).toNat) < σ.1 62 0 (h.toNat) → ¬ uRank (σ.1 60 0 h.toNat) (σ.1 64 0 h.toNat) ≤ uRank (σ.1 60 0 (σ.1 67 0 (c.toNat)).toNat) (σ.1 64 0 (σ.1 67 0 (c.toNat)).toNat) → Q (some (.inl 1)) σ) :
    zX (d + 1) 140 2 [some (.inr (.inr (10, 0))), some (.inl h), some (.inl m), some (.inl c), x] [] σ Q := by
  refine zX_run (n' := 5) (ls' := [some (.inr (.inr (10, 0))), some (.inl h), some (.inl m), some (.inl c), x]) (st' := [.inl (σ.1 10 0 5), .inl c]) (σ' := σ) 3 rfl ?_
  refine zX_c3 rfl (fun a1 => ?_) (fun a1 => ?_)
  · skip
    refine zX_run (n' := 42) (ls' := [some (.inr (.inr (10, 0))), some (.inl h), some (.inl m), some (.inl c), x]) (st' := [.inl 0]) (σ' := σ) 1 rfl ?_
    exact zX_ret rfl rfl (h1 a1)
  · skip
    refine zX_run (n' := 9) (ls' := [some (.inr (.inr (10, 0))), some (.inl h), some (.inl m), some (.inl c), x]) (st' := [.inl c, .inr (.inr (67, 0))]) (σ' := σ) 3 rfl ?_
    refine zX_ald1 (L := 16) rfl (by decide) rfl (o1 a1) ?_
    refine zX_run (n' := 14) (ls' := [some (.inr (.inr (10, 0))), some (.inl h), some (.inl m), some (.inl c), some (.inl (σ.1 67 0 (c.toNat)))]) (st' := [.inl (σ.1 10 0 54), .inl c]) (σ' := σ) 4 rfl ?_
    refine zX_c0 rfl (fun a2 => ?_) (fun a2 => ?_)
    · skip
      refine zX_run (n' := 2) (ls' := [some (.inr (.inr (10, 0))), some (.inl h), some (.inl m), some (.inl (zW (c + 1))), some (.inl (σ.1 67 0 (c.toNat)))]) (st' := []) (σ' := σ) 2 rfl ?_
      exact h2 a1 a2
    · skip
      refine zX_run (n' := 18) (ls' := [some (.inr (.inr (10, 0))), some (.inl h), some (.inl m), some (.inl c), some (.inl (σ.1 67 0 (c.toNat)))]) (st' := [.inl c, .inr (.inr (68, 0))]) (σ' := σ) 3 rfl ?_
      refine zX_ald1 (L := 16) rfl (by decide) rfl (o1 a1) ?_
      refine zX_run (n' := 20) (ls' := [some (.inr (.inr (10, 0))), some (.inl h), some (.inl m), some (.inl c), some (.inl (σ.1 67 0 (c.toNat)))]) (st' := [.inl m, .inl (σ.1 68 0 (c.toNat))]) (σ' := σ) 1 rfl ?_
      refine zX_c1 rfl (fun a3 => ?_) (fun a3 => ?_)
      · skip
        refine zX_run (n' := 2) (ls' := [some (.inr (.inr (10, 0))), some (.inl h), some (.inl m), some (.inl (zW (c + 1))), some (.inl (σ.1 67 0 (c.toNat)))]) (st' := []) (σ' := σ) 2 rfl ?_
        exact h3 a1 a2 a3
      · skip
        refine zX_run (n' := 24) (ls' := [some (.inr (.inr (10, 0))), some (.inl h), some (.inl m), some (.inl c), some (.inl (σ.1 67 0 (c.toNat)))]) (st' := [.inl h, .inr (.inr (62, 0))]) (σ' := σ) 3 rfl ?_
        refine zX_ald1 (L := 17) rfl (by decide) rfl (o2 a1 a2 a3) ?_
        refine zX_run (n' := 28) (ls' := [some (.inr (.inr (10, 0))), some (.inl h), some (.inl m), some (.inl c), some (.inl (σ.1 67 0 (c.toNat)))]) (st' := [.inl (σ.1 67 0 (c.toNat)), .inr (.inr (62, 0)), .inl (σ.1 62 0 (h.toNat))]) (σ' := σ) 3 rfl ?_
        refine zX_ald1 (L := 17) rfl (by decide) rfl (o3 a1 a2 a3) ?_
        refine zX_c4 rfl (fun a4 => ?_) (fun a4 => ?_)
        · skip
          refine zX_run (n' := 2) (ls' := [some (.inr (.inr (10, 0))), some (.inl h), some (.inl m), some (.inl (zW (c + 1))), some (.inl (σ.1 67 0 (c.toNat)))]) (st' := []) (σ' := σ) 2 rfl ?_
          exact h4 a1 a2 a3 a4
        · skip
          refine zX_run (n' := 32) (ls' := [some (.inr (.inr (10, 0))), some (.inl h), some (.inl m), some (.inl c), some (.inl (σ.1 67 0 (c.toNat)))]) (st' := [.inl h, .inr (.inr (10, 0))]) (σ' := σ) 2 rfl ?_
          refine zX_call rfl rfl ?_
          refine zs_135 (o4 a1 a2 a3 a4) ?_
          · skip
            refine zX_run (n' := 35) (ls' := [some (.inr (.inr (10, 0))), some (.inl h), some (.inl m), some (.inl c), some (.inl (σ.1 67 0 (c.toNat)))]) (st' := [.inl (σ.1 67 0 (c.toNat)), .inr (.inr (10, 0)), .inl (uRank (σ.1 60 0 h.toNat) (σ.1 64 0 h.toNat))]) (σ' := σ) 2 rfl ?_
            refine zX_call rfl rfl ?_
            refine zs_135 (o5 a1 a2 a3 a4) ?_
            · skip
              refine zX_c5 rfl (fun a5 => ?_) (fun a5 => ?_)
              · skip
                refine zX_run (n' := 2) (ls' := [some (.inr (.inr (10, 0))), some (.inl h), some (.inl m), some (.inl (zW (c + 1))), some (.inl (σ.1 67 0 (c.toNat)))]) (st' := []) (σ' := σ) 2 rfl ?_
                exact h5 a1 a2 a3 a4 a5
              · skip
                refine zX_run (n' := 38) (ls' := [some (.inr (.inr (10, 0))), some (.inl h), some (.inl m), some (.inl c), some (.inl (σ.1 67 0 (c.toNat)))]) (st' := [.inl 1]) (σ' := σ) 1 rfl ?_
                exact zX_ret rfl rfl (h6 a1 a2 a3 a4 a5)
-- X10_sideOf
theorem zb_157 {d : Nat} {σ : zS} {Q : Option zV → zS → Prop} {r m v g : Int}
    (o1 : ¬ σ.1 10 0 2 ≤ g → (0 : Int) ≤ g ∧ g < (24 : Int))
    (h1 : σ.1 10 0 2 ≤ g → 0 ≤ v → Q (some (.inl v)) σ)
    (h2 : σ.1 10 0 2 ≤ g → ¬ 0 ≤ v → Q (some (.inl 0)) σ)
    (h3 : ¬ σ.1 10 0 2 ≤ g → ¬ σ.1 49 0 (g.toNat) = r → zX (d + 0) 157 13 [some (.inr (.inr (10, 0))), some (.inl r), some (.inl m), some (.inl v), some (.inl (zW (g + 1)))] [] σ Q)
    (h4 : ¬ σ.1 10 0 2 ≤ g → σ.1 49 0 (g.toNat) = r → ¬ σ.1 50 0 (g.toNat) = m → zX (d + 0) 157 13 [some (.inr (.inr (10, 0))), some (.inl r), some (.inl m), some (.inl v), some (.inl (zW (g + 1)))] [] σ Q)
    (h5 : ¬ σ.1 10 0 2 ≤ g → σ.1 49 0 (g.toNat) = r → σ.1 50 0 (g.toNat) = m → zX (d + 0) 157 13 [some (.inr (.inr (10, 0))), some (.inl r), some (.inl m), some (.inl (zW (v + (σ.1 51 0 (g.toNat))))), some (.inl (zW (g + 1)))] [] σ Q) :
    zX (d + 0) 157 13 [some (.inr (.inr (10, 0))), some (.inl r), some (.inl m), some (.inl v), some (.inl g)] [] σ Q := by
  refine zX_run (n' := 16) (ls' := [some (.inr (.inr (10, 0))), some (.inl r), some (.inl m), some (.inl v), some (.inl g)]) (st' := [.inl (σ.1 10 0 2), .inl g]) (σ' := σ) 3 rfl ?_
  refine zX_c3 rfl (fun a1 => ?_) (fun a1 => ?_)
  · skip
    refine zX_run (n' := 39) (ls' := [some (.inr (.inr (10, 0))), some (.inl r), some (.inl m), some (.inl v), some (.inl g)]) (st' := [.inl v]) (σ' := σ) 1 rfl ?_
    refine zX_i3 rfl (fun a2 => ?_) (fun a2 => ?_)
    · skip
      refine zX_run (n' := 43) (ls' := [some (.inr (.inr (10, 0))), some (.inl r), some (.inl m), some (.inl v), some (.inl g)]) (st' := [.inl v]) (σ' := σ) 1 rfl ?_
      exact zX_ret rfl rfl (h1 a1 a2)
    · skip
      refine zX_run (n' := 43) (ls' := [some (.inr (.inr (10, 0))), some (.inl r), some (.inl m), some (.inl v), some (.inl g)]) (st' := [.inl 0]) (σ' := σ) 2 rfl ?_
      exact zX_ret rfl rfl (h2 a1 a2)
  · skip
    refine zX_run (n' := 20) (ls' := [some (.inr (.inr (10, 0))), some (.inl r), some (.inl m), some (.inl v), some (.inl g)]) (st' := [.inl g, .inr (.inr (49, 0))]) (σ' := σ) 3 rfl ?_
    refine zX_ald1 (L := 24) rfl (by decide) rfl (o1 a1) ?_
    refine zX_run (n' := 22) (ls' := [some (.inr (.inr (10, 0))), some (.inl r), some (.inl m), some (.inl v), some (.inl g)]) (st' := [.inl r, .inl (σ.1 49 0 (g.toNat))]) (σ' := σ) 1 rfl ?_
    refine zX_c1 rfl (fun a3 => ?_) (fun a3 => ?_)
    · skip
      refine zX_run (n' := 13) (ls' := [some (.inr (.inr (10, 0))), some (.inl r), some (.inl m), some (.inl v), some (.inl (zW (g + 1)))]) (st' := []) (σ' := σ) 2 rfl ?_
      exact h3 a1 a3
    · skip
      refine zX_run (n' := 26) (ls' := [some (.inr (.inr (10, 0))), some (.inl r), some (.inl m), some (.inl v), some (.inl g)]) (st' := [.inl g, .inr (.inr (50, 0))]) (σ' := σ) 3 rfl ?_
      refine zX_ald1 (L := 24) rfl (by decide) rfl (o1 a1) ?_
      refine zX_run (n' := 28) (ls' := [some (.inr (.inr (10, 0))), some (.inl r), some (.inl m), some (.inl v), some (.inl g)]) (st' := [.inl m, .inl (σ.1 50 0 (g.toNat))]) (σ' := σ) 1 rfl ?_
      refine zX_c1 rfl (fun a4 => ?_) (fun a4 => ?_)
      · skip
        refine zX_run (n' := 13) (ls' := [some (.inr (.inr (10, 0))), some (.inl r), some (.inl m), some (.inl v), some (.inl (zW (g + 1)))]) (st' := []) (σ' := σ) 2 rfl ?_
        exact h4 a1 a3 a4
      · skip
        refine zX_run (n' := 33) (ls' := [some (.inr (.inr (10, 0))), some (.inl r), some (.inl m), some (.inl v), some (.inl g)]) (st' := [.inl g, .inr (.inr (51, 0)), .inl v]) (σ' := σ) 4 rfl ?_
        refine zX_ald1 (L := 24) rfl (by decide) rfl (o1 a1) ?_
        refine zX_run (n' := 13) (ls' := [some (.inr (.inr (10, 0))), some (.inl r), some (.inl m), some (.inl (zW (v + (σ.1 51 0 (g.toNat))))), some (.inl (zW (g + 1)))]) (st' := []) (σ' := σ) 4 rfl ?_
        exact h5 a1 a3 a4
-- X10_sideOf
theorem zb_157n {d : Nat} {σ : zS} {Q : Option zV → zS → Prop} {r : Int} {m : Int}
    (o1 : (0 : Int) ≤ zW ((zW (12 * r)) + (zW (m - zW (zW (m.tdiv 12) * 12)))) ∧ zW ((zW (12 * r)) + (zW (m - zW (zW (m.tdiv 12) * 12)))) < (84 : Int))
    (h1 : zX (d + 0) 157 13 [some (.inr (.inr (10, 0))), some (.inl r), some (.inl m), some (.inl (σ.1 47 0 ((zW ((zW (12 * r)) + (zW (m - zW (zW (m.tdiv 12) * 12))))).toNat))), some (.inl 0)] [] σ Q) :
    zM (d + 0) 157 [.inr (.inr (10, 0)), .inl r, .inl m] σ Q := by
  refine zX_run (n' := 9) (ls' := [some (.inr (.inr (10, 0))), some (.inl r), some (.inl m), none, none]) (st' := [.inl (zW ((zW (12 * r)) + (zW (m - zW (zW (m.tdiv 12) * 12))))), .inr (.inr (47, 0))]) (σ' := σ) 9 rfl ?_
  refine zX_ald1 (L := 84) rfl (by decide) rfl o1 ?_
  refine zX_run (n' := 13) (ls' := [some (.inr (.inr (10, 0))), some (.inl r), some (.inl m), some (.inl (σ.1 47 0 ((zW ((zW (12 * r)) + (zW (m - zW (zW (m.tdiv 12) * 12))))).toNat))), some (.inl 0)]) (st' := []) (σ' := σ) 3 rfl ?_
  exact h1
theorem zI_7 {r m : Nat} (hr : r < 7) (hm : m < 96) : zW ((zW (7 * (m : Int))) + (r : Int)) = ((7 * m + r : Nat) : Int) := by unfold zW; omega
theorem zs_153 {d : Nat} {σ : zS} {Q : Option zV → zS → Prop} {m : Int} (o1 : 0 ≤ m ∧ m < 96)
    (h : Q (some (.inl (uLvs (σ.1 55 0) (fun r => σ.1 87 0 (7 * m.toNat + r)) 7))) σ) : zM (d + 0) 153 [.inr (.inr (10, 0)), .inl m] σ Q := by
  obtain ⟨m, rfl⟩ := Int.eq_ofNat_of_zero_le o1.1
  refine zX_run (n' := 4) (ls' := [some (.inr (.inr (10, 0))), some (.inl (m : Int)), some (.inl 0), some (.inl 0)]) (st' := []) (σ' := σ) 4 rfl ?_
  refine zLoop (P := fun r => zX (d + 0) 153 4 [some (.inr (.inr (10, 0))), some (.inl (m : Int)), some (.inl (uLvs (σ.1 55 0) (fun r => σ.1 87 0 (7 * (m : Int).toNat + r)) r)), some (.inl (r : Int))] [] σ Q) (k := 0) (N := 7) (by omega) ?_ (fun r _ hr ih => ?_)
  · exact zb_153 (fun q => absurd (by decide) q) (fun q => absurd (by decide) q) (fun _ => h) (fun q => absurd (by decide) q) (fun q => absurd (by decide) q)
  · rw [← zWs (m := r) (by omega)] at ih
    have e := zI_7 (r := r) (m := m) (by omega) (by omega)
    refine zb_153 (fun _ => by omega) (fun _ _ => by rw [e]; omega) (fun q => absurd q (by omega)) (fun _ hz => ?_) (fun _ hz => ?_)
    · rw [show uLvs (σ.1 55 0) (fun r => σ.1 87 0 (7 * (m : Int).toNat + r)) (r + 1) = _ from if_pos hz] at ih; exact ih
    · rw [show uLvs (σ.1 55 0) (fun r => σ.1 87 0 (7 * (m : Int).toNat + r)) (r + 1) = _ from if_neg hz] at ih
      rw [e]; exact ih
def uAny (p : Nat → Bool) : Nat → Bool
  | 0 => false
  | n + 1 => uAny p n || p n
theorem uAny_iff {p : Nat → Bool} : ∀ {n : Nat}, uAny p n = true ↔ ∃ c, c < n ∧ p c = true
  | 0 => by simp [uAny]
  | n + 1 => by
    unfold uAny
    rw [Bool.or_eq_true, uAny_iff]
    constructor
    · rintro (⟨c, h1, h2⟩ | h)
      · exact ⟨c, by omega, h2⟩
      · exact ⟨n, by omega, h⟩
    · rintro ⟨c, h1, h2⟩
      by_cases e : c = n
      · subst e; exact Or.inr h2
      · exact Or.inl ⟨c, by omega, h2⟩
def mRk (σ : zS) (h : Nat) : Int := uRank (σ.1 60 0 h) (σ.1 64 0 h)
def mSp (σ : zS) (h : Nat) (m : Int) (c : Nat) : Bool := decide (¬ (c : Int) = σ.1 10 0 54 ∧ σ.1 68 0 c = m ∧ σ.1 62 0 h ≤ σ.1 62 0 (σ.1 67 0 c).toNat ∧ mRk σ (σ.1 67 0 c).toNat < mRk σ h)
def mSh (σ : zS) (h : Nat) (m : Int) : Bool := uAny (mSp σ h m) (σ.1 10 0 5).toNat
theorem zs_140 {d : Nat} {σ : zS} {Q : Option zV → zS → Prop} {p m : Int} (o1 : 0 ≤ p ∧ p < 17) (o2 : 0 ≤ σ.1 10 0 5 ∧ σ.1 10 0 5 ≤ 16) (o3 : ∀ c : Nat, (c : Int) < σ.1 10 0 5 → 0 ≤ σ.1 67 0 c ∧ σ.1 67 0 c < 17)
    (h1 : mSh σ p.toNat m = true → Q (some (.inl 1)) σ) (h2 : ¬ mSh σ p.toNat m = true → Q (some (.inl 0)) σ) : zM (d + 1) 140 [.inr (.inr (10, 0)), .inl p, .inl m] σ Q := by
  obtain ⟨n, hn⟩ := Int.eq_ofNat_of_zero_le o2.1
  unfold mSh at h1 h2
  rw [hn] at h1 h2 o2 o3
  refine zX_run (n' := 2) (ls' := [some (.inr (.inr (10, 0))), some (.inl p), some (.inl m), some (.inl 0), none]) (st' := []) (σ' := σ) 2 rfl ?_
  have L := zLoop (P := fun c => ∀ x : Option zV, uAny (mSp σ p.toNat m) c = false → zX (d + 1) 140 2 [some (.inr (.inr (10, 0))), some (.inl p), some (.inl m), some (.inl (c : Int)), x] [] σ Q) (k := 0) (N := n) (by omega) (fun x hf => ?_) (fun c _ hc ih x hf => ?_)
  · exact L none rfl
  · exact zb_140 (fun q => absurd (by omega) q) (fun q => absurd (by omega) q) (fun q => absurd (by omega) q) (fun q => absurd (by omega) q) (fun q => absurd (by omega) q) (fun _ => h2 (by rw [show (n : Int).toNat = n from rfl, hf]; decide)) (fun q => absurd (by omega) q) (fun q => absurd (by omega) q) (fun q => absurd (by omega) q) (fun q => absurd (by omega) q) (fun q => absurd (by omega) q)
  · have no : ¬ (¬ (c : Int) = σ.1 10 0 54 ∧ σ.1 68 0 c = m ∧ σ.1 62 0 p.toNat ≤ σ.1 62 0 (σ.1 67 0 c).toNat ∧ mRk σ (σ.1 67 0 c).toNat < mRk σ p.toNat) → ∀ y, zX (d + 1) 140 2 [some (.inr (.inr (10, 0))), some (.inl p), some (.inl m), some (.inl (zW ((c : Int) + 1))), y] [] σ Q := fun q y => by
      rw [zWs (by omega)]
      refine ih y ?_
      unfold uAny
      rw [hf, Bool.false_or]
      exact decide_eq_false q
    refine zb_140 (fun _ => by omega) (fun _ _ _ => o1) (fun _ _ _ => o3 c (by omega)) (fun _ _ _ _ => o1) (fun _ _ _ _ => o3 c (by omega)) (fun q => absurd q (by omega)) (fun _ a => no (fun q => q.1 a) _) (fun _ _ a => no (fun q => a q.2.1) _) (fun _ _ _ a => no (fun q => absurd q.2.2.1 (Int.not_le.mpr a)) _) (fun _ _ _ _ a => no (fun q => absurd q.2.2.2 (Int.not_lt.mpr a)) _) (fun _ a b c2 e => ?_)
    refine h1 (uAny_iff.mpr ⟨c, hc, decide_eq_true ⟨a, b, Int.not_lt.mp c2, Int.not_le.mp e⟩⟩)
def mFl (a b c : Nat → Int) (r m : Int) (v : Int) : Nat → Int
  | 0 => v
  | g + 1 => if a g = r ∧ b g = m then zW (mFl a b c r m v g + c g) else mFl a b c r m v g
def mSide (σ : zS) (r m : Nat) : Int := if 0 ≤ mFl (σ.1 49 0) (σ.1 50 0) (σ.1 51 0) (r : Int) (m : Int) (σ.1 47 0 (12 * r + m % 12)) (σ.1 10 0 2).toNat then mFl (σ.1 49 0) (σ.1 50 0) (σ.1 51 0) (r : Int) (m : Int) (σ.1 47 0 (12 * r + m % 12)) (σ.1 10 0 2).toNat else 0
theorem zs_157 {d : Nat} {σ : zS} {Q : Option zV → zS → Prop} {r m : Int} (o1 : 0 ≤ r ∧ r < 7) (o2 : 0 ≤ m ∧ m < 96) (o3 : 0 ≤ σ.1 10 0 2 ∧ σ.1 10 0 2 ≤ 24)
    (h : Q (some (.inl (mSide σ r.toNat m.toNat))) σ) : zM (d + 0) 157 [.inr (.inr (10, 0)), .inl r, .inl m] σ Q := by
  obtain ⟨r, rfl⟩ := Int.eq_ofNat_of_zero_le o1.1
  obtain ⟨m, rfl⟩ := Int.eq_ofNat_of_zero_le o2.1
  obtain ⟨n, hn⟩ := Int.eq_ofNat_of_zero_le o3.1
  unfold mSide at h
  rw [hn] at h o3
  have e : zW ((zW (12 * (r : Int))) + (zW ((m : Int) - zW (zW ((m : Int).tdiv 12) * 12)))) = ((12 * r + m % 12 : Nat) : Int) := by
    rw [zMod12 (by omega)]; unfold zW; omega
  refine zb_157n (by rw [e]; omega) ?_
  rw [e]
  refine zLoop (P := fun g => zX (d + 0) 157 13 [some (.inr (.inr (10, 0))), some (.inl (r : Int)), some (.inl (m : Int)), some (.inl (mFl (σ.1 49 0) (σ.1 50 0) (σ.1 51 0) (r : Int) (m : Int) (σ.1 47 0 (12 * r + m % 12)) g)), some (.inl (g : Int))] [] σ Q) (k := 0) (N := n) (by omega) ?_ (fun g _ hg ih => ?_)
  · exact zb_157 (fun q => absurd (by omega) q) (fun _ a => zQ_i h (if_pos a).symm) (fun _ a => zQ_i h (if_neg a).symm) (fun q => absurd (by omega) q) (fun q => absurd (by omega) q) (fun q => absurd (by omega) q)
  · rw [← zWs (m := g) (by omega)] at ih
    refine zb_157 (fun _ => by omega) (fun q => absurd q (by omega)) (fun q => absurd q (by omega)) (fun _ a => ?_) (fun _ a b => ?_) (fun _ a b => ?_)
    · rw [show mFl (σ.1 49 0) (σ.1 50 0) (σ.1 51 0) (r : Int) (m : Int) (σ.1 47 0 (12 * r + m % 12)) (g + 1) = _ from if_neg (fun q => a q.1)] at ih; exact ih
    · rw [show mFl (σ.1 49 0) (σ.1 50 0) (σ.1 51 0) (r : Int) (m : Int) (σ.1 47 0 (12 * r + m % 12)) (g + 1) = _ from if_neg (fun q => b q.2)] at ih; exact ih
    · rw [show mFl (σ.1 49 0) (σ.1 50 0) (σ.1 51 0) (r : Int) (m : Int) (σ.1 47 0 (12 * r + m % 12)) (g + 1) = _ from if_pos ⟨a, b⟩] at ih; exact ih
