-- small methods of the class, summed up (wip/whole/gen/laws3.py)
theorem zs_104 {d : Nat} {σ : zS} {Q : Option zV → zS → Prop} {v lo hi : Int} 
    (h1 : lo ≤ v ∧ v ≤ hi → Q (some (.inl 1)) σ) (h2 : ¬ (lo ≤ v ∧ v ≤ hi) → Q (some (.inl 0)) σ) :
    zM d 104 [.inl v, .inl lo, .inl hi] σ Q :=
  zm_104 (fun a0 => h2 (by omega)) (fun a0 a1 => h2 (by omega)) (fun a0 a1 => h1 (by omega))
theorem zs_105 {d : Nat} {σ : zS} {Q : Option zV → zS → Prop} {v : Int} 
    (h1 : 0 ≤ v ∧ v ≤ 6 → Q (some (.inl 1)) σ) (h2 : ¬ (0 ≤ v ∧ v ≤ 6) → Q (some (.inl 0)) σ) :
    zM (d + 1) 105 [.inl v] σ Q :=
  zm_105 (fun a0 => h2 (by omega)) (fun a0 a1 => h2 (by omega)) (fun a0 a1 => h1 (by omega))
theorem zs_106 {d : Nat} {σ : zS} {Q : Option zV → zS → Prop} {v : Int} 
    (h1 : 0 ≤ v ∧ v ≤ 95 → Q (some (.inl 1)) σ) (h2 : ¬ (0 ≤ v ∧ v ≤ 95) → Q (some (.inl 0)) σ) :
    zM (d + 1) 106 [.inl v] σ Q :=
  zm_106 (fun a0 => h2 (by omega)) (fun a0 a1 => h2 (by omega)) (fun a0 a1 => h1 (by omega))
theorem zs_108 {d : Nat} {σ : zS} {Q : Option zV → zS → Prop} {v : Int} 
    (h1 : 0 ≤ v ∧ v ≤ 3 → Q (some (.inl 1)) σ) (h2 : ¬ (0 ≤ v ∧ v ≤ 3) → Q (some (.inl 0)) σ) :
    zM (d + 1) 108 [.inl v] σ Q :=
  zm_108 (fun a0 => h2 (by omega)) (fun a0 a1 => h2 (by omega)) (fun a0 a1 => h1 (by omega))
theorem zs_110 {d : Nat} {σ : zS} {Q : Option zV → zS → Prop} {v : Int} 
    (h1 : 0 ≤ v ∧ v ≤ 3 → Q (some (.inl 1)) σ) (h2 : ¬ (0 ≤ v ∧ v ≤ 3) → Q (some (.inl 0)) σ) :
    zM (d + 1) 110 [.inl v] σ Q :=
  zm_110 (fun a0 => h2 (by omega)) (fun a0 a1 => h2 (by omega)) (fun a0 a1 => h1 (by omega))
theorem zs_107 {d : Nat} {σ : zS} {Q : Option zV → zS → Prop} {u v : Int} 
    (h1 : 0 ≤ u ∧ u ≤ v ∧ v ≤ 96 → Q (some (.inl 1)) σ) (h2 : ¬ (0 ≤ u ∧ u ≤ v ∧ v ≤ 96) → Q (some (.inl 0)) σ) :
    zM (d + 1) 107 [.inl u, .inl v] σ Q :=
  zm_107 (fun a0 => h2 (by omega)) (fun a0 a1 => h2 (by omega)) (fun a0 a1 a2 => h2 (by omega)) (fun a0 a1 a2 a3 => h2 (by omega)) (fun a0 a1 a2 a3 => h1 (by omega))
theorem zs_109 {d : Nat} {σ : zS} {Q : Option zV → zS → Prop} {p w : Int} 
    (h1 : (0 ≤ p ∧ p ≤ 9999999) ∧ 1 ≤ w ∧ w ≤ 60 → Q (some (.inl 1)) σ) (h2 : ¬ ((0 ≤ p ∧ p ≤ 9999999) ∧ 1 ≤ w ∧ w ≤ 60) → Q (some (.inl 0)) σ) :
    zM (d + 1) 109 [.inl p, .inl w] σ Q :=
  zm_109 (fun a0 => h2 (by omega)) (fun a0 a1 => h2 (by omega)) (fun a0 a1 a2 => h2 (by omega)) (fun a0 a1 a2 a3 => h2 (by omega)) (fun a0 a1 a2 a3 => h1 (by omega))
theorem zs_26 {d : Nat} {σ : zS} {Q : Option zV → zS → Prop} {g : Nat} {m : Int} 
    (h1 : σ.1 1 g 5 ≤ m ∧ m < σ.1 1 g 6 → Q (some (.inl 1)) σ) (h2 : ¬ (σ.1 1 g 5 ≤ m ∧ m < σ.1 1 g 6) → Q (some (.inl 0)) σ) :
    zM d 26 [.inr (.inr (1, g)), .inl m] σ Q :=
  zm_26 (fun a0 => h2 (by omega)) (fun a0 a1 => h2 (by omega)) (fun a0 a1 => h1 (by omega))
theorem zWm1 {x : Int} (h : 0 ≤ x ∧ x ≤ 1000) : zW (x - 1) = x - 1 := zW_id (by omega)
theorem zs_112 {d : Nat} {σ : zS} {Q : Option zV → zS → Prop} {v : Int} (o1 : 0 ≤ σ.1 8 0 8 ∧ σ.1 8 0 8 ≤ 1000)
    (h1 : 0 ≤ v ∧ v < σ.1 8 0 8 → Q (some (.inl 1)) σ) (h2 : ¬ (0 ≤ v ∧ v < σ.1 8 0 8) → Q (some (.inl 0)) σ) :
    zM (d + 1) 112 [.inr (.inr (9, 0)), .inl v] σ Q := by
  have e := zWm1 o1
  exact zm_112 (fun a0 => h2 (by omega)) (fun a0 a1 => h2 (by omega)) (fun a0 a1 => h1 (by omega))
theorem zs_113 {d : Nat} {σ : zS} {Q : Option zV → zS → Prop} {v : Int} (o1 : 0 ≤ σ.1 8 0 13 ∧ σ.1 8 0 13 ≤ 1000)
    (h1 : 0 ≤ v ∧ v < σ.1 8 0 13 → Q (some (.inl 1)) σ) (h2 : ¬ (0 ≤ v ∧ v < σ.1 8 0 13) → Q (some (.inl 0)) σ) :
    zM (d + 1) 113 [.inr (.inr (9, 0)), .inl v] σ Q := by
  have e := zWm1 o1
  exact zm_113 (fun a0 => h2 (by omega)) (fun a0 a1 => h2 (by omega)) (fun a0 a1 => h1 (by omega))
theorem zs_111 {d : Nat} {σ : zS} {Q : Option zV → zS → Prop} {k s r n e : Int} 
    (h1 : (0 ≤ k ∧ k ≤ 5) ∧ (0 ≤ s ∧ s ≤ 3) ∧ (0 ≤ r ∧ r ≤ 6) ∧ (0 ≤ n ∧ n ≤ 9999 ∧ (k = 2 → n ≤ 100)) ∧ 0 ≤ e ∧ e ≤ 9999 → Q (some (.inl 1)) σ) (h2 : ¬ ((0 ≤ k ∧ k ≤ 5) ∧ (0 ≤ s ∧ s ≤ 3) ∧ (0 ≤ r ∧ r ≤ 6) ∧ (0 ≤ n ∧ n ≤ 9999 ∧ (k = 2 → n ≤ 100)) ∧ 0 ≤ e ∧ e ≤ 9999) → Q (some (.inl 0)) σ) :
    zM (d + 2) 111 [.inl k, .inl s, .inl r, .inl n, .inl e] σ Q :=
  zm_111 (fun a0 => h2 (by omega)) (fun a0 a1 => h2 (by omega)) (fun a0 a1 a2 => h2 (by omega)) (fun a0 a1 a2 a3 => h2 (by omega)) (fun a0 a1 a2 a3 a4 => h2 (by omega)) (fun a0 a1 a2 a3 a4 a5 => h2 (by omega)) (fun a0 a1 a2 a3 a4 a5 a6 a7 => h2 (by omega)) (fun a0 a1 a2 a3 a4 a5 a6 a7 a8 => h2 (by omega)) (fun a0 a1 a2 a3 a4 a5 a6 a7 a8 a9 => h2 (by omega)) (fun a0 a1 a2 a3 a4 a5 a6 a7 a8 a9 a10 => h2 (by omega)) (fun a0 a1 a2 a3 a4 a5 a6 a7 a8 a9 a10 => h1 (by omega)) (fun a0 a1 a2 a3 a4 a5 a6 a7 => h2 (by omega)) (fun a0 a1 a2 a3 a4 a5 a6 a7 a8 => h2 (by omega)) (fun a0 a1 a2 a3 a4 a5 a6 a7 a8 a9 => h2 (by omega)) (fun a0 a1 a2 a3 a4 a5 a6 a7 a8 a9 a10 => h2 (by omega)) (fun a0 a1 a2 a3 a4 a5 a6 a7 a8 a9 a10 => h1 (by omega))
theorem zs_28 {d : Nat} {σ : zS} {Q : Option zV → zS → Prop} {g : Nat} 
    (h : Q (some (.inl (uRank (σ.1 1 g 0) (σ.1 1 g 4)))) σ) :
    zM d 28 [.inr (.inr (1, g))] σ Q := by
  refine zm_28 (fun a0 => ?_) (fun a0 => ?_) (fun a0 => ?_) (fun a0 => ?_) (fun a0 => ?_)
  all_goals
    refine zQ_i h ?_
    unfold uRank
    repeat' split
    all_goals first | rfl | omega | (exfalso; omega)
theorem zs_29 {d : Nat} {σ : zS} {Q : Option zV → zS → Prop} {g : Nat} (o1 : 0 ≤ σ.1 1 g 0 ∧ σ.1 1 g 0 ≤ 5)
    (h : Q (some (.inl (uHun (σ.1 1 g 0)))) σ) :
    zM d 29 [.inr (.inr (1, g))] σ Q := by
  refine zm_29 (fun a0 => ?_) (fun a0 => ?_) (fun a0 => ?_) (fun a0 => ?_) (fun a0 => ?_) (fun a0 => ?_)
  all_goals
    refine zQ_i h ?_
    unfold uHun
    repeat' split
    all_goals first | rfl | omega
-- X1_backOf
theorem zb_30 {d : Nat} {σ : zS} {Q : Option zV → zS → Prop} {g : Nat} {x : Int}
    (o1 : 0 ≤ σ.1 1 g 0 ∧ σ.1 1 g 0 ≤ 5)
    (h1 : Q (some (.inl (zW ((zW (x * (uHun (σ.1 1 g 0)))).tdiv 100)))) σ) :
    zM (d + 1) 30 [.inr (.inr (1, g)), .inl x] σ Q := by
  refine zX_run (n' := 2) (ls' := [some (.inr (.inr (1, g))), some (.inl x)]) (st' := [.inr (.inr (1, g)), .inl x]) (σ' := σ) 2 rfl ?_
  refine zX_call rfl rfl ?_
  refine zs_29 o1 ?_
  · skip
    refine zX_run (n' := 6) (ls' := [some (.inr (.inr (1, g))), some (.inl x)]) (st' := [.inl (zW ((zW (x * (uHun (σ.1 1 g 0)))).tdiv 100))]) (σ' := σ) 3 rfl ?_
    exact zX_ret rfl rfl h1
theorem zs_30 {d : Nat} {σ : zS} {Q : Option zV → zS → Prop} {g : Nat} {x : Int} (o1 : 0 ≤ σ.1 1 g 0 ∧ σ.1 1 g 0 ≤ 5)
    (h : Q (some (.inl (uGb (σ.1 1 g 0) x))) σ) :
    zM (d + 1) 30 [.inr (.inr (1, g)), .inl x] σ Q := zb_30 o1 h
-- X1_asks
theorem zb_27 {d : Nat} {σ : zS} {Q : Option zV → zS → Prop} {g : Nat} {m : Int} {x : Int}
    (h1 : 3 ≤ (zW (m - zW (zW (m.tdiv 12) * 12))) ∧ (zW (m - zW (zW (m.tdiv 12) * 12))) ≤ 8 → σ.1 1 g 0 < 1 ∨ 5 < σ.1 1 g 0 → Q (some (.inl (σ.1 1 g 3))) σ)
    (h2 : 3 ≤ (zW (m - zW (zW (m.tdiv 12) * 12))) ∧ (zW (m - zW (zW (m.tdiv 12) * 12))) ≤ 8 → σ.1 1 g 0 = 1 → Q (some (.inl (σ.1 1 g 3))) σ)
    (h3 : 3 ≤ (zW (m - zW (zW (m.tdiv 12) * 12))) ∧ (zW (m - zW (zW (m.tdiv 12) * 12))) ≤ 8 → σ.1 1 g 0 = 2 → Q (some (.inl (zW ((zW ((σ.1 1 g 3) * x)).tdiv 100)))) σ)
    (h4 : 3 ≤ (zW (m - zW (zW (m.tdiv 12) * 12))) ∧ (zW (m - zW (zW (m.tdiv 12) * 12))) ≤ 8 → σ.1 1 g 0 = 3 → Q (some (.inl (σ.1 1 g 3))) σ)
    (h5 : 3 ≤ (zW (m - zW (zW (m.tdiv 12) * 12))) ∧ (zW (m - zW (zW (m.tdiv 12) * 12))) ≤ 8 → σ.1 1 g 0 = 4 → Q (some (.inl (zW ((σ.1 1 g 3) + (zW ((σ.1 1 g 3).tdiv 10)))))) σ)
    (h6 : 3 ≤ (zW (m - zW (zW (m.tdiv 12) * 12))) ∧ (zW (m - zW (zW (m.tdiv 12) * 12))) ≤ 8 → σ.1 1 g 0 = 5 → 6 ≤ (zW (m - zW (zW (m.tdiv 12) * 12))) ∧ (zW (m - zW (zW (m.tdiv 12) * 12))) ≤ 7 → Q (some (.inl (zW ((σ.1 1 g 3) + (zW ((σ.1 1 g 3).tdiv 2)))))) σ)
    (h7 : 3 ≤ (zW (m - zW (zW (m.tdiv 12) * 12))) ∧ (zW (m - zW (zW (m.tdiv 12) * 12))) ≤ 8 → σ.1 1 g 0 = 5 → ¬ (6 ≤ (zW (m - zW (zW (m.tdiv 12) * 12))) ∧ (zW (m - zW (zW (m.tdiv 12) * 12))) ≤ 7) → Q (some (.inl (σ.1 1 g 3))) σ)
    (h8 : ¬ (3 ≤ (zW (m - zW (zW (m.tdiv 12) * 12))) ∧ (zW (m - zW (zW (m.tdiv 12) * 12))) ≤ 8) → σ.1 1 g 0 < 1 ∨ 5 < σ.1 1 g 0 → Q (some (.inl (σ.1 1 g 3))) σ)
    (h9 : ¬ (3 ≤ (zW (m - zW (zW (m.tdiv 12) * 12))) ∧ (zW (m - zW (zW (m.tdiv 12) * 12))) ≤ 8) → σ.1 1 g 0 = 1 → Q (some (.inl 0)) σ)
    (h10 : ¬ (3 ≤ (zW (m - zW (zW (m.tdiv 12) * 12))) ∧ (zW (m - zW (zW (m.tdiv 12) * 12))) ≤ 8) → σ.1 1 g 0 = 2 → Q (some (.inl (zW ((zW ((σ.1 1 g 3) * x)).tdiv 100)))) σ)
    (h11 : ¬ (3 ≤ (zW (m - zW (zW (m.tdiv 12) * 12))) ∧ (zW (m - zW (zW (m.tdiv 12) * 12))) ≤ 8) → σ.1 1 g 0 = 3 → Q (some (.inl (σ.1 1 g 3))) σ)
    (h12 : ¬ (3 ≤ (zW (m - zW (zW (m.tdiv 12) * 12))) ∧ (zW (m - zW (zW (m.tdiv 12) * 12))) ≤ 8) → σ.1 1 g 0 = 4 → Q (some (.inl 0)) σ)
    (h13 : ¬ (3 ≤ (zW (m - zW (zW (m.tdiv 12) * 12))) ∧ (zW (m - zW (zW (m.tdiv 12) * 12))) ≤ 8) → σ.1 1 g 0 = 5 → 6 ≤ (zW (m - zW (zW (m.tdiv 12) * 12))) ∧ (zW (m - zW (zW (m.tdiv 12) * 12))) ≤ 7 → Q (some (.inl (zW ((σ.1 1 g 3) + (zW ((σ.1 1 g 3).tdiv 2)))))) σ)
    (h14 : ¬ (3 ≤ (zW (m - zW (zW (m.tdiv 12) * 12))) ∧ (zW (m - zW (zW (m.tdiv 12) * 12))) ≤ 8) → σ.1 1 g 0 = 5 → ¬ (6 ≤ (zW (m - zW (zW (m.tdiv 12) * 12))) ∧ (zW (m - zW (zW (m.tdiv 12) * 12))) ≤ 7) → Q (some (.inl (σ.1 1 g 3))) σ) :
    zM (d + 1) 27 [.inr (.inr (1, g)), .inl m, .inl x] σ Q := by
  refine zX_run (n' := 7) (ls' := [some (.inr (.inr (1, g))), some (.inl m), some (.inl x), some (.inl (zW (m - zW (zW (m.tdiv 12) * 12)))), none]) (st' := [.inl 8, .inl 3, .inl (zW (m - zW (zW (m.tdiv 12) * 12)))]) (σ' := σ) 7 rfl ?_
  refine zX_call rfl rfl ?_
  refine zs_104 (fun a1 => ?_) (fun a2 => ?_)
  · skip
    refine zX_run (n' := 16) (ls' := [some (.inr (.inr (1, g))), some (.inl m), some (.inl x), some (.inl (zW (m - zW (zW (m.tdiv 12) * 12)))), some (.inl (σ.1 1 g 3))]) (st' := [.inl (σ.1 1 g 0)]) (σ' := σ) 7 rfl ?_
    refine zX_sw rfl (fun a3 => ?_) ⟨fun a3 => ?_, fun a3 => ?_, fun a3 => ?_, fun a3 => ?_, fun a3 => ?_, trivial⟩
    · skip
      refine zX_run (n' := 50) (ls' := [some (.inr (.inr (1, g))), some (.inl m), some (.inl x), some (.inl (zW (m - zW (zW (m.tdiv 12) * 12)))), some (.inl (σ.1 1 g 3))]) (st' := [.inl (σ.1 1 g 3)]) (σ' := σ) 2 rfl ?_
      exact zX_ret rfl rfl (h1 a1 a3)
    · skip
      refine zX_run (n' := 18) (ls' := [some (.inr (.inr (1, g))), some (.inl m), some (.inl x), some (.inl (zW (m - zW (zW (m.tdiv 12) * 12)))), some (.inl (σ.1 1 g 3))]) (st' := [.inl (σ.1 1 g 3)]) (σ' := σ) 1 rfl ?_
      exact zX_ret rfl rfl (h2 a1 a3)
    · skip
      refine zX_run (n' := 25) (ls' := [some (.inr (.inr (1, g))), some (.inl m), some (.inl x), some (.inl (zW (m - zW (zW (m.tdiv 12) * 12)))), some (.inl (σ.1 1 g 3))]) (st' := [.inl (zW ((zW ((σ.1 1 g 3) * x)).tdiv 100))]) (σ' := σ) 6 rfl ?_
      exact zX_ret rfl rfl (h3 a1 a3)
    · skip
      refine zX_run (n' := 50) (ls' := [some (.inr (.inr (1, g))), some (.inl m), some (.inl x), some (.inl (zW (m - zW (zW (m.tdiv 12) * 12)))), some (.inl (σ.1 1 g 3))]) (st' := [.inl (σ.1 1 g 3)]) (σ' := σ) 2 rfl ?_
      exact zX_ret rfl rfl (h4 a1 a3)
    · skip
      refine zX_run (n' := 31) (ls' := [some (.inr (.inr (1, g))), some (.inl m), some (.inl x), some (.inl (zW (m - zW (zW (m.tdiv 12) * 12)))), some (.inl (σ.1 1 g 3))]) (st' := [.inl (zW ((σ.1 1 g 3) + (zW ((σ.1 1 g 3).tdiv 10))))]) (σ' := σ) 5 rfl ?_
      exact zX_ret rfl rfl (h5 a1 a3)
    · skip
      refine zX_run (n' := 35) (ls' := [some (.inr (.inr (1, g))), some (.inl m), some (.inl x), some (.inl (zW (m - zW (zW (m.tdiv 12) * 12)))), some (.inl (σ.1 1 g 3))]) (st' := [.inl 7, .inl 6, .inl (zW (m - zW (zW (m.tdiv 12) * 12)))]) (σ' := σ) 3 rfl ?_
      refine zX_call rfl rfl ?_
      refine zs_104 (fun a4 => ?_) (fun a5 => ?_)
      · skip
        refine zX_run (n' := 47) (ls' := [some (.inr (.inr (1, g))), some (.inl m), some (.inl x), some (.inl (zW (m - zW (zW (m.tdiv 12) * 12)))), some (.inl (σ.1 1 g 3))]) (st' := [.inl (zW ((σ.1 1 g 3) + (zW ((σ.1 1 g 3).tdiv 2))))]) (σ' := σ) 9 rfl ?_
        exact zX_ret rfl rfl (h6 a1 a3 a4)
      · skip
        refine zX_run (n' := 47) (ls' := [some (.inr (.inr (1, g))), some (.inl m), some (.inl x), some (.inl (zW (m - zW (zW (m.tdiv 12) * 12)))), some (.inl (σ.1 1 g 3))]) (st' := [.inl (σ.1 1 g 3)]) (σ' := σ) 3 rfl ?_
        exact zX_ret rfl rfl (h7 a1 a3 a5)
  · skip
    refine zX_run (n' := 16) (ls' := [some (.inr (.inr (1, g))), some (.inl m), some (.inl x), some (.inl (zW (m - zW (zW (m.tdiv 12) * 12)))), some (.inl 0)]) (st' := [.inl (σ.1 1 g 0)]) (σ' := σ) 5 rfl ?_
    refine zX_sw rfl (fun a6 => ?_) ⟨fun a6 => ?_, fun a6 => ?_, fun a6 => ?_, fun a6 => ?_, fun a6 => ?_, trivial⟩
    · skip
      refine zX_run (n' := 50) (ls' := [some (.inr (.inr (1, g))), some (.inl m), some (.inl x), some (.inl (zW (m - zW (zW (m.tdiv 12) * 12)))), some (.inl 0)]) (st' := [.inl (σ.1 1 g 3)]) (σ' := σ) 2 rfl ?_
      exact zX_ret rfl rfl (h8 a2 a6)
    · skip
      refine zX_run (n' := 18) (ls' := [some (.inr (.inr (1, g))), some (.inl m), some (.inl x), some (.inl (zW (m - zW (zW (m.tdiv 12) * 12)))), some (.inl 0)]) (st' := [.inl 0]) (σ' := σ) 1 rfl ?_
      exact zX_ret rfl rfl (h9 a2 a6)
    · skip
      refine zX_run (n' := 25) (ls' := [some (.inr (.inr (1, g))), some (.inl m), some (.inl x), some (.inl (zW (m - zW (zW (m.tdiv 12) * 12)))), some (.inl 0)]) (st' := [.inl (zW ((zW ((σ.1 1 g 3) * x)).tdiv 100))]) (σ' := σ) 6 rfl ?_
      exact zX_ret rfl rfl (h10 a2 a6)
    · skip
      refine zX_run (n' := 50) (ls' := [some (.inr (.inr (1, g))), some (.inl m), some (.inl x), some (.inl (zW (m - zW (zW (m.tdiv 12) * 12)))), some (.inl 0)]) (st' := [.inl (σ.1 1 g 3)]) (σ' := σ) 2 rfl ?_
      exact zX_ret rfl rfl (h11 a2 a6)
    · skip
      refine zX_run (n' := 31) (ls' := [some (.inr (.inr (1, g))), some (.inl m), some (.inl x), some (.inl (zW (m - zW (zW (m.tdiv 12) * 12)))), some (.inl 0)]) (st' := [.inl 0]) (σ' := σ) 5 rfl ?_
      exact zX_ret rfl rfl (h12 a2 a6)
    · skip
      refine zX_run (n' := 35) (ls' := [some (.inr (.inr (1, g))), some (.inl m), some (.inl x), some (.inl (zW (m - zW (zW (m.tdiv 12) * 12)))), some (.inl 0)]) (st' := [.inl 7, .inl 6, .inl (zW (m - zW (zW (m.tdiv 12) * 12)))]) (σ' := σ) 3 rfl ?_
      refine zX_call rfl rfl ?_
      refine zs_104 (fun a7 => ?_) (fun a8 => ?_)
      · skip
        refine zX_run (n' := 47) (ls' := [some (.inr (.inr (1, g))), some (.inl m), some (.inl x), some (.inl (zW (m - zW (zW (m.tdiv 12) * 12)))), some (.inl 0)]) (st' := [.inl (zW ((σ.1 1 g 3) + (zW ((σ.1 1 g 3).tdiv 2))))]) (σ' := σ) 9 rfl ?_
        exact zX_ret rfl rfl (h13 a2 a6 a7)
      · skip
        refine zX_run (n' := 47) (ls' := [some (.inr (.inr (1, g))), some (.inl m), some (.inl x), some (.inl (zW (m - zW (zW (m.tdiv 12) * 12)))), some (.inl 0)]) (st' := [.inl (σ.1 1 g 3)]) (σ' := σ) 3 rfl ?_
        exact zX_ret rfl rfl (h14 a2 a6 a8)
theorem zs_27 {d : Nat} {σ : zS} {Q : Option zV → zS → Prop} {g : Nat} {m x : Int} 
    (h : Q (some (.inl (uAsk (σ.1 1 g 0) (σ.1 1 g 3) (zW (m - zW (zW (m.tdiv 12) * 12))) x))) σ) :
    zM (d + 1) 27 [.inr (.inr (1, g)), .inl m, .inl x] σ Q := by
  refine zb_27 (fun a0 a1 => ?_) (fun a0 a1 => ?_) (fun a0 a1 => ?_) (fun a0 a1 => ?_) (fun a0 a1 => ?_) (fun a0 a1 a2 => ?_) (fun a0 a1 a2 => ?_) (fun a0 a1 => ?_) (fun a0 a1 => ?_) (fun a0 a1 => ?_) (fun a0 a1 => ?_) (fun a0 a1 => ?_) (fun a0 a1 a2 => ?_) (fun a0 a1 a2 => ?_)
  all_goals
    refine zQ_i h ?_
    unfold uAsk uRgt
    repeat' split
    all_goals first | rfl | omega | (exfalso; omega)
-- X8_sideOf
theorem zb_60 {d : Nat} {σ : zS} {Q : Option zV → zS → Prop} {r : Int} {m : Int}
    (o1 : (0 : Int) ≤ zW ((zW (r * 12)) + (zW (m - zW (zW (m.tdiv 12) * 12)))) ∧ zW ((zW (r * 12)) + (zW (m - zW (zW (m.tdiv 12) * 12)))) < (84 : Int))
    (o2 : (0 : Int) ≤ zW ((zW (r * 96)) + m) ∧ zW ((zW (r * 96)) + m) < (672 : Int))
    (h1 : Q (some (.inl (uMax (zW ((σ.1 34 0 ((zW ((zW (r * 12)) + (zW (m - zW (zW (m.tdiv 12) * 12))))).toNat)) + (σ.1 36 0 ((zW ((zW (r * 96)) + m)).toNat)))) 0))) σ) :
    zM (d + 10) 60 [.inr (.inr (8, 0)), .inl r, .inl m] σ Q := by
  refine zX_run (n' := 9) (ls' := [some (.inr (.inr (8, 0))), some (.inl r), some (.inl m)]) (st' := [.inl (zW ((zW (r * 12)) + (zW (m - zW (zW (m.tdiv 12) * 12))))), .inr (.inr (34, 0))]) (σ' := σ) 9 rfl ?_
  refine zX_ald1 (L := 84) rfl (by decide) rfl o1 ?_
  refine zX_run (n' := 17) (ls' := [some (.inr (.inr (8, 0))), some (.inl r), some (.inl m)]) (st' := [.inl (zW ((zW (r * 96)) + m)), .inr (.inr (36, 0)), .inl (σ.1 34 0 ((zW ((zW (r * 12)) + (zW (m - zW (zW (m.tdiv 12) * 12))))).toNat))]) (σ' := σ) 7 rfl ?_
  refine zX_ald1 (L := 672) rfl (by decide) rfl o2 ?_
  refine zX_run (n' := 20) (ls' := [some (.inr (.inr (8, 0))), some (.inl r), some (.inl m)]) (st' := [.inl 0, .inl (zW ((σ.1 34 0 ((zW ((zW (r * 12)) + (zW (m - zW (zW (m.tdiv 12) * 12))))).toNat)) + (σ.1 36 0 ((zW ((zW (r * 96)) + m)).toNat))))]) (σ' := σ) 2 rfl ?_
  refine zX_b1 rfl (by omega) rfl ?_
  exact zX_ret rfl rfl h1
/-- SIDE, as the class works it out -/
def cSide (σ : zS) (r m : Nat) : Int := uMax (zW (σ.1 34 0 (12 * r + m % 12) + σ.1 36 0 (96 * r + m))) 0
theorem zI_12 {r m : Nat} (hr : r < 7) (hm : m < 96) : zW ((zW ((r : Int) * 12)) + (zW ((m : Int) - zW (zW ((m : Int).tdiv 12) * 12)))) = ((12 * r + m % 12 : Nat) : Int) := by
  rw [zMod12 (by omega)]; unfold zW; omega
theorem zI_96 {r m : Nat} (hr : r < 7) (hm : m < 96) : zW ((zW ((r : Int) * 96)) + (m : Int)) = ((96 * r + m : Nat) : Int) := by unfold zW; omega
theorem zs_60 {d : Nat} {σ : zS} {Q : Option zV → zS → Prop} {r m : Int} (o1 : 0 ≤ r ∧ r < 7) (o2 : 0 ≤ m ∧ m < 96)
    (h : Q (some (.inl (cSide σ r.toNat m.toNat))) σ) :
    zM (d + 10) 60 [.inr (.inr (8, 0)), .inl r, .inl m] σ Q := by
  obtain ⟨r, rfl⟩ := Int.eq_ofNat_of_zero_le o1.1
  obtain ⟨m, rfl⟩ := Int.eq_ofNat_of_zero_le o2.1
  have e1 := zI_12 (r := r) (m := m) (by omega) (by omega)
  have e2 := zI_96 (r := r) (m := m) (by omega) (by omega)
  refine zb_60 ?_ ?_ ?_
  · rw [e1]; omega
  · rw [e2]; omega
  · rw [e1, e2]; exact h
-- X8_readOf
theorem zb_61 {d : Nat} {σ : zS} {Q : Option zV → zS → Prop} {q m r : Int} {x : Option zV}
    (o1 : ¬ r < 0 → (0 : Int) ≤ zW ((zW (r * 96)) + m) ∧ zW ((zW (r * 96)) + m) < (672 : Int))
    (h1 : r < 0 → Q (some (.inl 0)) σ)
    (h2 : ¬ r < 0 → σ.1 37 0 ((zW ((zW (r * 96)) + m)).toNat) = (-1) → zX (d + 0) 61 2 [some (.inr (.inr (8, 0))), some (.inl q), some (.inl m), some (.inl (zW (r + (-1)))), some (.inl (σ.1 37 0 ((zW ((zW (r * 96)) + m)).toNat)))] [] σ Q)
    (h3 : ¬ r < 0 → ¬ σ.1 37 0 ((zW ((zW (r * 96)) + m)).toNat) = (-1) → Q (some (.inl (σ.1 37 0 ((zW ((zW (r * 96)) + m)).toNat)))) σ) :
    zX (d + 0) 61 2 [some (.inr (.inr (8, 0))), some (.inl q), some (.inl m), some (.inl r), x] [] σ Q := by
  refine zX_run (n' := 3) (ls' := [some (.inr (.inr (8, 0))), some (.inl q), some (.inl m), some (.inl r), x]) (st' := [.inl r]) (σ' := σ) 1 rfl ?_
  refine zX_i2 rfl (fun a1 => ?_) (fun a1 => ?_)
  · skip
    refine zX_run (n' := 21) (ls' := [some (.inr (.inr (8, 0))), some (.inl q), some (.inl m), some (.inl r), x]) (st' := [.inl 0]) (σ' := σ) 1 rfl ?_
    exact zX_ret rfl rfl (h1 a1)
  · skip
    refine zX_run (n' := 11) (ls' := [some (.inr (.inr (8, 0))), some (.inl q), some (.inl m), some (.inl r), x]) (st' := [.inl (zW ((zW (r * 96)) + m)), .inr (.inr (37, 0))]) (σ' := σ) 7 rfl ?_
    refine zX_ald1 (L := 672) rfl (by decide) rfl (o1 a1) ?_
    refine zX_run (n' := 15) (ls' := [some (.inr (.inr (8, 0))), some (.inl q), some (.inl m), some (.inl r), some (.inl (σ.1 37 0 ((zW ((zW (r * 96)) + m)).toNat)))]) (st' := [.inl (-1), .inl (σ.1 37 0 ((zW ((zW (r * 96)) + m)).toNat))]) (σ' := σ) 3 rfl ?_
    refine zX_c0 rfl (fun a2 => ?_) (fun a2 => ?_)
    · skip
      refine zX_run (n' := 2) (ls' := [some (.inr (.inr (8, 0))), some (.inl q), some (.inl m), some (.inl (zW (r + (-1)))), some (.inl (σ.1 37 0 ((zW ((zW (r * 96)) + m)).toNat)))]) (st' := []) (σ' := σ) 2 rfl ?_
      exact h2 a1 a2
    · skip
      refine zX_run (n' := 17) (ls' := [some (.inr (.inr (8, 0))), some (.inl q), some (.inl m), some (.inl r), some (.inl (σ.1 37 0 ((zW ((zW (r * 96)) + m)).toNat)))]) (st' := [.inl (σ.1 37 0 ((zW ((zW (r * 96)) + m)).toNat))]) (σ' := σ) 1 rfl ?_
      exact zX_ret rfl rfl (h3 a1 a2)
/-- READ, from the readings of a month reach by reach -/
def uRd (g : Nat → Int) : Nat → Int
  | 0 => if g 0 = -1 then 0 else g 0
  | r + 1 => if g (r + 1) = -1 then uRd g r else g (r + 1)
def cRead (σ : zS) (r m : Nat) : Int := uRd (fun k => σ.1 37 0 (96 * k + m)) r
theorem zs_61l {d : Nat} {σ : zS} {Q : Option zV → zS → Prop} {q : Int} {m : Nat} (hm : m < 96) : ∀ {r : Nat} {x : Option zV}, r < 7 → Q (some (.inl (cRead σ r m))) σ →
    zX (d + 0) 61 2 [some (.inr (.inr (8, 0))), some (.inl q), some (.inl (m : Int)), some (.inl (r : Int)), x] [] σ Q
  | 0, x, hr, h => by
    have e2 := zI_96 (r := 0) (m := m) (by omega) (by omega)
    refine zb_61 (fun _ => by rw [e2]; omega) (fun h => absurd h (by omega)) (fun _ => ?_) (fun _ => ?_)
    · rw [e2]
      intro hz
      refine zb_61 (fun hh => absurd hh (by decide)) (fun _ => ?_) (fun hh => absurd (by decide) hh) (fun hh => absurd (by decide) hh)
      exact zQ_i h (by unfold cRead uRd; exact (if_pos hz).symm)
    · rw [e2]
      intro hz
      exact zQ_i h (by unfold cRead uRd; exact (if_neg hz).symm)
  | r + 1, x, hr, h => by
    have e2 := zI_96 (r := r + 1) (m := m) (by omega) (by omega)
    have e3 : zW (((r + 1 : Nat) : Int) + (-1)) = (r : Int) := by unfold zW; omega
    refine zb_61 (fun _ => by rw [e2]; omega) (fun h => absurd h (by omega)) (fun _ => ?_) (fun _ => ?_)
    · rw [e2, e3]
      intro hz
      refine zs_61l hm (r := r) (by omega) ?_
      exact zQ_i h (by unfold cRead; rw [uRd]; exact (if_pos hz).symm)
    · rw [e2]
      intro hz
      exact zQ_i h (by unfold cRead; rw [uRd]; exact (if_neg hz).symm)
theorem zs_61 {d : Nat} {σ : zS} {Q : Option zV → zS → Prop} {r m : Int} (o1 : 0 ≤ r ∧ r < 7) (o2 : 0 ≤ m ∧ m < 96)
    (h : Q (some (.inl (cRead σ r.toNat m.toNat))) σ) :
    zM (d + 0) 61 [.inr (.inr (8, 0)), .inl r, .inl m] σ Q := by
  obtain ⟨r, rfl⟩ := Int.eq_ofNat_of_zero_le o1.1
  obtain ⟨m, rfl⟩ := Int.eq_ofNat_of_zero_le o2.1
  refine zX_run (n' := 2) (ls' := [some (.inr (.inr (8, 0))), some (.inl (r : Int)), some (.inl (m : Int)), some (.inl (r : Int)), none]) (st' := []) (σ' := σ) 2 rfl ?_
  exact zs_61l (by omega) (by omega) h
-- X8_lakeCount
theorem zb_62 {d : Nat} {σ : zS} {Q : Option zV → zS → Prop} {n r : Int}
    (o1 : ¬ 7 ≤ r → (0 : Int) ≤ r ∧ r < (7 : Int))
    (h1 : 7 ≤ r → Q (some (.inl n)) σ)
    (h2 : ¬ 7 ≤ r → σ.1 3 (7 * 0 + r.toNat) 0 = 0 → zX (d + 0) 62 4 [some (.inr (.inr (8, 0))), some (.inl n), some (.inl (zW (r + 1)))] [] σ Q)
    (h3 : ¬ 7 ≤ r → ¬ σ.1 3 (7 * 0 + r.toNat) 0 = 0 → zX (d + 0) 62 4 [some (.inr (.inr (8, 0))), some (.inl (zW (n + 1))), some (.inl (zW (r + 1)))] [] σ Q) :
    zX (d + 0) 62 4 [some (.inr (.inr (8, 0))), some (.inl n), some (.inl r)] [] σ Q := by
  refine zX_run (n' := 6) (ls' := [some (.inr (.inr (8, 0))), some (.inl n), some (.inl r)]) (st' := [.inl 7, .inl r]) (σ' := σ) 2 rfl ?_
  refine zX_c3 rfl (fun a1 => ?_) (fun a1 => ?_)
  · skip
    refine zX_run (n' := 17) (ls' := [some (.inr (.inr (8, 0))), some (.inl n), some (.inl r)]) (st' := [.inl n]) (σ' := σ) 1 rfl ?_
    exact zX_ret rfl rfl (h1 a1)
  · skip
    refine zX_run (n' := 10) (ls' := [some (.inr (.inr (8, 0))), some (.inl n), some (.inl r)]) (st' := [.inl r, .inr (.inr (38, 0))]) (σ' := σ) 3 rfl ?_
    refine zX_ald5 (L := 7) rfl (by decide) rfl (o1 a1) ?_
    refine zX_run (n' := 12) (ls' := [some (.inr (.inr (8, 0))), some (.inl n), some (.inl r)]) (st' := [.inl (σ.1 3 (7 * 0 + r.toNat) 0)]) (σ' := σ) 1 rfl ?_
    refine zX_i0 rfl (fun a2 => ?_) (fun a2 => ?_)
    · skip
      refine zX_run (n' := 4) (ls' := [some (.inr (.inr (8, 0))), some (.inl n), some (.inl (zW (r + 1)))]) (st' := []) (σ' := σ) 2 rfl ?_
      exact h2 a1 a2
    · skip
      refine zX_run (n' := 4) (ls' := [some (.inr (.inr (8, 0))), some (.inl (zW (n + 1))), some (.inl (zW (r + 1)))]) (st' := []) (σ' := σ) 3 rfl ?_
      exact h3 a1 a2
/-- how many of the first reaches have a lake -/
def uCnt (th : Nat → Int) : Nat → Nat
  | 0 => 0
  | r + 1 => if th r = 0 then uCnt th r else uCnt th r + 1
theorem uCnt_le {th : Nat → Int} : ∀ {r : Nat}, uCnt th r ≤ r
  | 0 => Nat.le_refl _
  | r + 1 => by unfold uCnt; have := uCnt_le (th := th) (r := r); split <;> omega
def cTh (σ : zS) (r : Nat) : Int := σ.1 3 (7 * 0 + r) 0
theorem zs_62 {d : Nat} {σ : zS} {Q : Option zV → zS → Prop} (h : Q (some (.inl (uCnt (cTh σ) 7 : Int))) σ) :
    zM (d + 0) 62 [.inr (.inr (8, 0))] σ Q := by
  refine zX_run (n' := 4) (ls' := [some (.inr (.inr (8, 0))), some (.inl 0), some (.inl 0)]) (st' := []) (σ' := σ) 4 rfl ?_
  refine zLoop (P := fun r => zX (d + 0) 62 4 [some (.inr (.inr (8, 0))), some (.inl (uCnt (cTh σ) r : Int)), some (.inl (r : Int))] [] σ Q) (k := 0) (N := 7) (by omega) ?_ (fun r _ hr ih => ?_)
  · exact zb_62 (fun q => absurd (by decide) q) (fun _ => h) (fun q => absurd (by decide) q) (fun q => absurd (by decide) q)
  · have b := uCnt_le (th := cTh σ) (r := r)
    rw [← zWs (m := r) (by omega)] at ih
    refine zb_62 (fun _ => by omega) (fun q => absurd q (by omega)) (fun _ hz => ?_) (fun _ hz => ?_)
    · rw [show uCnt (cTh σ) (r + 1) = uCnt (cTh σ) r from if_pos hz] at ih; exact ih
    · rw [show uCnt (cTh σ) (r + 1) = uCnt (cTh σ) r + 1 from if_neg hz, ← zWs (m := uCnt (cTh σ) r) (by omega)] at ih; exact ih
