-- found (wip/whole/gen/laws58.py)
-- X9_found
theorem zb_92 {d : Nat} {σ : zS} {Q : Option zV → zS → Prop} {s : Int} {r : Int} {n : Int} {e : Int}
    (o1 : (0 ≤ (3 : Int) ∧ (3 : Int) ≤ 5) ∧ (0 ≤ s ∧ s ≤ 3) ∧ (0 ≤ r ∧ r ≤ 6) ∧ (0 ≤ n ∧ n ≤ 9999 ∧ ((3 : Int) = 2 → n ≤ 100)) ∧ 0 ≤ e ∧ e ≤ 9999 → σ.1 8 0 8 < 16 → (0 : Int) ≤ (96 : Int) ∧ (96 : Int) ≤ (96 : Int))
    (o2 : (0 ≤ (3 : Int) ∧ (3 : Int) ≤ 5) ∧ (0 ≤ s ∧ s ≤ 3) ∧ (0 ≤ r ∧ r ≤ 6) ∧ (0 ≤ n ∧ n ≤ 9999 ∧ ((3 : Int) = 2 → n ≤ 100)) ∧ 0 ≤ e ∧ e ≤ 9999 → σ.1 8 0 8 < 16 → yRel σ)
    (o3 : (0 ≤ (3 : Int) ∧ (3 : Int) ≤ 5) ∧ (0 ≤ s ∧ s ≤ 3) ∧ (0 ≤ r ∧ r ≤ 6) ∧ (0 ≤ n ∧ n ≤ 9999 ∧ ((3 : Int) = 2 → n ≤ 100)) ∧ 0 ≤ e ∧ e ≤ 9999 → σ.1 8 0 8 < 16 → ∀ G1 : Nat → Nat → Nat → Int, cWk (zG σ G1) 0 (mD σ) (96 : Int) → yRel (zG σ G1) → cOth σ G1 0 → (0 : Int) ≤ σ.1 8 0 8 ∧ σ.1 8 0 8 < (16 : Int))
    (h1 : (0 ≤ (3 : Int) ∧ (3 : Int) ≤ 5) ∧ (0 ≤ s ∧ s ≤ 3) ∧ (0 ≤ r ∧ r ≤ 6) ∧ (0 ≤ n ∧ n ≤ 9999 ∧ ((3 : Int) = 2 → n ≤ 100)) ∧ 0 ≤ e ∧ e ≤ 9999 → σ.1 8 0 8 < 16 → ∀ G1 : Nat → Nat → Nat → Int, cWk (zG σ G1) 0 (mD σ) (96 : Int) → yRel (zG σ G1) → cOth σ G1 0 → zX (d + 20) 92 43 [some (.inr (.inr (9, 0))), some (.inl s), some (.inl r), some (.inl n), some (.inl e), some (.inl (σ.1 8 0 8))] [.inl (-1), .inl (-1), .inr (.inr (0, 1))] (zU (zU (zU (zU (zU (zU (zU (zU (zG σ G1) 1 ((16 * 0 + (σ.1 8 0 8).toNat)) 0 (3 : Int)) 1 ((16 * 0 + (σ.1 8 0 8).toNat)) 1 s) 1 ((16 * 0 + (σ.1 8 0 8).toNat)) 2 r) 1 ((16 * 0 + (σ.1 8 0 8).toNat)) 3 n) 1 ((16 * 0 + (σ.1 8 0 8).toNat)) 4 e) 1 ((16 * 0 + (σ.1 8 0 8).toNat)) 5 0) 1 ((16 * 0 + (σ.1 8 0 8).toNat)) 6 96) 8 0 8 (zW ((σ.1 8 0 8) + 1))) Q)
    (h2 : (0 ≤ (3 : Int) ∧ (3 : Int) ≤ 5) ∧ (0 ≤ s ∧ s ≤ 3) ∧ (0 ≤ r ∧ r ≤ 6) ∧ (0 ≤ n ∧ n ≤ 9999 ∧ ((3 : Int) = 2 → n ≤ 100)) ∧ 0 ≤ e ∧ e ≤ 9999 → ¬ σ.1 8 0 8 < 16 → Q (some (.inl (-4))) σ)
    (h3 : ¬ ((0 ≤ (3 : Int) ∧ (3 : Int) ≤ 5) ∧ (0 ≤ s ∧ s ≤ 3) ∧ (0 ≤ r ∧ r ≤ 6) ∧ (0 ≤ n ∧ n ≤ 9999 ∧ ((3 : Int) = 2 → n ≤ 100)) ∧ 0 ≤ e ∧ e ≤ 9999) → Q (some (.inl (-2))) σ) :
    zM (d + 20) 92 [.inr (.inr (9, 0)), .inl s, .inl r, .inl n, .inl e] σ Q := by
  refine zX_run (n' := 5) (ls' := [some (.inr (.inr (9, 0))), some (.inl s), some (.inl r), some (.inl n), some (.inl e), none]) (st' := [.inl e, .inl n, .inl r, .inl s, .inl 3]) (σ' := σ) 5 rfl ?_
  refine zX_call rfl rfl ?_
  refine zs_111 (fun a1 => ?_) (fun a2 => ?_)
  · skip
    refine zX_run (n' := 15) (ls' := [some (.inr (.inr (9, 0))), some (.inl s), some (.inl r), some (.inl n), some (.inl e), some (.inl (σ.1 8 0 8))]) (st' := [.inl 16, .inl (σ.1 8 0 8)]) (σ' := σ) 7 rfl ?_
    refine zX_c2 rfl (fun a3 => ?_) (fun a3 => ?_)
    · skip
      refine zX_run (n' := 21) (ls' := [some (.inr (.inr (9, 0))), some (.inl s), some (.inl r), some (.inl n), some (.inl e), some (.inl (σ.1 8 0 8))]) (st' := [.inl 96, .inr (.inr (0, 0))]) (σ' := σ) 3 rfl ?_
      refine zX_call rfl rfl ?_
      refine ys_2 (o1 a1 a3) (o2 a1 a3) (fun G1 a4 a5 a6 => ?_)
      · skip
        refine zX_run (n' := 26) (ls' := [some (.inr (.inr (9, 0))), some (.inl s), some (.inl r), some (.inl n), some (.inl e), some (.inl (σ.1 8 0 8))]) (st' := [.inl (σ.1 8 0 8), .inr (.inr (39, 0))]) (σ' := (zG σ G1)) 4 rfl ?_
        refine zX_ald5 (L := 16) rfl (by decide) rfl (o3 a1 a3 G1 a4 a5 a6) ?_
        refine zX_run (n' := 32) (ls' := [some (.inr (.inr (9, 0))), some (.inl s), some (.inl r), some (.inl n), some (.inl e), some (.inl (σ.1 8 0 8))]) (st' := [.inl e, .inl n, .inl r, .inl s, .inl 3, .inr (.inr (1, 16 * 0 + (σ.1 8 0 8).toNat))]) (σ' := (zG σ G1)) 5 rfl ?_
        refine zX_call rfl rfl ?_
        refine zm_25 ?_
        · skip
          refine zX_run (n' := 43) (ls' := [some (.inr (.inr (9, 0))), some (.inl s), some (.inl r), some (.inl n), some (.inl e), some (.inl (σ.1 8 0 8))]) (st' := [.inl (-1), .inl (-1), .inr (.inr (0, 1))]) (σ' := (zU (zU (zU (zU (zU (zU (zU (zU (zG σ G1) 1 ((16 * 0 + (σ.1 8 0 8).toNat)) 0 (3 : Int)) 1 ((16 * 0 + (σ.1 8 0 8).toNat)) 1 s) 1 ((16 * 0 + (σ.1 8 0 8).toNat)) 2 r) 1 ((16 * 0 + (σ.1 8 0 8).toNat)) 3 n) 1 ((16 * 0 + (σ.1 8 0 8).toNat)) 4 e) 1 ((16 * 0 + (σ.1 8 0 8).toNat)) 5 0) 1 ((16 * 0 + (σ.1 8 0 8).toNat)) 6 96) 8 0 8 (zW ((σ.1 8 0 8) + 1)))) 10 rfl ?_
          exact h1 a1 a3 G1 a4 a5 a6
    · skip
      refine zX_run (n' := 17) (ls' := [some (.inr (.inr (9, 0))), some (.inl s), some (.inl r), some (.inl n), some (.inl e), some (.inl (σ.1 8 0 8))]) (st' := [.inl (-4)]) (σ' := σ) 1 rfl ?_
      exact zX_ret rfl rfl (h2 a1 a3)
  · skip
    refine zX_run (n' := 8) (ls' := [some (.inr (.inr (9, 0))), some (.inl s), some (.inl r), some (.inl n), some (.inl e), none]) (st' := [.inl (-2)]) (σ' := σ) 2 rfl ?_
    exact zX_ret rfl rfl (h3 a2)
-- X9_found
theorem zb_92b {d : Nat} {σ : zS} {Q : Option zV → zS → Prop} {s r n e q : Int}
    (h1 : zX (d + 20) 92 47 [some (.inr (.inr (9, 0))), some (.inl s), some (.inl r), some (.inl n), some (.inl e), some (.inl q)] [.inl 96, .inr (.inr (0, 1))] σ Q) :
    zX (d + 20) 92 44 [some (.inr (.inr (9, 0))), some (.inl s), some (.inl r), some (.inl n), some (.inl e), some (.inl q)] [] σ Q := by
  refine zX_run (n' := 47) (ls' := [some (.inr (.inr (9, 0))), some (.inl s), some (.inl r), some (.inl n), some (.inl e), some (.inl q)]) (st' := [.inl 96, .inr (.inr (0, 1))]) (σ' := σ) 3 rfl ?_
  exact h1
-- X9_found
theorem zb_92c {d : Nat} {σ : zS} {Q : Option zV → zS → Prop} {s r n e q : Int}
    (h1 : zX (d + 20) 92 53 [some (.inr (.inr (9, 0))), some (.inl s), some (.inl r), some (.inl n), some (.inl e), some (.inl q)] [.inr (.inr (9, 0))] (zU σ 8 0 8 q) Q) :
    zX (d + 20) 92 48 [some (.inr (.inr (9, 0))), some (.inl s), some (.inl r), some (.inl n), some (.inl e), some (.inl q)] [] σ Q := by
  refine zX_run (n' := 53) (ls' := [some (.inr (.inr (9, 0))), some (.inl s), some (.inl r), some (.inl n), some (.inl e), some (.inl q)]) (st' := [.inr (.inr (9, 0))]) (σ' := (zU σ 8 0 8 q)) 5 rfl ?_
  exact h1
-- X9_found
theorem zb_92d {d : Nat} {σ : zS} {Q : Option zV → zS → Prop} {s r n e q v : Int}
    (h1 : Q (some (.inl v)) σ) :
    zX (d + 20) 92 54 [some (.inr (.inr (9, 0))), some (.inl s), some (.inl r), some (.inl n), some (.inl e), some (.inl q)] [.inl v] σ Q := by
  exact zX_ret rfl rfl h1
-- X10_found
theorem zb_176 {d : Nat} {σ : zS} {Q : Option zV → zS → Prop} {s : Int} {r : Int} {n : Int} {e : Int}
    (h1 : (0 ≤ (3 : Int) ∧ (3 : Int) ≤ 5) ∧ (0 ≤ s ∧ s ≤ 3) ∧ (0 ≤ r ∧ r ≤ 6) ∧ (0 ≤ n ∧ n ≤ 9999 ∧ ((3 : Int) = 2 → n ≤ 100)) ∧ 0 ≤ e ∧ e ≤ 9999 → ¬ σ.1 10 0 4 = 16 → zX (d + 10) 176 16 [some (.inr (.inr (10, 0))), some (.inl s), some (.inl r), some (.inl n), some (.inl e)] [.inr (.inr (10, 0))] σ Q)
    (h2 : (0 ≤ (3 : Int) ∧ (3 : Int) ≤ 5) ∧ (0 ≤ s ∧ s ≤ 3) ∧ (0 ≤ r ∧ r ≤ 6) ∧ (0 ≤ n ∧ n ≤ 9999 ∧ ((3 : Int) = 2 → n ≤ 100)) ∧ 0 ≤ e ∧ e ≤ 9999 → σ.1 10 0 4 = 16 → Q (some (.inl (-4))) σ)
    (h3 : ¬ ((0 ≤ (3 : Int) ∧ (3 : Int) ≤ 5) ∧ (0 ≤ s ∧ s ≤ 3) ∧ (0 ≤ r ∧ r ≤ 6) ∧ (0 ≤ n ∧ n ≤ 9999 ∧ ((3 : Int) = 2 → n ≤ 100)) ∧ 0 ≤ e ∧ e ≤ 9999) → Q (some (.inl (-2))) σ) :
    zM (d + 10) 176 [.inr (.inr (10, 0)), .inl s, .inl r, .inl n, .inl e] σ Q := by
  refine zX_run (n' := 5) (ls' := [some (.inr (.inr (10, 0))), some (.inl s), some (.inl r), some (.inl n), some (.inl e)]) (st' := [.inl e, .inl n, .inl r, .inl s, .inl 3]) (σ' := σ) 5 rfl ?_
  refine zX_call rfl rfl ?_
  refine zs_130 (fun a1 => ?_) (fun a2 => ?_)
  · skip
    refine zX_run (n' := 12) (ls' := [some (.inr (.inr (10, 0))), some (.inl s), some (.inl r), some (.inl n), some (.inl e)]) (st' := [.inl 16, .inl (σ.1 10 0 4)]) (σ' := σ) 4 rfl ?_
    refine zX_c1 rfl (fun a3 => ?_) (fun a3 => ?_)
    · skip
      refine zX_run (n' := 16) (ls' := [some (.inr (.inr (10, 0))), some (.inl s), some (.inl r), some (.inl n), some (.inl e)]) (st' := [.inr (.inr (10, 0))]) (σ' := σ) 1 rfl ?_
      exact h1 a1 a3
    · skip
      refine zX_run (n' := 14) (ls' := [some (.inr (.inr (10, 0))), some (.inl s), some (.inl r), some (.inl n), some (.inl e)]) (st' := [.inl (-4)]) (σ' := σ) 1 rfl ?_
      exact zX_ret rfl rfl (h2 a1 a3)
  · skip
    refine zX_run (n' := 8) (ls' := [some (.inr (.inr (10, 0))), some (.inl s), some (.inl r), some (.inl n), some (.inl e)]) (st' := [.inl (-2)]) (σ' := σ) 2 rfl ?_
    exact zX_ret rfl rfl (h3 a2)
-- X10_found
theorem zb_176b {d : Nat} {σ : zS} {Q : Option zV → zS → Prop} {s r n e : Int}
    (o1 : (0 : Int) ≤ (σ.1 10 0 4) ∧ (σ.1 10 0 4) < (17 : Int))
    (h1 : zX (d + 10) 176 33 [some (.inr (.inr (10, 0))), some (.inl s), some (.inl r), some (.inl n), some (.inl e)] [.inr (.inr (10, 0))] (zU (zU (zU (zU (zU (zU (zU (zU σ 60 0 ((σ.1 10 0 4).toNat) (3 : Int)) 61 0 ((σ.1 10 0 4).toNat) s) 62 0 ((σ.1 10 0 4).toNat) r) 63 0 ((σ.1 10 0 4).toNat) n) 64 0 ((σ.1 10 0 4).toNat) e) 65 0 ((σ.1 10 0 4).toNat) 0) 66 0 ((σ.1 10 0 4).toNat) 96) 10 0 4 (zW ((σ.1 10 0 4) + 1))) Q) :
    zX (d + 10) 176 17 [some (.inr (.inr (10, 0))), some (.inl s), some (.inl r), some (.inl n), some (.inl e)] [] σ Q := by
  refine zX_run (n' := 25) (ls' := [some (.inr (.inr (10, 0))), some (.inl s), some (.inl r), some (.inl n), some (.inl e)]) (st' := [.inl e, .inl n, .inl r, .inl s, .inl 3, .inl (σ.1 10 0 4), .inr (.inr (10, 0))]) (σ' := σ) 8 rfl ?_
  refine zX_call rfl rfl ?_
  refine zm_131 o1 o1 o1 o1 o1 o1 o1 ?_
  · skip
    refine zX_run (n' := 33) (ls' := [some (.inr (.inr (10, 0))), some (.inl s), some (.inl r), some (.inl n), some (.inl e)]) (st' := [.inr (.inr (10, 0))]) (σ' := (zU (zU (zU (zU (zU (zU (zU (zU σ 60 0 ((σ.1 10 0 4).toNat) (3 : Int)) 61 0 ((σ.1 10 0 4).toNat) s) 62 0 ((σ.1 10 0 4).toNat) r) 63 0 ((σ.1 10 0 4).toNat) n) 64 0 ((σ.1 10 0 4).toNat) e) 65 0 ((σ.1 10 0 4).toNat) 0) 66 0 ((σ.1 10 0 4).toNat) 96) 10 0 4 (zW ((σ.1 10 0 4) + 1)))) 7 rfl ?_
    exact h1
-- X10_found
theorem zb_176c {d : Nat} {σ : zS} {Q : Option zV → zS → Prop} {s r n e : Int}
    (h1 : zX (d + 10) 176 44 [some (.inr (.inr (10, 0))), some (.inl s), some (.inl r), some (.inl n), some (.inl e)] [.inl (-1), .inl (zW ((σ.1 10 0 4) - 1)), .inr (.inr (10, 0))] (zU σ 10 0 4 (zW ((σ.1 10 0 4) - 1))) Q) :
    zX (d + 10) 176 34 [some (.inr (.inr (10, 0))), some (.inl s), some (.inl r), some (.inl n), some (.inl e)] [] σ Q := by
  refine zX_run (n' := 44) (ls' := [some (.inr (.inr (10, 0))), some (.inl s), some (.inl r), some (.inl n), some (.inl e)]) (st' := [.inl (-1), .inl (zW ((σ.1 10 0 4) - 1)), .inr (.inr (10, 0))]) (σ' := (zU σ 10 0 4 (zW ((σ.1 10 0 4) - 1)))) 10 rfl ?_
  exact h1
-- X10_found
theorem zb_176d {d : Nat} {σ : zS} {Q : Option zV → zS → Prop} {s r n e v : Int}
    (h1 : Q (some (.inl v)) σ) :
    zX (d + 10) 176 45 [some (.inr (.inr (10, 0))), some (.inl s), some (.inl r), some (.inl n), some (.inl e)] [.inl v] σ Q := by
  exact zX_ret rfl rfl h1
def zHc (σ : zS) (q : Nat) (k s r n e : Int) : zS := zU (zU (zU (zU (zU (zU (zU σ 1 (16 * 0 + q) 0 k) 1 (16 * 0 + q) 1 s) 1 (16 * 0 + q) 2 r) 1 (16 * 0 + q) 3 n) 1 (16 * 0 + q) 4 e) 1 (16 * 0 + q) 5 0) 1 (16 * 0 + q) 6 96
def zHm (σ : zS) (q : Nat) (k s r n e : Int) : zS := zU (zU (zU (zU (zU (zU (zU σ 60 0 q k) 61 0 q s) 62 0 q r) 63 0 q n) 64 0 q e) 65 0 q 0) 66 0 q 96
theorem hc_1 {σ : zS} {q h j : Nat} {k s r n e : Int} (hn : ¬ h = q) : (zHc σ q k s r n e).1 1 (16 * 0 + h) j = σ.1 1 (16 * 0 + h) j := by
  have ne : ¬ 16 * 0 + h = 16 * 0 + q := by omega
  show (if 1 = 1 ∧ j = 6 ∧ 16 * 0 + h = 16 * 0 + q then 96 else if 1 = 1 ∧ j = 5 ∧ 16 * 0 + h = 16 * 0 + q then 0 else if 1 = 1 ∧ j = 4 ∧ 16 * 0 + h = 16 * 0 + q then e else if 1 = 1 ∧ j = 3 ∧ 16 * 0 + h = 16 * 0 + q then n else if 1 = 1 ∧ j = 2 ∧ 16 * 0 + h = 16 * 0 + q then r else if 1 = 1 ∧ j = 1 ∧ 16 * 0 + h = 16 * 0 + q then s else if 1 = 1 ∧ j = 0 ∧ 16 * 0 + h = 16 * 0 + q then k else σ.1 1 (16 * 0 + h) j) = _
  rw [if_neg (fun x => ne x.2.2), if_neg (fun x => ne x.2.2), if_neg (fun x => ne x.2.2), if_neg (fun x => ne x.2.2), if_neg (fun x => ne x.2.2), if_neg (fun x => ne x.2.2), if_neg (fun x => ne x.2.2)]
theorem hm_60 {σ : zS} {q h K : Nat} {k s r n e : Int} (hn : ¬ h = q) : (zHm σ q k s r n e).1 K 0 h = σ.1 K 0 h := by
  show (if K = 66 ∧ h = q ∧ 0 = 0 then 96 else if K = 65 ∧ h = q ∧ 0 = 0 then 0 else if K = 64 ∧ h = q ∧ 0 = 0 then e else if K = 63 ∧ h = q ∧ 0 = 0 then n else if K = 62 ∧ h = q ∧ 0 = 0 then r else if K = 61 ∧ h = q ∧ 0 = 0 then s else if K = 60 ∧ h = q ∧ 0 = 0 then k else σ.1 K 0 h) = _
  rw [if_neg (fun x => hn x.2.1), if_neg (fun x => hn x.2.1), if_neg (fun x => hn x.2.1), if_neg (fun x => hn x.2.1), if_neg (fun x => hn x.2.1), if_neg (fun x => hn x.2.1), if_neg (fun x => hn x.2.1)]
theorem uOrs_cg {p : Nat → Bool} {f g : Nat → Nat} : ∀ {n : Nat}, (∀ c, c < n → f c = g c) → uOrs p f n = uOrs p g n
  | 0, _ => rfl
  | n + 1, h => by unfold uOrs; rw [h n (by omega), uOrs_cg (n := n) (fun c hc => h c (by omega))]
/-- a hold that isn't counted changes nothing that a flow stands on -/
theorem hc_shut {σ : zS} {q : Nat} {k s r n e m l : Int} (h8 : σ.1 8 0 8 = (q : Int)) (hc : ∀ c : Nat, (c : Int) < σ.1 8 0 11 → 0 ≤ σ.1 40 0 c ∧ σ.1 40 0 c < (q : Int)) : cShut (zHc σ q k s r n e) m l = cShut σ m l := by
  refine uOrs_cg (fun c hcn => ?_)
  have hcn : c < (σ.1 8 0 11).toNat := hcn
  have b := hc c (by omega)
  have cq : ¬ (σ.1 40 0 c).toNat = q := by omega
  show uBits (cSb (zHc σ q k s r n e) (16 * 0 + (σ.1 40 0 c).toNat)) (σ.1 8 0 8).toNat = uBits (cSb σ (16 * 0 + (σ.1 40 0 c).toNat)) (σ.1 8 0 8).toNat
  rw [h8, Int.toNat_natCast]
  refine uBits_cg (fun h hh => ?_)
  have hq : ¬ h = q := by omega
  unfold cSb cRk cH
  rw [hc_1 hq, hc_1 hq, hc_1 hq, hc_1 cq, hc_1 cq, hc_1 cq]
theorem cFl_hc {σ : zS} {q : Nat} {k s r n e : Int} {D : uT} {a rd : Nat} (hN : uN D = q) (h8 : σ.1 8 0 8 = (q : Int)) (hc : ∀ c : Nat, (c : Int) < σ.1 8 0 11 → 0 ≤ σ.1 40 0 c ∧ σ.1 40 0 c < (q : Int)) (F : cFl σ 0 D a rd) : cFl (zHc σ q k s r n e) 0 D a rd := by
  obtain ⟨⟨w1, w2, w3, w4, w5, w6⟩, ⟨h1, h2, h3, h4, h5⟩, od, aa, rm, l0, mn⟩ := F
  have nq : ∀ h, h < uN D → ¬ h = q := fun h hh => by omega
  have tx : ∀ h, h < uN D → cTx (zHc σ q k s r n e) 0 h = cTx σ 0 h := fun h hh => by
    unfold cTx
    rw [hc_1 (nq h hh)]; rfl
  refine ⟨⟨w1, w2, w3, w4, w5, fun h j hh hj => (hc_1 (nq h hh)).trans (w6 h j hh hj)⟩, ⟨fun r m hr hm => h1 r m hr hm, fun h hh => ?_, h3, h4, fun h m hh hm => ?_⟩, od, aa, fun m hm => ?_, l0, mn⟩
  · have t := h2 h hh
    rw [tx h hh]
    refine ⟨?_, t.2⟩
    have t1 := t.1
    unfold cTxr at t1 ⊢
    rw [hc_1 (nq h hh)]
    exact t1
  · rw [hc_shut h8 hc]; exact h5 h m hh hm
  · have t := rm m hm
    refine ⟨?_, fun h hh => ?_⟩
    · rw [hc_shut h8 hc]; exact t.1
    · have u := t.2 h hh
      show σ.1 16 (16 * 0 + h) m = _
      rw [u]
      unfold cRdv
      rw [tx h hh]; rfl
theorem yr_hc {σ : zS} (R : yRel σ) {q : Nat} {k s r n e : Int} (hq : σ.1 10 0 4 = (q : Int)) : yRel (zHc σ q k s r n e) := by
  have N8 := (yN8 R).1
  have hN : uN (mD σ) = q := by show (σ.1 10 0 4).toNat = q; rw [hq, Int.toNat_natCast]
  obtain ⟨S, G, L, H, C, Tx, Ru, K, Tp, Sh, B⟩ := R
  obtain ⟨H1, H2, H3⟩ := H
  have hc : ∀ c : Nat, (c : Int) < σ.1 8 0 11 → 0 ≤ σ.1 40 0 c ∧ σ.1 40 0 c < (q : Int) := fun c hc => by
    rw [C.1.1] at hc
    have x := C.2 c hc
    rw [x.1.1, ← hq]; exact x.2.1
  refine ⟨S, G, L, ⟨H1, fun h hh => ?_, H3⟩, C, Tx, Ru, K, Tp, Sh, B.1, fun f => ?_⟩
  · have hh : (h : Int) < σ.1 10 0 4 := hh
    have nq : ¬ h = q := by omega
    have x := H2 h hh
    unfold cH at x ⊢
    rw [hc_1 nq, hc_1 nq, hc_1 nq, hc_1 nq, hc_1 nq, hc_1 nq, hc_1 nq]
    exact x
  · obtain ⟨a, rd, h, F⟩ := B.2 f
    exact ⟨a, rd, h, cFl_hc hN (N8.trans hq) hc F⟩
theorem cWk_hc {σ : zS} (R : yRel σ) {q : Nat} {k s r n e M : Int} (hq : σ.1 10 0 4 = (q : Int)) (W : cWk σ 0 (mD σ) M) : cWk (zHc σ q k s r n e) 0 (mD σ) M := by
  have N8 := (yN8 R).1
  have hN : uN (mD σ) = q := by show (σ.1 10 0 4).toNat = q; rw [hq, Int.toNat_natCast]
  have C := R.2.2.2.2.1
  have hc : ∀ c : Nat, (c : Int) < σ.1 8 0 11 → 0 ≤ σ.1 40 0 c ∧ σ.1 40 0 c < (q : Int) := fun c hc => by
    rw [C.1.1] at hc
    have x := C.2 c hc
    rw [x.1.1, ← hq]; exact x.2.1
  obtain ⟨a, rd, h1, h2, F⟩ := W
  exact ⟨a, rd, h1, h2, cFl_hc hN (N8.trans hq) hc F⟩
theorem yTd_h {σ : zS} (R : yRel σ) {q : Nat} {s r n e : Int} (hq : σ.1 10 0 4 = (q : Int)) (q16 : q < 16) (P : (0 ≤ (3 : Int) ∧ (3 : Int) ≤ 5) ∧ (0 ≤ s ∧ s ≤ 3) ∧ (0 ≤ r ∧ r ≤ 6) ∧ (0 ≤ n ∧ n ≤ 9999 ∧ ((3 : Int) = 2 → n ≤ 100)) ∧ 0 ≤ e ∧ e ≤ 9999) :
    cTd (zU (zHc σ q 3 s r n e) 8 0 8 ((q + 1 : Nat) : Int)) (mD (zU (zHm σ q 3 s r n e) 10 0 4 ((q + 1 : Nat) : Int))) (-1) (-1) ∧ mOk (zU (zHm σ q 3 s r n e) 10 0 4 ((q + 1 : Nat) : Int)) := by
  have Y := yr_hold R hq q16 P
  have T := yTd Y
  have K := yMok Y
  exact ⟨T, K⟩
theorem cOth_U8 {s : zS} {G : Nat → Nat → Nat → Int} {f n j : Nat} {a : Int} (O : cOth (zU s 8 n j a) G f) : cOth s G f :=
  ⟨O.1, fun k h1 h2 x y h => (O.2.1 k h1 h2 x y h).trans (if_neg (fun p => by omega)), fun k h1 h2 x y h => (O.2.2 k h1 h2 x y h).trans (if_neg (fun p => by omega))⟩
theorem zHm_mD {σ : zS} {q : Nat} {s r n e : Int} {x y : zS} (E : ∀ k, k = 10 ∨ 46 ≤ k → x.1 k = y.1 k) : mD (zU (zHm x q 3 s r n e) 10 0 4 ((q + 1 : Nat) : Int)) = mD (zU (zHm y q 3 s r n e) 10 0 4 ((q + 1 : Nat) : Int)) :=
  yE_mD (fun k hk => by
    unfold zHm zU
    show (fun m i => _) = _
    simp only [E k hk])
theorem uAny_cg {p p' : Nat → Bool} : ∀ {n : Nat}, (∀ c, c < n → p c = p' c) → uAny p n = uAny p' n
  | 0, _ => rfl
  | n + 1, h => by unfold uAny; rw [h n (by omega), uAny_cg (n := n) (fun c hc => h c (by omega))]
theorem hm_ag {σ : zS} (R : yRel σ) {q : Nat} {k s r n e : Int} (hq : σ.1 10 0 4 = (q : Int)) : uAg (mD σ) (mD (zHm σ q k s r n e)) := by
  have hN : uN (mD σ) = q := by show (σ.1 10 0 4).toNat = q; rw [hq, Int.toNat_natCast]
  refine ⟨fun f hf => ?_, fun f h h8 h14 hh => ?_, fun h m hh hm => ?_⟩
  · match f, hf with
    | 0, _ => rfl
    | 1, _ => rfl
    | 2, _ => rfl
    | 3, _ => rfl
    | 4, _ => rfl
    | 5, _ => rfl
    | 6, _ => rfl
    | 7, _ => rfl
    | 8, h => exact absurd h (by decide)
    | 9, h => exact absurd h (by decide)
    | 10, h => exact absurd h (by decide)
    | 11, h => exact absurd h (by decide)
    | 12, h => exact absurd h (by decide)
    | 13, h => exact absurd h (by decide)
    | 14, h => exact absurd h (by decide)
    | 15, h => exact absurd h (by decide)
    | 16, _ => rfl
    | 17, _ => rfl
    | 18, _ => rfl
    | 19, _ => rfl
    | f + 20, _ => rfl
  · have nq : ¬ h = q := by omega
    rcases (show f = 8 ∨ f = 9 ∨ f = 10 ∨ f = 11 ∨ f = 12 ∨ f = 13 ∨ f = 14 by omega) with rfl | rfl | rfl | rfl | rfl | rfl | rfl
    all_goals exact (hm_60 nq).symm
  · have nq : ¬ h = q := by omega
    rw [mD_15 hm, mD_15 hm]
    have C := R.2.2.2.2.1
    have e : mSh (zHm σ q k s r n e) h (m : Int) = mSh σ h (m : Int) := by
      refine uAny_cg (fun c hc => ?_)
      have hc : c < (σ.1 10 0 5).toNat := hc
      have x := (C.2 c (by omega)).2.1
      have y : σ.1 67 0 c < (q : Int) := by rw [← hq]; exact x.2
      have cq : ¬ (σ.1 67 0 c).toNat = q := by omega
      show decide (¬ (c : Int) = σ.1 10 0 54 ∧ σ.1 68 0 c = (m : Int) ∧ (zHm σ q k s r n e).1 62 0 h ≤ (zHm σ q k s r n e).1 62 0 (σ.1 67 0 c).toNat ∧ uRank ((zHm σ q k s r n e).1 60 0 (σ.1 67 0 c).toNat) ((zHm σ q k s r n e).1 64 0 (σ.1 67 0 c).toNat) < uRank ((zHm σ q k s r n e).1 60 0 h) ((zHm σ q k s r n e).1 64 0 h)) = _
      rw [hm_60 nq, hm_60 cq, hm_60 cq, hm_60 cq, hm_60 nq, hm_60 nq]
      rfl
    rw [e]
theorem yr_hm {σ τ : zS} (R : yRel σ) {q : Nat} {k s r n e : Int} (hq : σ.1 10 0 4 = (q : Int)) : yRel (yR (zHm σ q k s r n e) τ) := by
  have A := hm_ag R (k := k) (s := s) (r := r) (n := n) (e := e) hq
  obtain ⟨S, G, L, H, C, Tx, Ru, K, Tp, Sh, B⟩ := R
  obtain ⟨H1, H2, H3⟩ := H
  refine ⟨S, G, L, ⟨H1, fun h hh => ?_, fun h hh => ?_⟩, C, Tx, Ru, K, Tp, Sh, B.1, fun f => ?_⟩
  · have hh : (h : Int) < σ.1 10 0 4 := hh
    have nq : ¬ h = q := by omega
    have x := H2 h hh
    show cH σ h 0 = (zHm σ q k s r n e).1 60 0 h ∧ cH σ h 1 = (zHm σ q k s r n e).1 61 0 h ∧ cH σ h 2 = (zHm σ q k s r n e).1 62 0 h ∧ cH σ h 3 = (zHm σ q k s r n e).1 63 0 h ∧ cH σ h 4 = (zHm σ q k s r n e).1 64 0 h ∧ cH σ h 5 = (zHm σ q k s r n e).1 65 0 h ∧ cH σ h 6 = (zHm σ q k s r n e).1 66 0 h
    rw [hm_60 nq, hm_60 nq, hm_60 nq, hm_60 nq, hm_60 nq, hm_60 nq, hm_60 nq]
    exact x
  · have hh : (h : Int) < σ.1 10 0 4 := hh
    have nq : ¬ h = q := by omega
    have x := H3 h hh
    show (0 ≤ (zHm σ q k s r n e).1 60 0 h ∧ (zHm σ q k s r n e).1 60 0 h ≤ 5) ∧ (0 ≤ (zHm σ q k s r n e).1 61 0 h ∧ (zHm σ q k s r n e).1 61 0 h ≤ 3) ∧ (0 ≤ (zHm σ q k s r n e).1 62 0 h ∧ (zHm σ q k s r n e).1 62 0 h ≤ 6) ∧ (0 ≤ (zHm σ q k s r n e).1 63 0 h ∧ (zHm σ q k s r n e).1 63 0 h ≤ 9999 ∧ ((zHm σ q k s r n e).1 60 0 h = 2 → (zHm σ q k s r n e).1 63 0 h ≤ 100)) ∧ (0 ≤ (zHm σ q k s r n e).1 64 0 h ∧ (zHm σ q k s r n e).1 64 0 h ≤ 9999)
    rw [hm_60 nq, hm_60 nq, hm_60 nq, hm_60 nq, hm_60 nq]
    exact x
  · obtain ⟨a, rd, h, F⟩ := B.2 f
    exact ⟨a, rd, h, cFl_ag A F⟩
theorem yE_hc {σ : zS} {q : Nat} {k s r n e : Int} : yE σ (zHc σ q k s r n e) := ⟨rfl, fun K hK => by
  refine funext fun m => funext fun j => ?_
  show (if K = 1 ∧ j = 6 ∧ m = 16 * 0 + q then 96 else if K = 1 ∧ j = 5 ∧ m = 16 * 0 + q then 0 else if K = 1 ∧ j = 4 ∧ m = 16 * 0 + q then e else if K = 1 ∧ j = 3 ∧ m = 16 * 0 + q then n else if K = 1 ∧ j = 2 ∧ m = 16 * 0 + q then r else if K = 1 ∧ j = 1 ∧ m = 16 * 0 + q then s else if K = 1 ∧ j = 0 ∧ m = 16 * 0 + q then k else σ.1 K m j) = _
  have ne : ¬ K = 1 := by omega
  rw [if_neg (fun x => ne x.1), if_neg (fun x => ne x.1), if_neg (fun x => ne x.1), if_neg (fun x => ne x.1), if_neg (fun x => ne x.1), if_neg (fun x => ne x.1), if_neg (fun x => ne x.1)]⟩
def vFound (σ : zS) (s r n e : Int) : Int := if (0 ≤ (3 : Int) ∧ (3 : Int) ≤ 5) ∧ (0 ≤ s ∧ s ≤ 3) ∧ (0 ≤ r ∧ r ≤ 6) ∧ (0 ≤ n ∧ n ≤ 9999 ∧ ((3 : Int) = 2 → n ≤ 100)) ∧ 0 ≤ e ∧ e ≤ 9999 then (if σ.1 10 0 4 = 16 then -4 else ((uBits (fun h => decide (vTot (mD (zU (zHm σ (σ.1 10 0 4).toNat 3 s r n e) 10 0 4 (((σ.1 10 0 4).toNat + 1 : Nat) : Int))) h < vTot (mD σ) h)) (uN (mD σ)) : Nat) : Int)) else -2
theorem yc_92 {d : Nat} (s r n e : Int) : yC (d + 60) 92 [.inl s, .inl r, .inl n, .inl e] (fun x => .inl (vFound x s r n e)) := fun σ Q R q => by
  have q : ∀ x, yE σ x → yRel x → Q (some (.inl (vFound σ s r n e))) x := q
  obtain ⟨n8, n0, n16⟩ := yN8 R
  by_cases P : (0 ≤ (3 : Int) ∧ (3 : Int) ≤ 5) ∧ (0 ≤ s ∧ s ≤ 3) ∧ (0 ≤ r ∧ r ≤ 6) ∧ (0 ≤ n ∧ n ≤ 9999 ∧ ((3 : Int) = 2 → n ≤ 100)) ∧ 0 ≤ e ∧ e ≤ 9999
  case neg =>
    have q := q _ yE_r R
    rw [show vFound σ s r n e = -2 from if_neg P] at q
    exact zb_92 (d := d + 40) (fun a => absurd a P) (fun a => absurd a P) (fun a => absurd a P) (fun a => absurd a P) (fun a => absurd a P) (fun _ => q)
  obtain ⟨k, hk⟩ := Int.eq_ofNat_of_zero_le n0
  have k8 : σ.1 8 0 8 = (k : Int) := n8.trans hk
  by_cases c : k = 16
  · have q := q _ yE_r R
    have c' : σ.1 10 0 4 = 16 := by rw [hk, c]; rfl
    rw [show vFound σ s r n e = -4 from (if_pos P).trans (if_pos c')] at q
    have nl : ¬ σ.1 8 0 8 < 16 := by rw [k8, c]; decide
    exact zb_92 (d := d + 40) (fun _ a => absurd a nl) (fun _ a => absurd a nl) (fun _ a => absurd a nl) (fun _ a => absurd a nl) (fun _ _ => q) (fun a => absurd P a)
  have k16 : k < 16 := by clear q; omega
  have c' : ¬ σ.1 10 0 4 = 16 := by rw [hk]; clear q; omega
  have hN : uN (mD σ) = k := by show (σ.1 10 0 4).toNat = k; rw [hk, Int.toNat_natCast]
  have N16 := (yOk R).2.2.2.2.1
  have ik : (0 : Int) ≤ (k : Int) ∧ (k : Int) < 16 := by clear q; omega
  have lt : ¬ ¬ σ.1 8 0 8 < 16 := by rw [k8]; clear q; omega
  have hz : zW ((k : Int) + 1) = ((k + 1 : Nat) : Int) := zWs (by clear q; omega)
  have F : vFound σ s r n e = ((uBits (fun h => decide (vTot (mD (zU (zHm σ k 3 s r n e) 10 0 4 ((k + 1 : Nat) : Int))) h < vTot (mD σ) h)) (uN (mD σ)) : Nat) : Int) := by
    unfold vFound
    rw [if_pos P, if_neg c', hk, Int.toNat_natCast]
  rw [F] at q
  clear F
  refine zb_92 (d := d + 40) (fun _ _ => by decide) (fun _ _ => R) (fun _ _ _ _ _ _ => by rw [k8]; exact ik) (fun _ _ G1 W1 R1 O1 => ?_) (fun _ a => absurd a lt) (fun a => absurd P a)
  rw [k8, hz, Int.toNat_natCast]
  show zX (d + 40 + 20) 92 43 [some (.inr (.inr (9, 0))), some (.inl s), some (.inl r), some (.inl n), some (.inl e), some (.inl (k : Int))] [.inl (-1), .inl (-1), .inr (.inr (0, 1))] (zU (zHc (zG σ G1) k 3 s r n e) 8 0 8 ((k + 1 : Nat) : Int)) Q
  obtain ⟨T, K⟩ := yTd_h R1 hk k16 P
  have OK' : uOk (mD (zU (zHm (zG σ G1) k 3 s r n e) 10 0 4 ((k + 1 : Nat) : Int))) := K.1
  refine zX_call rfl rfl ?_
  refine ys_0 (d := d + 47) OK' T (fun G2 F2 O2 => ?_)
  refine zb_92b (d := d + 40) ?_
  refine zX_call rfl rfl ?_
  refine ys_2t (d := d + 45) OK' (by decide) (Nat.le_refl 0) F2 (fun G3 W3 O3 => ?_)
  refine zb_92c (d := d + 40) ?_
  have e5 : zU (zG (zG (zU (zHc (zG σ G1) k 3 s r n e) 8 0 8 ((k + 1 : Nat) : Int)) G2) G3) 8 0 8 (k : Int) = zG (zG (zHc (zG σ G1) k 3 s r n e) G2) G3 := by
    rw [zG_Un (by decide), zG_Un (by decide), zU_U]
    exact zU_self k8
  have O2' : cOth (zHc (zG σ G1) k 3 s r n e) G2 1 := cOth_U8 O2
  have O3' : cOth (zG (zHc (zG σ G1) k 3 s r n e) G2) G3 1 := by rw [zG_Un (by decide)] at O3; exact cOth_U8 O3
  have R2 := yr_hc R1 (k := 3) (s := s) (r := r) (n := n) (e := e) hk
  have W2 : cWk (zHc (zG σ G1) k 3 s r n e) 0 (mD σ) 96 := cWk_hc R1 hk W1
  have R3 := yr_oth (yr_oth R2 O2') O3'
  have W4 := cWk_oth N16 O3' (cWk_oth N16 O2' W2)
  rw [e5]
  refine zX_call rfl rfl ?_
  refine zs_116 (d := d + 45) (g0 := vTot (mD σ)) (g1 := vTot (mD (zU (zHm σ k 3 s r n e) 10 0 4 ((k + 1 : Nat) : Int)))) (N := uN (mD σ)) (by rw [hN]; exact k8) N16 (fun x hx => cw_tot W4 hx) (fun x hx => ?_) ?_
  · have hx2 : x < uN (mD (zU (zHm (zG σ G1) k 3 s r n e) 10 0 4 ((k + 1 : Nat) : Int))) := by
      show x < (((k + 1 : Nat) : Int)).toNat
      rw [Int.toNat_natCast]
      exact Nat.lt_succ_of_lt (hN ▸ hx)
    have y := cw_tot (h := x) W3 hx2
    exact y
  · refine zb_92d (d := d + 40) ?_
    exact q _ (yE_t yE_G (yE_t (yE_hc) (yE_t yE_G yE_G))) R3
theorem ym_176 {d : Nat} (s r n e : Int) : yM (d + 60) 176 [.inl s, .inl r, .inl n, .inl e] (fun x => .inl (vFound x s r n e)) := fun σ Q R q => by
  have q : ∀ x, yRel x → Q (some (.inl (vFound σ s r n e))) x := q
  obtain ⟨n8, n0, n16⟩ := yN8 R
  by_cases P : (0 ≤ (3 : Int) ∧ (3 : Int) ≤ 5) ∧ (0 ≤ s ∧ s ≤ 3) ∧ (0 ≤ r ∧ r ≤ 6) ∧ (0 ≤ n ∧ n ≤ 9999 ∧ ((3 : Int) = 2 → n ≤ 100)) ∧ 0 ≤ e ∧ e ≤ 9999
  case neg =>
    have q := q _ R
    rw [show vFound σ s r n e = -2 from if_neg P] at q
    exact zb_176 (d := d + 50) (fun a => absurd a P) (fun a => absurd a P) (fun _ => q)
  obtain ⟨k, hk⟩ := Int.eq_ofNat_of_zero_le n0
  by_cases c' : σ.1 10 0 4 = 16
  · have q := q _ R
    rw [show vFound σ s r n e = -4 from (if_pos P).trans (if_pos c')] at q
    exact zb_176 (d := d + 50) (fun _ a => absurd c' a) (fun _ _ => q) (fun a => absurd P a)
  have k16 : k < 16 := by clear q; omega
  have hN : uN (mD σ) = k := by show (σ.1 10 0 4).toNat = k; rw [hk, Int.toNat_natCast]
  have N16 := (yOk R).2.2.2.2.1
  have ik : (0 : Int) ≤ (k : Int) ∧ (k : Int) < 17 := by clear q; omega
  have hz : zW ((k : Int) + 1) = ((k + 1 : Nat) : Int) := zWs (by clear q; omega)
  have hz2 : zW (((k + 1 : Nat) : Int) - 1) = (k : Int) := by clear q hz; unfold zW; omega
  have F : vFound σ s r n e = ((uBits (fun h => decide (vTot (mD (zU (zHm σ k 3 s r n e) 10 0 4 ((k + 1 : Nat) : Int))) h < vTot (mD σ) h)) (uN (mD σ)) : Nat) : Int) := by
    unfold vFound
    rw [if_pos P, if_neg c', hk, Int.toNat_natCast]
  rw [F] at q
  clear F
  refine zb_176 (d := d + 50) (fun _ _ => ?_) (fun _ a => absurd a c') (fun a => absurd P a)
  refine zX_call rfl rfl ?_
  refine zs_174 (d := d + 52) R (fun τ M R1 => ?_)
  have hk1 : (zFL (yR σ τ) 101 (uN (mD σ)) (vTot (mD σ))).1 10 0 4 = (k : Int) := hk
  refine zb_176b (d := d + 50) (by rw [hk1]; exact ik) ?_
  rw [hk1, hz, Int.toNat_natCast]
  show zX (d + 50 + 10) 176 33 [some (.inr (.inr (10, 0))), some (.inl s), some (.inl r), some (.inl n), some (.inl e)] [.inr (.inr (10, 0))] (zU (zHm (zFL (yR σ τ) 101 (uN (mD σ)) (vTot (mD σ))) k 3 s r n e) 10 0 4 ((k + 1 : Nat) : Int)) Q
  obtain ⟨T, K⟩ := yTd_h R1 (q := k) hk k16 P
  have K' : mOk (zU (zHm (zFL (yR σ τ) 101 (uN (mD σ)) (vTot (mD σ))) k 3 s r n e) 10 0 4 ((k + 1 : Nat) : Int)) := K
  refine zX_call rfl rfl ?_
  refine zs_158 (d := d + 53) K' (fun τ2 M2 => ?_)
  refine zb_176c (d := d + 50) ?_
  have e10 : (yR (zU (zHm (zFL (yR σ τ) 101 (uN (mD σ)) (vTot (mD σ))) k 3 s r n e) 10 0 4 ((k + 1 : Nat) : Int)) τ2).1 10 0 4 = ((k + 1 : Nat) : Int) := rfl
  rw [e10, hz2]
  have e2 : zU (yR (zU (zHm (zFL (yR σ τ) 101 (uN (mD σ)) (vTot (mD σ))) k 3 s r n e) 10 0 4 ((k + 1 : Nat) : Int)) τ2) 10 0 4 (k : Int) = yR (zHm (zFL (yR σ τ) 101 (uN (mD σ)) (vTot (mD σ))) k 3 s r n e) τ2 := by
    rw [yR_Un (by decide), zU_U]
    exact zU_self hk
  rw [e2, ← hN]
  refine zX_call rfl rfl ?_
  refine zs_175 (d := d + 58) (g0 := vTot (mD σ)) (g1 := vTot (mD (zU (zHm σ k 3 s r n e) 10 0 4 ((k + 1 : Nat) : Int)))) N16 (fun x hx => ?_) (fun x hx => ?_) ?_
  · exact if_pos ⟨rfl, rfl, hx⟩
  · rw [hN]
    have hx2 : x < uN (mD (zU (zHm (zFL (yR σ τ) 101 (uN (mD σ)) (vTot (mD σ))) k 3 s r n e) 10 0 4 ((k + 1 : Nat) : Int))) := by
      show x < (((k + 1 : Nat) : Int)).toNat
      rw [Int.toNat_natCast]
      exact Nat.lt_succ_of_lt (hN ▸ hx)
    have y := mr_tot (h := x) M2 hx2
    exact y
  · refine zb_176d (d := d + 50) ?_
    rw [uBits_cg (p' := fun h => decide (vTot (mD (zU (zHm σ k 3 s r n e) 10 0 4 ((k + 1 : Nat) : Int))) h < vTot (mD σ) h)) (fun x _ => ?_)]
    · exact q _ (yr_hm (q := uN (mD σ)) R1 (by rw [hN]; exact hk1))
    · have a : ¬ (x : Int) = -1 := fun z => absurd (Int.natCast_nonneg x) (by rw [z]; decide)
      simp [a]
theorem yp_found {d : Nat} {σ : zS} (R : yRel σ) (s r n e : Int) : yPi d 92 176 [.inl s, .inl r, .inl n, .inl e] σ :=
  yp_of (f := fun x => vFound x s r n e) (yc_92 s r n e) (ym_176 s r n e) (fun σ x E => by
    show vFound x s r n e = vFound σ s r n e
    unfold vFound
    rw [zHm_mD (σ := σ) (x := x) (y := σ) E.2, E.1, E.2 10 (.inl rfl)]) R
