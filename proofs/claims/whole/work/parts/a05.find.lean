-- the class finds the tokens (wip/whole/gen/laws76.py)
-- X5_isWord
theorem zb_38 {d : Nat} {σ : zS} {Q : Option zV → zS → Prop} {w : Nat} {x y : Int}
    (h1 : zW (rvSn.getD w 0 : Int) = zW (y - x) → zX (d + 10) 38 10 [some (.inr (.inr (5, 0))), some (.inr (.inr (106, w))), some (.inl x), some (.inl y), some (.inl 0)] [] σ Q)
    (h2 : ¬ zW (rvSn.getD w 0 : Int) = zW (y - x) → Q (some (.inl 0)) σ) :
    zM (d + 10) 38 [.inr (.inr (5, 0)), .inr (.inr (106, w)), .inl x, .inl y] σ Q := by
  refine zX_run (n' := 1) (ls' := [some (.inr (.inr (5, 0))), some (.inr (.inr (106, w))), some (.inl x), some (.inl y), none]) (st' := [.inr (.inr (106, w))]) (σ' := σ) 1 rfl ?_
  refine zX_sln rfl (by omega) rfl ?_
  refine zX_run (n' := 5) (ls' := [some (.inr (.inr (5, 0))), some (.inr (.inr (106, w))), some (.inl x), some (.inl y), none]) (st' := [.inl (zW (y - x)), .inl (zW (rvSn.getD w 0 : Int))]) (σ' := σ) 3 rfl ?_
  refine zX_c0 rfl (fun a1 => ?_) (fun a1 => ?_)
  · skip
    refine zX_run (n' := 10) (ls' := [some (.inr (.inr (5, 0))), some (.inr (.inr (106, w))), some (.inl x), some (.inl y), some (.inl 0)]) (st' := []) (σ' := σ) 2 rfl ?_
    exact h1 a1
  · skip
    refine zX_run (n' := 7) (ls' := [some (.inr (.inr (5, 0))), some (.inr (.inr (106, w))), some (.inl x), some (.inl y), none]) (st' := [.inl 0]) (σ' := σ) 1 rfl ?_
    exact zX_ret rfl rfl (h2 a1)
-- X5_isWord
theorem zb_38l {d : Nat} {σ : zS} {Q : Option zV → zS → Prop} {w : Nat} {x y k : Int}
    (o1 : ¬ zW (rvSn.getD w 0 : Int) ≤ k → zIn k (rvSn.getD w 0) = true)
    (o2 : ¬ zW (rvSn.getD w 0 : Int) ≤ k → (0 : Int) ≤ zW (x + k) ∧ zW (x + k) < (160 : Int))
    (h1 : zW (rvSn.getD w 0 : Int) ≤ k → Q (some (.inl 1)) σ)
    (h2 : ¬ zW (rvSn.getD w 0 : Int) ≤ k → ((rvSb.getD w []).getD k.toNat 0).toInt = σ.1 28 0 ((zW (x + k)).toNat) → zX (d + 10) 38 10 [some (.inr (.inr (5, 0))), some (.inr (.inr (106, w))), some (.inl x), some (.inl y), some (.inl (zW (k + 1)))] [] σ Q)
    (h3 : ¬ zW (rvSn.getD w 0 : Int) ≤ k → ¬ ((rvSb.getD w []).getD k.toNat 0).toInt = σ.1 28 0 ((zW (x + k)).toNat) → Q (some (.inl 0)) σ) :
    zX (d + 10) 38 10 [some (.inr (.inr (5, 0))), some (.inr (.inr (106, w))), some (.inl x), some (.inl y), some (.inl k)] [] σ Q := by
  refine zX_run (n' := 12) (ls' := [some (.inr (.inr (5, 0))), some (.inr (.inr (106, w))), some (.inl x), some (.inl y), some (.inl k)]) (st' := [.inr (.inr (106, w)), .inl k]) (σ' := σ) 2 rfl ?_
  refine zX_sln rfl (by omega) rfl ?_
  refine zX_c3 rfl (fun a1 => ?_) (fun a1 => ?_)
  · skip
    refine zX_run (n' := 29) (ls' := [some (.inr (.inr (5, 0))), some (.inr (.inr (106, w))), some (.inl x), some (.inl y), some (.inl k)]) (st' := [.inl 1]) (σ' := σ) 1 rfl ?_
    exact zX_ret rfl rfl (h1 a1)
  · skip
    refine zX_run (n' := 16) (ls' := [some (.inr (.inr (5, 0))), some (.inr (.inr (106, w))), some (.inl x), some (.inl y), some (.inl k)]) (st' := [.inl k, .inr (.inr (106, w))]) (σ' := σ) 2 rfl ?_
    refine zX_sch rfl (by omega) rfl (o1 a1) ?_
    refine zX_run (n' := 22) (ls' := [some (.inr (.inr (5, 0))), some (.inr (.inr (106, w))), some (.inl x), some (.inl y), some (.inl k)]) (st' := [.inl (zW (x + k)), .inr (.inr (28, 0)), .inl (((rvSb.getD w []).getD k.toNat 0).toInt)]) (σ' := σ) 5 rfl ?_
    refine zX_ald3 (L := 160) rfl (by decide) rfl (o2 a1) ?_
    refine zX_c0 rfl (fun a2 => ?_) (fun a2 => ?_)
    · skip
      refine zX_run (n' := 10) (ls' := [some (.inr (.inr (5, 0))), some (.inr (.inr (106, w))), some (.inl x), some (.inl y), some (.inl (zW (k + 1)))]) (st' := []) (σ' := σ) 2 rfl ?_
      exact h2 a1 a2
    · skip
      refine zX_run (n' := 25) (ls' := [some (.inr (.inr (5, 0))), some (.inr (.inr (106, w))), some (.inl x), some (.inl y), some (.inl k)]) (st' := [.inl 0]) (σ' := σ) 1 rfl ?_
      exact zX_ret rfl rfl (h3 a1 a2)
-- X10_isWord
theorem zb_141 {d : Nat} {σ : zS} {Q : Option zV → zS → Prop} {w : Nat} {x y : Int}
    (h1 : zW (rvSn.getD w 0 : Int) = y → zX (d + 10) 141 8 [some (.inr (.inr (10, 0))), some (.inl x), some (.inl y), some (.inr (.inr (106, w))), some (.inl 0)] [] σ Q)
    (h2 : ¬ zW (rvSn.getD w 0 : Int) = y → Q (some (.inl 0)) σ) :
    zM (d + 10) 141 [.inr (.inr (10, 0)), .inl x, .inl y, .inr (.inr (106, w))] σ Q := by
  refine zX_run (n' := 1) (ls' := [some (.inr (.inr (10, 0))), some (.inl x), some (.inl y), some (.inr (.inr (106, w))), none]) (st' := [.inr (.inr (106, w))]) (σ' := σ) 1 rfl ?_
  refine zX_sln rfl (by omega) rfl ?_
  refine zX_run (n' := 3) (ls' := [some (.inr (.inr (10, 0))), some (.inl x), some (.inl y), some (.inr (.inr (106, w))), none]) (st' := [.inl y, .inl (zW (rvSn.getD w 0 : Int))]) (σ' := σ) 1 rfl ?_
  refine zX_c0 rfl (fun a1 => ?_) (fun a1 => ?_)
  · skip
    refine zX_run (n' := 8) (ls' := [some (.inr (.inr (10, 0))), some (.inl x), some (.inl y), some (.inr (.inr (106, w))), some (.inl 0)]) (st' := []) (σ' := σ) 2 rfl ?_
    exact h1 a1
  · skip
    refine zX_run (n' := 5) (ls' := [some (.inr (.inr (10, 0))), some (.inl x), some (.inl y), some (.inr (.inr (106, w))), none]) (st' := [.inl 0]) (σ' := σ) 1 rfl ?_
    exact zX_ret rfl rfl (h2 a1)
-- X10_isWord
theorem zb_141l {d : Nat} {σ : zS} {Q : Option zV → zS → Prop} {w : Nat} {x y k : Int}
    (o1 : ¬ y ≤ k → (0 : Int) ≤ zW (x + k) ∧ zW (x + k) < (160 : Int))
    (o2 : ¬ y ≤ k → zIn k (rvSn.getD w 0) = true)
    (h1 : y ≤ k → Q (some (.inl 1)) σ)
    (h2 : ¬ y ≤ k → σ.1 69 0 ((zW (x + k)).toNat) = ((rvSb.getD w []).getD k.toNat 0).toInt → zX (d + 10) 141 8 [some (.inr (.inr (10, 0))), some (.inl x), some (.inl y), some (.inr (.inr (106, w))), some (.inl (zW (k + 1)))] [] σ Q)
    (h3 : ¬ y ≤ k → ¬ σ.1 69 0 ((zW (x + k)).toNat) = ((rvSb.getD w []).getD k.toNat 0).toInt → Q (some (.inl 0)) σ) :
    zX (d + 10) 141 8 [some (.inr (.inr (10, 0))), some (.inl x), some (.inl y), some (.inr (.inr (106, w))), some (.inl k)] [] σ Q := by
  refine zX_run (n' := 10) (ls' := [some (.inr (.inr (10, 0))), some (.inl x), some (.inl y), some (.inr (.inr (106, w))), some (.inl k)]) (st' := [.inl y, .inl k]) (σ' := σ) 2 rfl ?_
  refine zX_c3 rfl (fun a1 => ?_) (fun a1 => ?_)
  · skip
    refine zX_run (n' := 26) (ls' := [some (.inr (.inr (10, 0))), some (.inl x), some (.inl y), some (.inr (.inr (106, w))), some (.inl k)]) (st' := [.inl 1]) (σ' := σ) 1 rfl ?_
    exact zX_ret rfl rfl (h1 a1)
  · skip
    refine zX_run (n' := 16) (ls' := [some (.inr (.inr (10, 0))), some (.inl x), some (.inl y), some (.inr (.inr (106, w))), some (.inl k)]) (st' := [.inl (zW (x + k)), .inr (.inr (69, 0))]) (σ' := σ) 5 rfl ?_
    refine zX_ald1 (L := 160) rfl (by decide) rfl (o1 a1) ?_
    refine zX_run (n' := 19) (ls' := [some (.inr (.inr (10, 0))), some (.inl x), some (.inl y), some (.inr (.inr (106, w))), some (.inl k)]) (st' := [.inl k, .inr (.inr (106, w)), .inl (σ.1 69 0 ((zW (x + k)).toNat))]) (σ' := σ) 2 rfl ?_
    refine zX_sch rfl (by omega) rfl (o2 a1) ?_
    refine zX_c0 rfl (fun a2 => ?_) (fun a2 => ?_)
    · skip
      refine zX_run (n' := 8) (ls' := [some (.inr (.inr (10, 0))), some (.inl x), some (.inl y), some (.inr (.inr (106, w))), some (.inl (zW (k + 1)))]) (st' := []) (σ' := σ) 2 rfl ?_
      exact h2 a1 a2
    · skip
      refine zX_run (n' := 22) (ls' := [some (.inr (.inr (10, 0))), some (.inl x), some (.inl y), some (.inr (.inr (106, w))), some (.inl k)]) (st' := [.inl 0]) (σ' := σ) 1 rfl ?_
      exact zX_ret rfl rfl (h3 a1 a2)
-- X5_numberAt
theorem zb_39 {d : Nat} {σ : zS} {Q : Option zV → zS → Prop} {x y : Int}
    (h1 : zW (y - x) ≤ 4 → zX (d + 0) 39 11 [some (.inr (.inr (5, 0))), some (.inl x), some (.inl y), some (.inl 0), some (.inl x)] [] σ Q)
    (h2 : ¬ zW (y - x) ≤ 4 → Q (some (.inl (-22))) σ) :
    zM (d + 0) 39 [.inr (.inr (5, 0)), .inl x, .inl y] σ Q := by
  refine zX_run (n' := 4) (ls' := [some (.inr (.inr (5, 0))), some (.inl x), some (.inl y), none, none]) (st' := [.inl 4, .inl (zW (y - x))]) (σ' := σ) 4 rfl ?_
  refine zX_c5 rfl (fun a1 => ?_) (fun a1 => ?_)
  · skip
    refine zX_run (n' := 11) (ls' := [some (.inr (.inr (5, 0))), some (.inl x), some (.inl y), some (.inl 0), some (.inl x)]) (st' := []) (σ' := σ) 4 rfl ?_
    exact h1 a1
  · skip
    refine zX_run (n' := 6) (ls' := [some (.inr (.inr (5, 0))), some (.inl x), some (.inl y), none, none]) (st' := [.inl (-22)]) (σ' := σ) 1 rfl ?_
    exact zX_ret rfl rfl (h2 a1)
-- X5_numberAt
theorem zb_39l {d : Nat} {σ : zS} {Q : Option zV → zS → Prop} {x y v k : Int}
    (o1 : ¬ y ≤ k → (0 : Int) ≤ k ∧ k < (160 : Int))
    (h1 : y ≤ k → Q (some (.inl v)) σ)
    (h2 : ¬ y ≤ k → zX (d + 0) 39 11 [some (.inr (.inr (5, 0))), some (.inl x), some (.inl y), some (.inl (zW ((zW ((zW (v * 10)) + (σ.1 28 0 (k.toNat)))) - 48))), some (.inl (zW (k + 1)))] [] σ Q) :
    zX (d + 0) 39 11 [some (.inr (.inr (5, 0))), some (.inl x), some (.inl y), some (.inl v), some (.inl k)] [] σ Q := by
  refine zX_run (n' := 13) (ls' := [some (.inr (.inr (5, 0))), some (.inl x), some (.inl y), some (.inl v), some (.inl k)]) (st' := [.inl y, .inl k]) (σ' := σ) 2 rfl ?_
  refine zX_c3 rfl (fun a1 => ?_) (fun a1 => ?_)
  · skip
    refine zX_run (n' := 28) (ls' := [some (.inr (.inr (5, 0))), some (.inl x), some (.inl y), some (.inl v), some (.inl k)]) (st' := [.inl v]) (σ' := σ) 1 rfl ?_
    exact zX_ret rfl rfl (h1 a1)
  · skip
    refine zX_run (n' := 20) (ls' := [some (.inr (.inr (5, 0))), some (.inl x), some (.inl y), some (.inl v), some (.inl k)]) (st' := [.inl k, .inr (.inr (28, 0)), .inl (zW (v * 10))]) (σ' := σ) 6 rfl ?_
    refine zX_ald3 (L := 160) rfl (by decide) rfl (o1 a1) ?_
    refine zX_run (n' := 11) (ls' := [some (.inr (.inr (5, 0))), some (.inl x), some (.inl y), some (.inl (zW ((zW ((zW (v * 10)) + (σ.1 28 0 (k.toNat)))) - 48))), some (.inl (zW (k + 1)))]) (st' := []) (σ' := σ) 6 rfl ?_
    exact h2 a1
-- X5_lengthAt
theorem zb_35 {d : Nat} {σ : zS} {Q : Option zV → zS → Prop} {x : Int}
    (o1 : (0 : Int) ≤ x ∧ x < (160 : Int))
    (h1 : 97 ≤ (σ.1 28 0 (x.toNat)) ∧ (σ.1 28 0 (x.toNat)) ≤ 122 → zX (d + 2) 35 10 [some (.inr (.inr (5, 0))), some (.inl x), some (.inl (zW (x + 1)))] [] σ Q)
    (h2 : ¬ (97 ≤ (σ.1 28 0 (x.toNat)) ∧ (σ.1 28 0 (x.toNat)) ≤ 122) → 48 ≤ (σ.1 28 0 (x.toNat)) ∧ (σ.1 28 0 (x.toNat)) ≤ 57 → zX (d + 2) 35 28 [some (.inr (.inr (5, 0))), some (.inl x), some (.inl (zW (x + 1)))] [] σ Q)
    (h3 : ¬ (97 ≤ (σ.1 28 0 (x.toNat)) ∧ (σ.1 28 0 (x.toNat)) ≤ 122) → ¬ (48 ≤ (σ.1 28 0 (x.toNat)) ∧ (σ.1 28 0 (x.toNat)) ≤ 57) → Q (some (.inl (zW ((zW (x + 1)) - x)))) σ) :
    zM (d + 2) 35 [.inr (.inr (5, 0)), .inl x] σ Q := by
  refine zX_run (n' := 7) (ls' := [some (.inr (.inr (5, 0))), some (.inl x), some (.inl (zW (x + 1)))]) (st' := [.inl x, .inr (.inr (28, 0))]) (σ' := σ) 7 rfl ?_
  refine zX_ald3 (L := 160) rfl (by decide) rfl o1 ?_
  refine zX_call rfl rfl ?_
  refine zs_40 (fun a1 => ?_) (fun a2 => ?_)
  · skip
    refine zX_run (n' := 10) (ls' := [some (.inr (.inr (5, 0))), some (.inl x), some (.inl (zW (x + 1)))]) (st' := []) (σ' := σ) 1 rfl ?_
    exact h1 a1
  · skip
    refine zX_run (n' := 25) (ls' := [some (.inr (.inr (5, 0))), some (.inl x), some (.inl (zW (x + 1)))]) (st' := [.inl x, .inr (.inr (28, 0))]) (σ' := σ) 4 rfl ?_
    refine zX_ald3 (L := 160) rfl (by decide) rfl o1 ?_
    refine zX_call rfl rfl ?_
    refine zs_41 (fun a3 => ?_) (fun a4 => ?_)
    · skip
      refine zX_run (n' := 28) (ls' := [some (.inr (.inr (5, 0))), some (.inl x), some (.inl (zW (x + 1)))]) (st' := []) (σ' := σ) 1 rfl ?_
      exact h2 a2 a3
    · skip
      refine zX_run (n' := 43) (ls' := [some (.inr (.inr (5, 0))), some (.inl x), some (.inl (zW (x + 1)))]) (st' := [.inl (zW ((zW (x + 1)) - x))]) (σ' := σ) 4 rfl ?_
      exact zX_ret rfl rfl (h3 a2 a4)
-- X5_lengthAt
theorem zb_35a {d : Nat} {σ : zS} {Q : Option zV → zS → Prop} {x k : Int}
    (o1 : ¬ σ.1 5 0 1 ≤ k → (0 : Int) ≤ k ∧ k < (160 : Int))
    (h1 : σ.1 5 0 1 ≤ k → Q (some (.inl (zW (k - x)))) σ)
    (h2 : ¬ σ.1 5 0 1 ≤ k → 97 ≤ (σ.1 28 0 (k.toNat)) ∧ (σ.1 28 0 (k.toNat)) ≤ 122 → zX (d + 2) 35 10 [some (.inr (.inr (5, 0))), some (.inl x), some (.inl (zW (k + 1)))] [] σ Q)
    (h3 : ¬ σ.1 5 0 1 ≤ k → ¬ (97 ≤ (σ.1 28 0 (k.toNat)) ∧ (σ.1 28 0 (k.toNat)) ≤ 122) → Q (some (.inl (zW (k - x)))) σ) :
    zX (d + 2) 35 10 [some (.inr (.inr (5, 0))), some (.inl x), some (.inl k)] [] σ Q := by
  refine zX_run (n' := 13) (ls' := [some (.inr (.inr (5, 0))), some (.inl x), some (.inl k)]) (st' := [.inl (σ.1 5 0 1), .inl k]) (σ' := σ) 3 rfl ?_
  refine zX_c3 rfl (fun a1 => ?_) (fun a1 => ?_)
  · skip
    refine zX_run (n' := 43) (ls' := [some (.inr (.inr (5, 0))), some (.inl x), some (.inl k)]) (st' := [.inl (zW (k - x))]) (σ' := σ) 3 rfl ?_
    exact zX_ret rfl rfl (h1 a1)
  · skip
    refine zX_run (n' := 17) (ls' := [some (.inr (.inr (5, 0))), some (.inl x), some (.inl k)]) (st' := [.inl k, .inr (.inr (28, 0))]) (σ' := σ) 3 rfl ?_
    refine zX_ald3 (L := 160) rfl (by decide) rfl (o1 a1) ?_
    refine zX_call rfl rfl ?_
    refine zs_40 (fun a2 => ?_) (fun a3 => ?_)
    · skip
      refine zX_run (n' := 10) (ls' := [some (.inr (.inr (5, 0))), some (.inl x), some (.inl (zW (k + 1)))]) (st' := []) (σ' := σ) 3 rfl ?_
      exact h2 a1 a2
    · skip
      refine zX_run (n' := 43) (ls' := [some (.inr (.inr (5, 0))), some (.inl x), some (.inl k)]) (st' := [.inl (zW (k - x))]) (σ' := σ) 4 rfl ?_
      exact zX_ret rfl rfl (h3 a1 a3)
-- X5_lengthAt
theorem zb_35b {d : Nat} {σ : zS} {Q : Option zV → zS → Prop} {x k : Int}
    (o1 : ¬ σ.1 5 0 1 ≤ k → (0 : Int) ≤ k ∧ k < (160 : Int))
    (h1 : σ.1 5 0 1 ≤ k → Q (some (.inl (zW (k - x)))) σ)
    (h2 : ¬ σ.1 5 0 1 ≤ k → 48 ≤ (σ.1 28 0 (k.toNat)) ∧ (σ.1 28 0 (k.toNat)) ≤ 57 → zX (d + 2) 35 28 [some (.inr (.inr (5, 0))), some (.inl x), some (.inl (zW (k + 1)))] [] σ Q)
    (h3 : ¬ σ.1 5 0 1 ≤ k → ¬ (48 ≤ (σ.1 28 0 (k.toNat)) ∧ (σ.1 28 0 (k.toNat)) ≤ 57) → Q (some (.inl (zW (k - x)))) σ) :
    zX (d + 2) 35 28 [some (.inr (.inr (5, 0))), some (.inl x), some (.inl k)] [] σ Q := by
  refine zX_run (n' := 31) (ls' := [some (.inr (.inr (5, 0))), some (.inl x), some (.inl k)]) (st' := [.inl (σ.1 5 0 1), .inl k]) (σ' := σ) 3 rfl ?_
  refine zX_c3 rfl (fun a1 => ?_) (fun a1 => ?_)
  · skip
    refine zX_run (n' := 43) (ls' := [some (.inr (.inr (5, 0))), some (.inl x), some (.inl k)]) (st' := [.inl (zW (k - x))]) (σ' := σ) 3 rfl ?_
    exact zX_ret rfl rfl (h1 a1)
  · skip
    refine zX_run (n' := 35) (ls' := [some (.inr (.inr (5, 0))), some (.inl x), some (.inl k)]) (st' := [.inl k, .inr (.inr (28, 0))]) (σ' := σ) 3 rfl ?_
    refine zX_ald3 (L := 160) rfl (by decide) rfl (o1 a1) ?_
    refine zX_call rfl rfl ?_
    refine zs_41 (fun a2 => ?_) (fun a3 => ?_)
    · skip
      refine zX_run (n' := 28) (ls' := [some (.inr (.inr (5, 0))), some (.inl x), some (.inl (zW (k + 1)))]) (st' := []) (σ' := σ) 3 rfl ?_
      exact h2 a1 a2
    · skip
      refine zX_run (n' := 43) (ls' := [some (.inr (.inr (5, 0))), some (.inl x), some (.inl k)]) (st' := [.inl (zW (k - x))]) (σ' := σ) 4 rfl ?_
      exact zX_ret rfl rfl (h3 a1 a3)
/-- the kinds that reading a text writes on the class's side -/
def qk (k : Nat) : Bool := k == 5 || k == 29 || k == 30 || k == 31
def zQ (σ : zS) (G : Nat → Nat → Nat → Int) : zS := (fun k => if qk k = true then G k else σ.1 k, σ.2)
theorem zQ_self {σ : zS} : σ = zQ σ σ.1 := by
  refine Prod.ext (funext fun k => ?_) rfl
  show σ.1 k = if qk k = true then σ.1 k else σ.1 k
  split <;> rfl
theorem zQ_U {σ : zS} {G : Nat → Nat → Nat → Int} {k n j : Nat} {v : Int} (h : qk k = true) : zU (zQ σ G) k n j v = zQ σ (uG G k n j v) := by
  refine Prod.ext (funext fun k' => funext fun n' => funext fun j' => ?_) rfl
  show (if k' = k ∧ j' = j ∧ n' = n then v else (if qk k' = true then G k' else σ.1 k') n' j') = (if qk k' = true then uG G k n j v k' else σ.1 k') n' j'
  by_cases c : qk k' = true
  · rw [if_pos c, if_pos c]; rfl
  · rw [if_neg c, if_neg c, if_neg (fun q => c (by rw [q.1]; exact h))]
theorem zQ_5 {σ : zS} {G : Nat → Nat → Nat → Int} {n j : Nat} {v : Int} : zU (zQ σ G) 5 n j v = zQ σ (uG G 5 n j v) := zQ_U rfl
theorem zQ_29 {σ : zS} {G : Nat → Nat → Nat → Int} {n j : Nat} {v : Int} : zU (zQ σ G) 29 n j v = zQ σ (uG G 29 n j v) := zQ_U rfl
theorem zQ_30 {σ : zS} {G : Nat → Nat → Nat → Int} {n j : Nat} {v : Int} : zU (zQ σ G) 30 n j v = zQ σ (uG G 30 n j v) := zQ_U rfl
theorem zQ_31 {σ : zS} {G : Nat → Nat → Nat → Int} {n j : Nat} {v : Int} : zU (zQ σ G) 31 n j v = zQ σ (uG G 31 n j v) := zQ_U rfl
theorem uG_same {G : Nat → Nat → Nat → Int} {k n j : Nat} {v : Int} : uG G k n j v k n j = v := if_pos ⟨rfl, rfl, rfl⟩
theorem uG_ne {G : Nat → Nat → Nat → Int} {k n j k' n' j' : Nat} {v : Int} (h : ¬ (k' = k ∧ j' = j ∧ n' = n)) : uG G k n j v k' n' j' = G k' n' j' := if_neg h
theorem uG_k {G : Nat → Nat → Nat → Int} {k n j k' : Nat} {v : Int} (h : ¬ k' = k) : uG G k n j v k' = G k' := by
  funext n' j'; exact if_neg (fun q => h q.1)
theorem zl_38 {d : Nat} {σ : zS} {Q : Option zV → zS → Prop} {T : Nat → Int} {N w p n : Nat} {y : Int} (hT : cTp σ T N) (hn : rvSn.getD w 0 = n) (hp : p + n ≤ N) : ∀ f i : Nat, i + f = n → Q (some (.inl (if qEqW T w p f i = true then 1 else 0))) σ → zX (d + 10) 38 10 [some (.inr (.inr (5, 0))), some (.inr (.inr (106, w))), some (.inl (p : Int)), some (.inl y), some (.inl (i : Int))] [] σ Q := by
  have h160 := hT.2.1
  have z : zW (rvSn.getD w 0 : Int) = (n : Int) := by rw [hn, zW_id (by omega)]
  intro f
  induction f with
  | zero =>
    intro i e h
    exact zb_38l (fun a => absurd (by rw [z]; omega) a) (fun a => absurd (by rw [z]; omega) a) (fun _ => h) (fun a _ => absurd (by rw [z]; omega) a) (fun a _ => absurd (by rw [z]; omega) a)
  | succ f ih =>
    intro i e h
    have xi : zW ((p : Int) + (i : Int)) = ((p + i : Nat) : Int) := qWa (by omega)
    have t := hT.2.2 (p + i) (by omega)
    refine zb_38l (fun _ => by rw [hn]; exact decide_eq_true (by omega)) (fun _ => by rw [xi]; omega) (fun a => absurd a (by rw [z]; omega)) (fun _ a => ?_) (fun _ a => ?_)
    · rw [qW1 (by omega)]
      refine ih (i + 1) (by omega) ?_
      rw [xi] at a
      have c : T (p + i) = qBt w i := (qBe t (qBt_b w i)).mp a.symm
      have g : qEqW T w p (f + 1) i = qEqW T w p f (i + 1) := if_pos c
      rw [g] at h; exact h
    · rw [xi] at a
      have c : ¬ T (p + i) = qBt w i := fun x => a ((qBe t (qBt_b w i)).mpr x).symm
      have g : qEqW T w p (f + 1) i = false := if_neg c
      rw [g] at h; exact h
theorem zs_38 {d : Nat} {σ : zS} {Q : Option zV → zS → Prop} {T : Nat → Int} {N w : Nat} {x y : Int} (hT : cTp σ T N) (o : 0 ≤ x ∧ x ≤ y ∧ y ≤ (N : Int)) (h1 : qIsW T x.toNat (y.toNat - x.toNat) w = true → Q (some (.inl 1)) σ) (h2 : ¬ qIsW T x.toNat (y.toNat - x.toNat) w = true → Q (some (.inl 0)) σ) :
    zM (d + 10) 38 [.inr (.inr (5, 0)), .inr (.inr (106, w)), .inl x, .inl y] σ Q := by
  have h160 := hT.2.1
  obtain ⟨p, rfl⟩ := Int.eq_ofNat_of_zero_le o.1
  obtain ⟨q, rfl⟩ := Int.eq_ofNat_of_zero_le (show 0 ≤ y by omega)
  have h1 : qIsW T p (q - p) w = true → Q (some (.inl 1)) σ := h1
  have h2 : ¬ qIsW T p (q - p) w = true → Q (some (.inl 0)) σ := h2
  have n5 := qSn_b w
  have zn : zW (rvSn.getD w 0 : Int) = (rvSn.getD w 0 : Int) := zW_id (by omega)
  refine zb_38 (fun a => ?_) (fun a => ?_)
  · have e : rvSn.getD w 0 = q - p := by rw [zn, qWs (by omega) (by omega)] at a; omega
    refine zl_38 (n := q - p) hT e (by omega) (q - p) 0 (by omega) ?_
    have u : qIsW T p (q - p) w = qEqW T w p (q - p) 0 := if_pos e
    rw [← u]
    by_cases c : qIsW T p (q - p) w = true
    · rw [if_pos c]; exact h1 c
    · rw [if_neg c]; exact h2 c
  · refine h2 ?_
    have u : qIsW T p (q - p) w = false := if_neg (fun e => a (by rw [zn, qWs (by omega) (by omega)]; omega))
    rw [u]; exact Bool.false_ne_true
-- X5_wordAt
theorem zb_37 {d : Nat} {σ : zS} {Q : Option zV → zS → Prop} {T : Nat → Int} {N : Nat} {x y : Int}
    (o1 : cTp σ T N)
    (o2 : 0 ≤ x ∧ x ≤ y ∧ y ≤ (N : Int))
    (h1 : qIsW T x.toNat (y.toNat - x.toNat) 0 = true → Q (some (.inl (-1))) σ)
    (h2 : ¬ qIsW T x.toNat (y.toNat - x.toNat) 0 = true → qIsW T x.toNat (y.toNat - x.toNat) 1 = true → Q (some (.inl (-2))) σ)
    (h3 : ¬ qIsW T x.toNat (y.toNat - x.toNat) 0 = true → ¬ qIsW T x.toNat (y.toNat - x.toNat) 1 = true → qIsW T x.toNat (y.toNat - x.toNat) 2 = true → Q (some (.inl (-3))) σ)
    (h4 : ¬ qIsW T x.toNat (y.toNat - x.toNat) 0 = true → ¬ qIsW T x.toNat (y.toNat - x.toNat) 1 = true → ¬ qIsW T x.toNat (y.toNat - x.toNat) 2 = true → qIsW T x.toNat (y.toNat - x.toNat) 3 = true → Q (some (.inl (-4))) σ)
    (h5 : ¬ qIsW T x.toNat (y.toNat - x.toNat) 0 = true → ¬ qIsW T x.toNat (y.toNat - x.toNat) 1 = true → ¬ qIsW T x.toNat (y.toNat - x.toNat) 2 = true → ¬ qIsW T x.toNat (y.toNat - x.toNat) 3 = true → qIsW T x.toNat (y.toNat - x.toNat) 4 = true → Q (some (.inl (-5))) σ)
    (h6 : ¬ qIsW T x.toNat (y.toNat - x.toNat) 0 = true → ¬ qIsW T x.toNat (y.toNat - x.toNat) 1 = true → ¬ qIsW T x.toNat (y.toNat - x.toNat) 2 = true → ¬ qIsW T x.toNat (y.toNat - x.toNat) 3 = true → ¬ qIsW T x.toNat (y.toNat - x.toNat) 4 = true → qIsW T x.toNat (y.toNat - x.toNat) 5 = true → Q (some (.inl (-6))) σ)
    (h7 : ¬ qIsW T x.toNat (y.toNat - x.toNat) 0 = true → ¬ qIsW T x.toNat (y.toNat - x.toNat) 1 = true → ¬ qIsW T x.toNat (y.toNat - x.toNat) 2 = true → ¬ qIsW T x.toNat (y.toNat - x.toNat) 3 = true → ¬ qIsW T x.toNat (y.toNat - x.toNat) 4 = true → ¬ qIsW T x.toNat (y.toNat - x.toNat) 5 = true → qIsW T x.toNat (y.toNat - x.toNat) 6 = true → Q (some (.inl (-16))) σ)
    (h8 : ¬ qIsW T x.toNat (y.toNat - x.toNat) 0 = true → ¬ qIsW T x.toNat (y.toNat - x.toNat) 1 = true → ¬ qIsW T x.toNat (y.toNat - x.toNat) 2 = true → ¬ qIsW T x.toNat (y.toNat - x.toNat) 3 = true → ¬ qIsW T x.toNat (y.toNat - x.toNat) 4 = true → ¬ qIsW T x.toNat (y.toNat - x.toNat) 5 = true → ¬ qIsW T x.toNat (y.toNat - x.toNat) 6 = true → qIsW T x.toNat (y.toNat - x.toNat) 7 = true → Q (some (.inl (-17))) σ)
    (h9 : ¬ qIsW T x.toNat (y.toNat - x.toNat) 0 = true → ¬ qIsW T x.toNat (y.toNat - x.toNat) 1 = true → ¬ qIsW T x.toNat (y.toNat - x.toNat) 2 = true → ¬ qIsW T x.toNat (y.toNat - x.toNat) 3 = true → ¬ qIsW T x.toNat (y.toNat - x.toNat) 4 = true → ¬ qIsW T x.toNat (y.toNat - x.toNat) 5 = true → ¬ qIsW T x.toNat (y.toNat - x.toNat) 6 = true → ¬ qIsW T x.toNat (y.toNat - x.toNat) 7 = true → qIsW T x.toNat (y.toNat - x.toNat) 8 = true → Q (some (.inl (-7))) σ)
    (h10 : ¬ qIsW T x.toNat (y.toNat - x.toNat) 0 = true → ¬ qIsW T x.toNat (y.toNat - x.toNat) 1 = true → ¬ qIsW T x.toNat (y.toNat - x.toNat) 2 = true → ¬ qIsW T x.toNat (y.toNat - x.toNat) 3 = true → ¬ qIsW T x.toNat (y.toNat - x.toNat) 4 = true → ¬ qIsW T x.toNat (y.toNat - x.toNat) 5 = true → ¬ qIsW T x.toNat (y.toNat - x.toNat) 6 = true → ¬ qIsW T x.toNat (y.toNat - x.toNat) 7 = true → ¬ qIsW T x.toNat (y.toNat - x.toNat) 8 = true → qIsW T x.toNat (y.toNat - x.toNat) 9 = true → Q (some (.inl (-8))) σ)
    (h11 : ¬ qIsW T x.toNat (y.toNat - x.toNat) 0 = true → ¬ qIsW T x.toNat (y.toNat - x.toNat) 1 = true → ¬ qIsW T x.toNat (y.toNat - x.toNat) 2 = true → ¬ qIsW T x.toNat (y.toNat - x.toNat) 3 = true → ¬ qIsW T x.toNat (y.toNat - x.toNat) 4 = true → ¬ qIsW T x.toNat (y.toNat - x.toNat) 5 = true → ¬ qIsW T x.toNat (y.toNat - x.toNat) 6 = true → ¬ qIsW T x.toNat (y.toNat - x.toNat) 7 = true → ¬ qIsW T x.toNat (y.toNat - x.toNat) 8 = true → ¬ qIsW T x.toNat (y.toNat - x.toNat) 9 = true → qIsW T x.toNat (y.toNat - x.toNat) 10 = true → Q (some (.inl (-9))) σ)
    (h12 : ¬ qIsW T x.toNat (y.toNat - x.toNat) 0 = true → ¬ qIsW T x.toNat (y.toNat - x.toNat) 1 = true → ¬ qIsW T x.toNat (y.toNat - x.toNat) 2 = true → ¬ qIsW T x.toNat (y.toNat - x.toNat) 3 = true → ¬ qIsW T x.toNat (y.toNat - x.toNat) 4 = true → ¬ qIsW T x.toNat (y.toNat - x.toNat) 5 = true → ¬ qIsW T x.toNat (y.toNat - x.toNat) 6 = true → ¬ qIsW T x.toNat (y.toNat - x.toNat) 7 = true → ¬ qIsW T x.toNat (y.toNat - x.toNat) 8 = true → ¬ qIsW T x.toNat (y.toNat - x.toNat) 9 = true → ¬ qIsW T x.toNat (y.toNat - x.toNat) 10 = true → Q (some (.inl (-22))) σ) :
    zM (d + 11) 37 [.inr (.inr (5, 0)), .inl x, .inl y] σ Q := by
  refine zX_run (n' := 4) (ls' := [some (.inr (.inr (5, 0))), some (.inl x), some (.inl y)]) (st' := [.inl y, .inl x, .inr (.inr (106, 0)), .inr (.inr (5, 0))]) (σ' := σ) 4 rfl ?_
  refine zX_call rfl rfl ?_
  refine zs_38 o1 o2 (fun a1 => ?_) (fun a2 => ?_)
  · skip
    refine zX_run (n' := 7) (ls' := [some (.inr (.inr (5, 0))), some (.inl x), some (.inl y)]) (st' := [.inl (-1)]) (σ' := σ) 2 rfl ?_
    exact zX_ret rfl rfl (h1 a1)
  · skip
    refine zX_run (n' := 12) (ls' := [some (.inr (.inr (5, 0))), some (.inl x), some (.inl y)]) (st' := [.inl y, .inl x, .inr (.inr (106, 1)), .inr (.inr (5, 0))]) (σ' := σ) 5 rfl ?_
    refine zX_call rfl rfl ?_
    refine zs_38 o1 o2 (fun a3 => ?_) (fun a4 => ?_)
    · skip
      refine zX_run (n' := 15) (ls' := [some (.inr (.inr (5, 0))), some (.inl x), some (.inl y)]) (st' := [.inl (-2)]) (σ' := σ) 2 rfl ?_
      exact zX_ret rfl rfl (h2 a2 a3)
    · skip
      refine zX_run (n' := 20) (ls' := [some (.inr (.inr (5, 0))), some (.inl x), some (.inl y)]) (st' := [.inl y, .inl x, .inr (.inr (106, 2)), .inr (.inr (5, 0))]) (σ' := σ) 5 rfl ?_
      refine zX_call rfl rfl ?_
      refine zs_38 o1 o2 (fun a5 => ?_) (fun a6 => ?_)
      · skip
        refine zX_run (n' := 23) (ls' := [some (.inr (.inr (5, 0))), some (.inl x), some (.inl y)]) (st' := [.inl (-3)]) (σ' := σ) 2 rfl ?_
        exact zX_ret rfl rfl (h3 a2 a4 a5)
      · skip
        refine zX_run (n' := 28) (ls' := [some (.inr (.inr (5, 0))), some (.inl x), some (.inl y)]) (st' := [.inl y, .inl x, .inr (.inr (106, 3)), .inr (.inr (5, 0))]) (σ' := σ) 5 rfl ?_
        refine zX_call rfl rfl ?_
        refine zs_38 o1 o2 (fun a7 => ?_) (fun a8 => ?_)
        · skip
          refine zX_run (n' := 31) (ls' := [some (.inr (.inr (5, 0))), some (.inl x), some (.inl y)]) (st' := [.inl (-4)]) (σ' := σ) 2 rfl ?_
          exact zX_ret rfl rfl (h4 a2 a4 a6 a7)
        · skip
          refine zX_run (n' := 36) (ls' := [some (.inr (.inr (5, 0))), some (.inl x), some (.inl y)]) (st' := [.inl y, .inl x, .inr (.inr (106, 4)), .inr (.inr (5, 0))]) (σ' := σ) 5 rfl ?_
          refine zX_call rfl rfl ?_
          refine zs_38 o1 o2 (fun a9 => ?_) (fun a10 => ?_)
          · skip
            refine zX_run (n' := 39) (ls' := [some (.inr (.inr (5, 0))), some (.inl x), some (.inl y)]) (st' := [.inl (-5)]) (σ' := σ) 2 rfl ?_
            exact zX_ret rfl rfl (h5 a2 a4 a6 a8 a9)
          · skip
            refine zX_run (n' := 44) (ls' := [some (.inr (.inr (5, 0))), some (.inl x), some (.inl y)]) (st' := [.inl y, .inl x, .inr (.inr (106, 5)), .inr (.inr (5, 0))]) (σ' := σ) 5 rfl ?_
            refine zX_call rfl rfl ?_
            refine zs_38 o1 o2 (fun a11 => ?_) (fun a12 => ?_)
            · skip
              refine zX_run (n' := 47) (ls' := [some (.inr (.inr (5, 0))), some (.inl x), some (.inl y)]) (st' := [.inl (-6)]) (σ' := σ) 2 rfl ?_
              exact zX_ret rfl rfl (h6 a2 a4 a6 a8 a10 a11)
            · skip
              refine zX_run (n' := 52) (ls' := [some (.inr (.inr (5, 0))), some (.inl x), some (.inl y)]) (st' := [.inl y, .inl x, .inr (.inr (106, 6)), .inr (.inr (5, 0))]) (σ' := σ) 5 rfl ?_
              refine zX_call rfl rfl ?_
              refine zs_38 o1 o2 (fun a13 => ?_) (fun a14 => ?_)
              · skip
                refine zX_run (n' := 55) (ls' := [some (.inr (.inr (5, 0))), some (.inl x), some (.inl y)]) (st' := [.inl (-16)]) (σ' := σ) 2 rfl ?_
                exact zX_ret rfl rfl (h7 a2 a4 a6 a8 a10 a12 a13)
              · skip
                refine zX_run (n' := 60) (ls' := [some (.inr (.inr (5, 0))), some (.inl x), some (.inl y)]) (st' := [.inl y, .inl x, .inr (.inr (106, 7)), .inr (.inr (5, 0))]) (σ' := σ) 5 rfl ?_
                refine zX_call rfl rfl ?_
                refine zs_38 o1 o2 (fun a15 => ?_) (fun a16 => ?_)
                · skip
                  refine zX_run (n' := 63) (ls' := [some (.inr (.inr (5, 0))), some (.inl x), some (.inl y)]) (st' := [.inl (-17)]) (σ' := σ) 2 rfl ?_
                  exact zX_ret rfl rfl (h8 a2 a4 a6 a8 a10 a12 a14 a15)
                · skip
                  refine zX_run (n' := 68) (ls' := [some (.inr (.inr (5, 0))), some (.inl x), some (.inl y)]) (st' := [.inl y, .inl x, .inr (.inr (106, 8)), .inr (.inr (5, 0))]) (σ' := σ) 5 rfl ?_
                  refine zX_call rfl rfl ?_
                  refine zs_38 o1 o2 (fun a17 => ?_) (fun a18 => ?_)
                  · skip
                    refine zX_run (n' := 71) (ls' := [some (.inr (.inr (5, 0))), some (.inl x), some (.inl y)]) (st' := [.inl (-7)]) (σ' := σ) 2 rfl ?_
                    exact zX_ret rfl rfl (h9 a2 a4 a6 a8 a10 a12 a14 a16 a17)
                  · skip
                    refine zX_run (n' := 76) (ls' := [some (.inr (.inr (5, 0))), some (.inl x), some (.inl y)]) (st' := [.inl y, .inl x, .inr (.inr (106, 9)), .inr (.inr (5, 0))]) (σ' := σ) 5 rfl ?_
                    refine zX_call rfl rfl ?_
                    refine zs_38 o1 o2 (fun a19 => ?_) (fun a20 => ?_)
                    · skip
                      refine zX_run (n' := 79) (ls' := [some (.inr (.inr (5, 0))), some (.inl x), some (.inl y)]) (st' := [.inl (-8)]) (σ' := σ) 2 rfl ?_
                      exact zX_ret rfl rfl (h10 a2 a4 a6 a8 a10 a12 a14 a16 a18 a19)
                    · skip
                      refine zX_run (n' := 84) (ls' := [some (.inr (.inr (5, 0))), some (.inl x), some (.inl y)]) (st' := [.inl y, .inl x, .inr (.inr (106, 10)), .inr (.inr (5, 0))]) (σ' := σ) 5 rfl ?_
                      refine zX_call rfl rfl ?_
                      refine zs_38 o1 o2 (fun a21 => ?_) (fun a22 => ?_)
                      · skip
                        refine zX_run (n' := 87) (ls' := [some (.inr (.inr (5, 0))), some (.inl x), some (.inl y)]) (st' := [.inl (-9)]) (σ' := σ) 2 rfl ?_
                        exact zX_ret rfl rfl (h11 a2 a4 a6 a8 a10 a12 a14 a16 a18 a20 a21)
                      · skip
                        refine zX_run (n' := 89) (ls' := [some (.inr (.inr (5, 0))), some (.inl x), some (.inl y)]) (st' := [.inl (-22)]) (σ' := σ) 2 rfl ?_
                        exact zX_ret rfl rfl (h12 a2 a4 a6 a8 a10 a12 a14 a16 a18 a20 a22)
theorem zs_37 {d : Nat} {σ : zS} {Q : Option zV → zS → Prop} {T : Nat → Int} {N : Nat} {x y : Int} (hT : cTp σ T N) (o : 0 ≤ x ∧ x ≤ y ∧ y ≤ (N : Int)) (h : Q (some (.inl (qRC (qWord T x.toNat (y.toNat - x.toNat))))) σ) :
    zM (d + 11) 37 [.inr (.inr (5, 0)), .inl x, .inl y] σ Q :=
  zb_37 hT
    o
    (fun a0 => zQ_i h (by unfold qWord; rw [if_pos a0]; rfl))
    (fun a0 a1 => zQ_i h (by unfold qWord; rw [if_neg a0, if_pos a1]; rfl))
    (fun a0 a1 a2 => zQ_i h (by unfold qWord; rw [if_neg a0, if_neg a1, if_pos a2]; rfl))
    (fun a0 a1 a2 a3 => zQ_i h (by unfold qWord; rw [if_neg a0, if_neg a1, if_neg a2, if_pos a3]; rfl))
    (fun a0 a1 a2 a3 a4 => zQ_i h (by unfold qWord; rw [if_neg a0, if_neg a1, if_neg a2, if_neg a3, if_pos a4]; rfl))
    (fun a0 a1 a2 a3 a4 a5 => zQ_i h (by unfold qWord; rw [if_neg a0, if_neg a1, if_neg a2, if_neg a3, if_neg a4, if_pos a5]; rfl))
    (fun a0 a1 a2 a3 a4 a5 a6 => zQ_i h (by unfold qWord; rw [if_neg a0, if_neg a1, if_neg a2, if_neg a3, if_neg a4, if_neg a5, if_pos a6]; rfl))
    (fun a0 a1 a2 a3 a4 a5 a6 a7 => zQ_i h (by unfold qWord; rw [if_neg a0, if_neg a1, if_neg a2, if_neg a3, if_neg a4, if_neg a5, if_neg a6, if_pos a7]; rfl))
    (fun a0 a1 a2 a3 a4 a5 a6 a7 a8 => zQ_i h (by unfold qWord; rw [if_neg a0, if_neg a1, if_neg a2, if_neg a3, if_neg a4, if_neg a5, if_neg a6, if_neg a7, if_pos a8]; rfl))
    (fun a0 a1 a2 a3 a4 a5 a6 a7 a8 a9 => zQ_i h (by unfold qWord; rw [if_neg a0, if_neg a1, if_neg a2, if_neg a3, if_neg a4, if_neg a5, if_neg a6, if_neg a7, if_neg a8, if_pos a9]; rfl))
    (fun a0 a1 a2 a3 a4 a5 a6 a7 a8 a9 a10 => zQ_i h (by unfold qWord; rw [if_neg a0, if_neg a1, if_neg a2, if_neg a3, if_neg a4, if_neg a5, if_neg a6, if_neg a7, if_neg a8, if_neg a9, if_pos a10]; rfl))
    (fun a0 a1 a2 a3 a4 a5 a6 a7 a8 a9 a10 => zQ_i h (by unfold qWord; rw [if_neg a0, if_neg a1, if_neg a2, if_neg a3, if_neg a4, if_neg a5, if_neg a6, if_neg a7, if_neg a8, if_neg a9, if_neg a10]; rfl))
theorem zl_39 {d : Nat} {σ : zS} {Q : Option zV → zS → Prop} {T : Nat → Int} {N p n : Nat} (hT : cTp σ T N) (hp : p + n ≤ N) (n4 : n ≤ 4) (dg : ∀ i, i < n → 48 ≤ T (p + i) ∧ T (p + i) ≤ 57) (h : Q (some (.inl (qHo T p n))) σ) : ∀ f i : Nat, i + f = n → zX (d + 0) 39 11 [some (.inr (.inr (5, 0))), some (.inl (p : Int)), some (.inl ((p + n : Nat) : Int)), some (.inl (qHo T p i)), some (.inl ((p + i : Nat) : Int))] [] σ Q := by
  have h160 := hT.2.1
  intro f
  induction f with
  | zero =>
    intro i e
    have e : i = n := by omega
    subst e
    exact zb_39l (fun a => absurd (by omega) a) (fun _ => h) (fun a => absurd (by omega) a)
  | succ f ih =>
    intro i e
    have t := hT.2.2 (p + i) (by omega)
    have g := dg i (by omega)
    have B := qHo_b (T := T) (p := p) (n := i) (fun i hi => dg i (by omega))
    refine zb_39l (fun _ => by omega) (fun a => absurd a (by omega)) (fun _ => ?_)
    have v : zW ((zW ((zW (qHo T p i * 10)) + (σ.1 28 0 (((p + i : Nat) : Int).toNat)))) - 48) = qHo T p (i + 1) := by
      show zW ((zW ((zW (qHo T p i * 10)) + (σ.1 28 0 (p + i)))) - 48) = qHo T p i * 10 + T (p + i) - 48
      have u : σ.1 28 0 (p + i) = T (p + i) := by omega
      rw [u]
      have b : qHo T p i ≤ 9999 := B.2.1 (by omega)
      have b0 := B.1
      generalize qHo T p i = w at b b0
      generalize T (p + i) = c at g
      clear t u B dg h ih
      rw [zW_id (z := w * 10) (by omega), zW_id (z := w * 10 + c) (by omega), zW_id (by omega)]
    rw [v, qW1 (by omega)]
    exact ih (i + 1) (by omega)
theorem zs_39 {d : Nat} {σ : zS} {Q : Option zV → zS → Prop} {T : Nat → Int} {N : Nat} {x y : Int} (hT : cTp σ T N) (o : 0 ≤ x ∧ x ≤ y ∧ y ≤ (N : Int)) (dg : ∀ i, i < y.toNat - x.toNat → 48 ≤ T (x.toNat + i) ∧ T (x.toNat + i) ≤ 57) (h : Q (some (.inl (qRC (if 4 < y.toNat - x.toNat then 24 else 100 + qHo T x.toNat (y.toNat - x.toNat))))) σ) :
    zM (d + 0) 39 [.inr (.inr (5, 0)), .inl x, .inl y] σ Q := by
  have h160 := hT.2.1
  obtain ⟨p, rfl⟩ := Int.eq_ofNat_of_zero_le o.1
  obtain ⟨q, rfl⟩ := Int.eq_ofNat_of_zero_le (show 0 ≤ y by omega)
  have dg : ∀ i, i < q - p → 48 ≤ T (p + i) ∧ T (p + i) ≤ 57 := dg
  have h : Q (some (.inl (qRC (if 4 < q - p then 24 else 100 + qHo T p (q - p))))) σ := h
  refine zb_39 (fun a => ?_) (fun a => ?_)
  · rw [qWs (by omega) (by omega)] at a
    rw [if_neg (by omega)] at h
    have B := qHo_b dg
    have e : qRC (100 + qHo T p (q - p)) = qHo T p (q - p) := by
      have b0 := B.1
      unfold qRC
      rw [if_neg (by omega), if_pos (by omega)]; omega
    rw [e] at h
    have r := zl_39 (d := d) (p := p) (n := q - p) hT (by omega) (by omega) dg h (q - p) 0 (by omega)
    rw [show p + (q - p) = q by omega] at r
    exact r
  · rw [qWs (by omega) (by omega)] at a
    rw [if_pos (by omega)] at h
    exact h
-- X5_tokenAt
theorem zb_36 {d : Nat} {σ : zS} {Q : Option zV → zS → Prop} {T : Nat → Int} {N : Nat} {x y : Int}
    (o1 : (0 : Int) ≤ x ∧ x < (160 : Int))
    (o2 : 97 ≤ (σ.1 28 0 (x.toNat)) ∧ (σ.1 28 0 (x.toNat)) ≤ 122 → cTp σ T N)
    (o3 : 97 ≤ (σ.1 28 0 (x.toNat)) ∧ (σ.1 28 0 (x.toNat)) ≤ 122 → 0 ≤ x ∧ x ≤ y ∧ y ≤ (N : Int))
    (o4 : ¬ (97 ≤ (σ.1 28 0 (x.toNat)) ∧ (σ.1 28 0 (x.toNat)) ≤ 122) → 48 ≤ (σ.1 28 0 (x.toNat)) ∧ (σ.1 28 0 (x.toNat)) ≤ 57 → cTp σ T N)
    (o5 : ¬ (97 ≤ (σ.1 28 0 (x.toNat)) ∧ (σ.1 28 0 (x.toNat)) ≤ 122) → 48 ≤ (σ.1 28 0 (x.toNat)) ∧ (σ.1 28 0 (x.toNat)) ≤ 57 → 0 ≤ x ∧ x ≤ y ∧ y ≤ (N : Int))
    (o6 : ¬ (97 ≤ (σ.1 28 0 (x.toNat)) ∧ (σ.1 28 0 (x.toNat)) ≤ 122) → 48 ≤ (σ.1 28 0 (x.toNat)) ∧ (σ.1 28 0 (x.toNat)) ≤ 57 → ∀ i, i < y.toNat - x.toNat → 48 ≤ T (x.toNat + i) ∧ T (x.toNat + i) ≤ 57)
    (h1 : 97 ≤ (σ.1 28 0 (x.toNat)) ∧ (σ.1 28 0 (x.toNat)) ≤ 122 → Q (some (.inl (qRC (qWord T x.toNat (y.toNat - x.toNat))))) σ)
    (h2 : ¬ (97 ≤ (σ.1 28 0 (x.toNat)) ∧ (σ.1 28 0 (x.toNat)) ≤ 122) → 48 ≤ (σ.1 28 0 (x.toNat)) ∧ (σ.1 28 0 (x.toNat)) ≤ 57 → Q (some (.inl (qRC (if 4 < y.toNat - x.toNat then 24 else 100 + qHo T x.toNat (y.toNat - x.toNat))))) σ)
    (h3 : ¬ (97 ≤ (σ.1 28 0 (x.toNat)) ∧ (σ.1 28 0 (x.toNat)) ≤ 122) → ¬ (48 ≤ (σ.1 28 0 (x.toNat)) ∧ (σ.1 28 0 (x.toNat)) ≤ 57) → σ.1 28 0 (x.toNat) < 40 ∨ 61 < σ.1 28 0 (x.toNat) → Q (some (.inl (-22))) σ)
    (h4 : ¬ (97 ≤ (σ.1 28 0 (x.toNat)) ∧ (σ.1 28 0 (x.toNat)) ≤ 122) → ¬ (48 ≤ (σ.1 28 0 (x.toNat)) ∧ (σ.1 28 0 (x.toNat)) ≤ 57) → σ.1 28 0 (x.toNat) = 40 → Q (some (.inl (-18))) σ)
    (h5 : ¬ (97 ≤ (σ.1 28 0 (x.toNat)) ∧ (σ.1 28 0 (x.toNat)) ≤ 122) → ¬ (48 ≤ (σ.1 28 0 (x.toNat)) ∧ (σ.1 28 0 (x.toNat)) ≤ 57) → σ.1 28 0 (x.toNat) = 41 → Q (some (.inl (-19))) σ)
    (h6 : ¬ (97 ≤ (σ.1 28 0 (x.toNat)) ∧ (σ.1 28 0 (x.toNat)) ≤ 122) → ¬ (48 ≤ (σ.1 28 0 (x.toNat)) ∧ (σ.1 28 0 (x.toNat)) ≤ 57) → σ.1 28 0 (x.toNat) = 42 → Q (some (.inl (-14))) σ)
    (h7 : ¬ (97 ≤ (σ.1 28 0 (x.toNat)) ∧ (σ.1 28 0 (x.toNat)) ≤ 122) → ¬ (48 ≤ (σ.1 28 0 (x.toNat)) ∧ (σ.1 28 0 (x.toNat)) ≤ 57) → σ.1 28 0 (x.toNat) = 43 → Q (some (.inl (-12))) σ)
    (h8 : ¬ (97 ≤ (σ.1 28 0 (x.toNat)) ∧ (σ.1 28 0 (x.toNat)) ≤ 122) → ¬ (48 ≤ (σ.1 28 0 (x.toNat)) ∧ (σ.1 28 0 (x.toNat)) ≤ 57) → σ.1 28 0 (x.toNat) = 44 → Q (some (.inl (-22))) σ)
    (h9 : ¬ (97 ≤ (σ.1 28 0 (x.toNat)) ∧ (σ.1 28 0 (x.toNat)) ≤ 122) → ¬ (48 ≤ (σ.1 28 0 (x.toNat)) ∧ (σ.1 28 0 (x.toNat)) ≤ 57) → σ.1 28 0 (x.toNat) = 45 → Q (some (.inl (-13))) σ)
    (h10 : ¬ (97 ≤ (σ.1 28 0 (x.toNat)) ∧ (σ.1 28 0 (x.toNat)) ≤ 122) → ¬ (48 ≤ (σ.1 28 0 (x.toNat)) ∧ (σ.1 28 0 (x.toNat)) ≤ 57) → σ.1 28 0 (x.toNat) = 46 → Q (some (.inl (-22))) σ)
    (h11 : ¬ (97 ≤ (σ.1 28 0 (x.toNat)) ∧ (σ.1 28 0 (x.toNat)) ≤ 122) → ¬ (48 ≤ (σ.1 28 0 (x.toNat)) ∧ (σ.1 28 0 (x.toNat)) ≤ 57) → σ.1 28 0 (x.toNat) = 47 → Q (some (.inl (-22))) σ)
    (h12 : ¬ (97 ≤ (σ.1 28 0 (x.toNat)) ∧ (σ.1 28 0 (x.toNat)) ≤ 122) → ¬ (48 ≤ (σ.1 28 0 (x.toNat)) ∧ (σ.1 28 0 (x.toNat)) ≤ 57) → σ.1 28 0 (x.toNat) = 48 → Q (some (.inl (-22))) σ)
    (h13 : ¬ (97 ≤ (σ.1 28 0 (x.toNat)) ∧ (σ.1 28 0 (x.toNat)) ≤ 122) → ¬ (48 ≤ (σ.1 28 0 (x.toNat)) ∧ (σ.1 28 0 (x.toNat)) ≤ 57) → σ.1 28 0 (x.toNat) = 49 → Q (some (.inl (-22))) σ)
    (h14 : ¬ (97 ≤ (σ.1 28 0 (x.toNat)) ∧ (σ.1 28 0 (x.toNat)) ≤ 122) → ¬ (48 ≤ (σ.1 28 0 (x.toNat)) ∧ (σ.1 28 0 (x.toNat)) ≤ 57) → σ.1 28 0 (x.toNat) = 50 → Q (some (.inl (-22))) σ)
    (h15 : ¬ (97 ≤ (σ.1 28 0 (x.toNat)) ∧ (σ.1 28 0 (x.toNat)) ≤ 122) → ¬ (48 ≤ (σ.1 28 0 (x.toNat)) ∧ (σ.1 28 0 (x.toNat)) ≤ 57) → σ.1 28 0 (x.toNat) = 51 → Q (some (.inl (-22))) σ)
    (h16 : ¬ (97 ≤ (σ.1 28 0 (x.toNat)) ∧ (σ.1 28 0 (x.toNat)) ≤ 122) → ¬ (48 ≤ (σ.1 28 0 (x.toNat)) ∧ (σ.1 28 0 (x.toNat)) ≤ 57) → σ.1 28 0 (x.toNat) = 52 → Q (some (.inl (-22))) σ)
    (h17 : ¬ (97 ≤ (σ.1 28 0 (x.toNat)) ∧ (σ.1 28 0 (x.toNat)) ≤ 122) → ¬ (48 ≤ (σ.1 28 0 (x.toNat)) ∧ (σ.1 28 0 (x.toNat)) ≤ 57) → σ.1 28 0 (x.toNat) = 53 → Q (some (.inl (-22))) σ)
    (h18 : ¬ (97 ≤ (σ.1 28 0 (x.toNat)) ∧ (σ.1 28 0 (x.toNat)) ≤ 122) → ¬ (48 ≤ (σ.1 28 0 (x.toNat)) ∧ (σ.1 28 0 (x.toNat)) ≤ 57) → σ.1 28 0 (x.toNat) = 54 → Q (some (.inl (-22))) σ)
    (h19 : ¬ (97 ≤ (σ.1 28 0 (x.toNat)) ∧ (σ.1 28 0 (x.toNat)) ≤ 122) → ¬ (48 ≤ (σ.1 28 0 (x.toNat)) ∧ (σ.1 28 0 (x.toNat)) ≤ 57) → σ.1 28 0 (x.toNat) = 55 → Q (some (.inl (-22))) σ)
    (h20 : ¬ (97 ≤ (σ.1 28 0 (x.toNat)) ∧ (σ.1 28 0 (x.toNat)) ≤ 122) → ¬ (48 ≤ (σ.1 28 0 (x.toNat)) ∧ (σ.1 28 0 (x.toNat)) ≤ 57) → σ.1 28 0 (x.toNat) = 56 → Q (some (.inl (-22))) σ)
    (h21 : ¬ (97 ≤ (σ.1 28 0 (x.toNat)) ∧ (σ.1 28 0 (x.toNat)) ≤ 122) → ¬ (48 ≤ (σ.1 28 0 (x.toNat)) ∧ (σ.1 28 0 (x.toNat)) ≤ 57) → σ.1 28 0 (x.toNat) = 57 → Q (some (.inl (-22))) σ)
    (h22 : ¬ (97 ≤ (σ.1 28 0 (x.toNat)) ∧ (σ.1 28 0 (x.toNat)) ≤ 122) → ¬ (48 ≤ (σ.1 28 0 (x.toNat)) ∧ (σ.1 28 0 (x.toNat)) ≤ 57) → σ.1 28 0 (x.toNat) = 58 → Q (some (.inl (-22))) σ)
    (h23 : ¬ (97 ≤ (σ.1 28 0 (x.toNat)) ∧ (σ.1 28 0 (x.toNat)) ≤ 122) → ¬ (48 ≤ (σ.1 28 0 (x.toNat)) ∧ (σ.1 28 0 (x.toNat)) ≤ 57) → σ.1 28 0 (x.toNat) = 59 → Q (some (.inl (-20))) σ)
    (h24 : ¬ (97 ≤ (σ.1 28 0 (x.toNat)) ∧ (σ.1 28 0 (x.toNat)) ≤ 122) → ¬ (48 ≤ (σ.1 28 0 (x.toNat)) ∧ (σ.1 28 0 (x.toNat)) ≤ 57) → σ.1 28 0 (x.toNat) = 60 → Q (some (.inl (-10))) σ)
    (h25 : ¬ (97 ≤ (σ.1 28 0 (x.toNat)) ∧ (σ.1 28 0 (x.toNat)) ≤ 122) → ¬ (48 ≤ (σ.1 28 0 (x.toNat)) ∧ (σ.1 28 0 (x.toNat)) ≤ 57) → σ.1 28 0 (x.toNat) = 61 → Q (some (.inl (-11))) σ) :
    zM (d + 12) 36 [.inr (.inr (5, 0)), .inl x, .inl y] σ Q := by
  refine zX_run (n' := 3) (ls' := [some (.inr (.inr (5, 0))), some (.inl x), some (.inl y)]) (st' := [.inl x, .inr (.inr (28, 0))]) (σ' := σ) 3 rfl ?_
  refine zX_ald3 (L := 160) rfl (by decide) rfl o1 ?_
  refine zX_call rfl rfl ?_
  refine zs_40 (fun a1 => ?_) (fun a2 => ?_)
  · skip
    refine zX_run (n' := 9) (ls' := [some (.inr (.inr (5, 0))), some (.inl x), some (.inl y)]) (st' := [.inl y, .inl x, .inr (.inr (5, 0))]) (σ' := σ) 4 rfl ?_
    refine zX_call rfl rfl ?_
    refine zs_37 (o2 a1) (o3 a1) ?_
    · skip
      exact zX_ret rfl rfl (h1 a1)
  · skip
    refine zX_run (n' := 14) (ls' := [some (.inr (.inr (5, 0))), some (.inl x), some (.inl y)]) (st' := [.inl x, .inr (.inr (28, 0))]) (σ' := σ) 4 rfl ?_
    refine zX_ald3 (L := 160) rfl (by decide) rfl o1 ?_
    refine zX_call rfl rfl ?_
    refine zs_41 (fun a3 => ?_) (fun a4 => ?_)
    · skip
      refine zX_run (n' := 20) (ls' := [some (.inr (.inr (5, 0))), some (.inl x), some (.inl y)]) (st' := [.inl y, .inl x, .inr (.inr (5, 0))]) (σ' := σ) 4 rfl ?_
      refine zX_call rfl rfl ?_
      refine zs_39 (o4 a2 a3) (o5 a2 a3) (o6 a2 a3) ?_
      · skip
        exact zX_ret rfl rfl (h2 a2 a3)
    · skip
      refine zX_run (n' := 25) (ls' := [some (.inr (.inr (5, 0))), some (.inl x), some (.inl y)]) (st' := [.inl x, .inr (.inr (28, 0))]) (σ' := σ) 4 rfl ?_
      refine zX_ald3 (L := 160) rfl (by decide) rfl o1 ?_
      refine zX_sw rfl (fun a5 => ?_) ⟨fun a5 => ?_, fun a5 => ?_, fun a5 => ?_, fun a5 => ?_, fun a5 => ?_, fun a5 => ?_, fun a5 => ?_, fun a5 => ?_, fun a5 => ?_, fun a5 => ?_, fun a5 => ?_, fun a5 => ?_, fun a5 => ?_, fun a5 => ?_, fun a5 => ?_, fun a5 => ?_, fun a5 => ?_, fun a5 => ?_, fun a5 => ?_, fun a5 => ?_, fun a5 => ?_, fun a5 => ?_, trivial⟩
      · skip
        refine zX_run (n' := 44) (ls' := [some (.inr (.inr (5, 0))), some (.inl x), some (.inl y)]) (st' := [.inl (-22)]) (σ' := σ) 1 rfl ?_
        exact zX_ret rfl rfl (h3 a2 a4 a5)
      · skip
        refine zX_run (n' := 28) (ls' := [some (.inr (.inr (5, 0))), some (.inl x), some (.inl y)]) (st' := [.inl (-18)]) (σ' := σ) 1 rfl ?_
        exact zX_ret rfl rfl (h4 a2 a4 a5)
      · skip
        refine zX_run (n' := 30) (ls' := [some (.inr (.inr (5, 0))), some (.inl x), some (.inl y)]) (st' := [.inl (-19)]) (σ' := σ) 1 rfl ?_
        exact zX_ret rfl rfl (h5 a2 a4 a5)
      · skip
        refine zX_run (n' := 38) (ls' := [some (.inr (.inr (5, 0))), some (.inl x), some (.inl y)]) (st' := [.inl (-14)]) (σ' := σ) 1 rfl ?_
        exact zX_ret rfl rfl (h6 a2 a4 a5)
      · skip
        refine zX_run (n' := 34) (ls' := [some (.inr (.inr (5, 0))), some (.inl x), some (.inl y)]) (st' := [.inl (-12)]) (σ' := σ) 1 rfl ?_
        exact zX_ret rfl rfl (h7 a2 a4 a5)
      · skip
        refine zX_run (n' := 44) (ls' := [some (.inr (.inr (5, 0))), some (.inl x), some (.inl y)]) (st' := [.inl (-22)]) (σ' := σ) 1 rfl ?_
        exact zX_ret rfl rfl (h8 a2 a4 a5)
      · skip
        refine zX_run (n' := 36) (ls' := [some (.inr (.inr (5, 0))), some (.inl x), some (.inl y)]) (st' := [.inl (-13)]) (σ' := σ) 1 rfl ?_
        exact zX_ret rfl rfl (h9 a2 a4 a5)
      · skip
        refine zX_run (n' := 44) (ls' := [some (.inr (.inr (5, 0))), some (.inl x), some (.inl y)]) (st' := [.inl (-22)]) (σ' := σ) 1 rfl ?_
        exact zX_ret rfl rfl (h10 a2 a4 a5)
      · skip
        refine zX_run (n' := 44) (ls' := [some (.inr (.inr (5, 0))), some (.inl x), some (.inl y)]) (st' := [.inl (-22)]) (σ' := σ) 1 rfl ?_
        exact zX_ret rfl rfl (h11 a2 a4 a5)
      · skip
        refine zX_run (n' := 44) (ls' := [some (.inr (.inr (5, 0))), some (.inl x), some (.inl y)]) (st' := [.inl (-22)]) (σ' := σ) 1 rfl ?_
        exact zX_ret rfl rfl (h12 a2 a4 a5)
      · skip
        refine zX_run (n' := 44) (ls' := [some (.inr (.inr (5, 0))), some (.inl x), some (.inl y)]) (st' := [.inl (-22)]) (σ' := σ) 1 rfl ?_
        exact zX_ret rfl rfl (h13 a2 a4 a5)
      · skip
        refine zX_run (n' := 44) (ls' := [some (.inr (.inr (5, 0))), some (.inl x), some (.inl y)]) (st' := [.inl (-22)]) (σ' := σ) 1 rfl ?_
        exact zX_ret rfl rfl (h14 a2 a4 a5)
      · skip
        refine zX_run (n' := 44) (ls' := [some (.inr (.inr (5, 0))), some (.inl x), some (.inl y)]) (st' := [.inl (-22)]) (σ' := σ) 1 rfl ?_
        exact zX_ret rfl rfl (h15 a2 a4 a5)
      · skip
        refine zX_run (n' := 44) (ls' := [some (.inr (.inr (5, 0))), some (.inl x), some (.inl y)]) (st' := [.inl (-22)]) (σ' := σ) 1 rfl ?_
        exact zX_ret rfl rfl (h16 a2 a4 a5)
      · skip
        refine zX_run (n' := 44) (ls' := [some (.inr (.inr (5, 0))), some (.inl x), some (.inl y)]) (st' := [.inl (-22)]) (σ' := σ) 1 rfl ?_
        exact zX_ret rfl rfl (h17 a2 a4 a5)
      · skip
        refine zX_run (n' := 44) (ls' := [some (.inr (.inr (5, 0))), some (.inl x), some (.inl y)]) (st' := [.inl (-22)]) (σ' := σ) 1 rfl ?_
        exact zX_ret rfl rfl (h18 a2 a4 a5)
      · skip
        refine zX_run (n' := 44) (ls' := [some (.inr (.inr (5, 0))), some (.inl x), some (.inl y)]) (st' := [.inl (-22)]) (σ' := σ) 1 rfl ?_
        exact zX_ret rfl rfl (h19 a2 a4 a5)
      · skip
        refine zX_run (n' := 44) (ls' := [some (.inr (.inr (5, 0))), some (.inl x), some (.inl y)]) (st' := [.inl (-22)]) (σ' := σ) 1 rfl ?_
        exact zX_ret rfl rfl (h20 a2 a4 a5)
      · skip
        refine zX_run (n' := 44) (ls' := [some (.inr (.inr (5, 0))), some (.inl x), some (.inl y)]) (st' := [.inl (-22)]) (σ' := σ) 1 rfl ?_
        exact zX_ret rfl rfl (h21 a2 a4 a5)
      · skip
        refine zX_run (n' := 44) (ls' := [some (.inr (.inr (5, 0))), some (.inl x), some (.inl y)]) (st' := [.inl (-22)]) (σ' := σ) 1 rfl ?_
        exact zX_ret rfl rfl (h22 a2 a4 a5)
      · skip
        refine zX_run (n' := 32) (ls' := [some (.inr (.inr (5, 0))), some (.inl x), some (.inl y)]) (st' := [.inl (-20)]) (σ' := σ) 1 rfl ?_
        exact zX_ret rfl rfl (h23 a2 a4 a5)
      · skip
        refine zX_run (n' := 40) (ls' := [some (.inr (.inr (5, 0))), some (.inl x), some (.inl y)]) (st' := [.inl (-10)]) (σ' := σ) 1 rfl ?_
        exact zX_ret rfl rfl (h24 a2 a4 a5)
      · skip
        refine zX_run (n' := 42) (ls' := [some (.inr (.inr (5, 0))), some (.inl x), some (.inl y)]) (st' := [.inl (-11)]) (σ' := σ) 1 rfl ?_
        exact zX_ret rfl rfl (h25 a2 a4 a5)
theorem zs_36 {d : Nat} {σ : zS} {Q : Option zV → zS → Prop} {T : Nat → Int} {N : Nat} {x y : Int} (hT : cTp σ T N) (o : 0 ≤ x ∧ x < (N : Int) ∧ y = (qEnd T N x.toNat : Int)) (h : Q (some (.inl (qRC (qTok T x.toNat y.toNat)))) σ) :
    zM (d + 12) 36 [.inr (.inr (5, 0)), .inl x, .inl y] σ Q := by
  have h160 := hT.2.1
  obtain ⟨p, rfl⟩ := Int.eq_ofNat_of_zero_le o.1
  have E := qEnd_le (T := T) (N := N) (p := p) (by omega)
  have o3 : y = (qEnd T N p : Int) := o.2.2
  subst o3
  have h : Q (some (.inl (qRC (qTok T p (qEnd T N p))))) σ := h
  have t := hT.2.2 p (by omega)
  have yL : (97 ≤ σ.1 28 0 p ∧ σ.1 28 0 p ≤ 122) ↔ (97 ≤ T p ∧ T p ≤ 122) := qBy t (by decide)
  have yD : (48 ≤ σ.1 28 0 p ∧ σ.1 28 0 p ≤ 57) ↔ (48 ≤ T p ∧ T p ≤ 57) := qBy t (by decide)
  have oo : 0 ≤ (p : Int) ∧ (p : Int) ≤ (qEnd T N p : Int) ∧ (qEnd T N p : Int) ≤ (N : Int) := by omega
  have key : ∀ v : Int, ¬ (97 ≤ σ.1 28 0 p ∧ σ.1 28 0 p ≤ 122) → ¬ (48 ≤ σ.1 28 0 p ∧ σ.1 28 0 p ≤ 57) → v = qRC (qSgn (T p)) → Q (some (.inl v)) σ := fun v a b e => by
    refine zQ_i h ?_
    unfold qTok
    rw [if_neg (fun q => a (yL.mpr q)), if_neg (fun q => b (yD.mpr q))]; exact e
  exact zb_36 (by omega)
    (fun a0 => hT)
    (fun a0 => oo)
    (fun a0 a1 => hT)
    (fun a0 a1 => oo)
    (fun a0 a1 => qEnd_num (fun q => a0 (yL.mpr q)) (yD.mp a1))
    (fun a0 => zQ_i h (by unfold qTok; rw [if_pos (yL.mp a0)]; rfl))
    (fun a0 a1 => zQ_i h (by unfold qTok; rw [if_neg (fun q => a0 (yL.mpr q)), if_pos (yD.mp a1)]; rfl))
    (fun a0 a1 a2 => key _ a0 a1 (by have a2 : σ.1 28 0 p < 40 ∨ 61 < σ.1 28 0 p := a2; rw [show qSgn (T p) = 24 from by unfold qSgn; (repeat' split) <;> omega]; rfl))
    (fun a0 a1 a2 => key _ a0 a1 (by have c : T p = 40 := (qBe t (by decide)).mp a2; rw [c]; rfl))
    (fun a0 a1 a2 => key _ a0 a1 (by have c : T p = 41 := (qBe t (by decide)).mp a2; rw [c]; rfl))
    (fun a0 a1 a2 => key _ a0 a1 (by have c : T p = 42 := (qBe t (by decide)).mp a2; rw [c]; rfl))
    (fun a0 a1 a2 => key _ a0 a1 (by have c : T p = 43 := (qBe t (by decide)).mp a2; rw [c]; rfl))
    (fun a0 a1 a2 => key _ a0 a1 (by have c : T p = 44 := (qBe t (by decide)).mp a2; rw [c]; rfl))
    (fun a0 a1 a2 => key _ a0 a1 (by have c : T p = 45 := (qBe t (by decide)).mp a2; rw [c]; rfl))
    (fun a0 a1 a2 => key _ a0 a1 (by have c : T p = 46 := (qBe t (by decide)).mp a2; rw [c]; rfl))
    (fun a0 a1 a2 => key _ a0 a1 (by have c : T p = 47 := (qBe t (by decide)).mp a2; rw [c]; rfl))
    (fun a0 a1 a2 => key _ a0 a1 (by have c : T p = 48 := (qBe t (by decide)).mp a2; rw [c]; rfl))
    (fun a0 a1 a2 => key _ a0 a1 (by have c : T p = 49 := (qBe t (by decide)).mp a2; rw [c]; rfl))
    (fun a0 a1 a2 => key _ a0 a1 (by have c : T p = 50 := (qBe t (by decide)).mp a2; rw [c]; rfl))
    (fun a0 a1 a2 => key _ a0 a1 (by have c : T p = 51 := (qBe t (by decide)).mp a2; rw [c]; rfl))
    (fun a0 a1 a2 => key _ a0 a1 (by have c : T p = 52 := (qBe t (by decide)).mp a2; rw [c]; rfl))
    (fun a0 a1 a2 => key _ a0 a1 (by have c : T p = 53 := (qBe t (by decide)).mp a2; rw [c]; rfl))
    (fun a0 a1 a2 => key _ a0 a1 (by have c : T p = 54 := (qBe t (by decide)).mp a2; rw [c]; rfl))
    (fun a0 a1 a2 => key _ a0 a1 (by have c : T p = 55 := (qBe t (by decide)).mp a2; rw [c]; rfl))
    (fun a0 a1 a2 => key _ a0 a1 (by have c : T p = 56 := (qBe t (by decide)).mp a2; rw [c]; rfl))
    (fun a0 a1 a2 => key _ a0 a1 (by have c : T p = 57 := (qBe t (by decide)).mp a2; rw [c]; rfl))
    (fun a0 a1 a2 => key _ a0 a1 (by have c : T p = 58 := (qBe t (by decide)).mp a2; rw [c]; rfl))
    (fun a0 a1 a2 => key _ a0 a1 (by have c : T p = 59 := (qBe t (by decide)).mp a2; rw [c]; rfl))
    (fun a0 a1 a2 => key _ a0 a1 (by have c : T p = 60 := (qBe t (by decide)).mp a2; rw [c]; rfl))
    (fun a0 a1 a2 => key _ a0 a1 (by have c : T p = 61 := (qBe t (by decide)).mp a2; rw [c]; rfl))
theorem zl_35a {d : Nat} {σ : zS} {Q : Option zV → zS → Prop} {T : Nat → Int} {N p : Nat} (hT : cTp σ T N) (hp : p ≤ N) : ∀ f k : Nat, k + f = N → p ≤ k → Q (some (.inl ((qSp T 97 122 f k : Int) - (p : Int)))) σ → zX (d + 2) 35 10 [some (.inr (.inr (5, 0))), some (.inl (p : Int)), some (.inl (k : Int))] [] σ Q := by
  have h160 := hT.2.1
  have hN := hT.1
  intro f
  induction f with
  | zero =>
    intro k e hk h
    exact zb_35a (fun a => absurd (by omega) a) (fun _ => zQ_i h (zW_id (by omega))) (fun a _ => absurd (by omega) a) (fun a _ => absurd (by omega) a)
  | succ f ih =>
    intro k e hk h
    have t := hT.2.2 k (by omega)
    have yL : (97 ≤ σ.1 28 0 k ∧ σ.1 28 0 k ≤ 122) ↔ (97 ≤ T k ∧ T k ≤ 122) := qBy t (by decide)
    refine zb_35a (fun _ => by omega) (fun a => absurd a (by omega)) (fun _ a => ?_) (fun _ a => ?_)
    · rw [qW1 (by omega)]
      refine ih (k + 1) (by omega) (by omega) ?_
      have g : qSp T 97 122 (f + 1) k = qSp T 97 122 f (k + 1) := if_pos (yL.mp a)
      rw [g] at h; exact h
    · have g : qSp T 97 122 (f + 1) k = k := if_neg (fun q => a (yL.mpr q))
      rw [g] at h
      exact zQ_i h (zW_id (by omega))
theorem zl_35b {d : Nat} {σ : zS} {Q : Option zV → zS → Prop} {T : Nat → Int} {N p : Nat} (hT : cTp σ T N) (hp : p ≤ N) : ∀ f k : Nat, k + f = N → p ≤ k → Q (some (.inl ((qSp T 48 57 f k : Int) - (p : Int)))) σ → zX (d + 2) 35 28 [some (.inr (.inr (5, 0))), some (.inl (p : Int)), some (.inl (k : Int))] [] σ Q := by
  have h160 := hT.2.1
  have hN := hT.1
  intro f
  induction f with
  | zero =>
    intro k e hk h
    exact zb_35b (fun a => absurd (by omega) a) (fun _ => zQ_i h (zW_id (by omega))) (fun a _ => absurd (by omega) a) (fun a _ => absurd (by omega) a)
  | succ f ih =>
    intro k e hk h
    have t := hT.2.2 k (by omega)
    have yL : (48 ≤ σ.1 28 0 k ∧ σ.1 28 0 k ≤ 57) ↔ (48 ≤ T k ∧ T k ≤ 57) := qBy t (by decide)
    refine zb_35b (fun _ => by omega) (fun a => absurd a (by omega)) (fun _ a => ?_) (fun _ a => ?_)
    · rw [qW1 (by omega)]
      refine ih (k + 1) (by omega) (by omega) ?_
      have g : qSp T 48 57 (f + 1) k = qSp T 48 57 f (k + 1) := if_pos (yL.mp a)
      rw [g] at h; exact h
    · have g : qSp T 48 57 (f + 1) k = k := if_neg (fun q => a (yL.mpr q))
      rw [g] at h
      exact zQ_i h (zW_id (by omega))
theorem zs_35 {d : Nat} {σ : zS} {Q : Option zV → zS → Prop} {T : Nat → Int} {N : Nat} {x : Int} (hT : cTp σ T N) (o : 0 ≤ x ∧ x < (N : Int)) (h : Q (some (.inl ((qEnd T N x.toNat : Int) - x))) σ) :
    zM (d + 2) 35 [.inr (.inr (5, 0)), .inl x] σ Q := by
  have h160 := hT.2.1
  obtain ⟨p, rfl⟩ := Int.eq_ofNat_of_zero_le o.1
  have h : Q (some (.inl ((qEnd T N p : Int) - (p : Int)))) σ := h
  have t := hT.2.2 p (by omega)
  have yL : (97 ≤ σ.1 28 0 p ∧ σ.1 28 0 p ≤ 122) ↔ (97 ≤ T p ∧ T p ≤ 122) := qBy t (by decide)
  have yD : (48 ≤ σ.1 28 0 p ∧ σ.1 28 0 p ≤ 57) ↔ (48 ≤ T p ∧ T p ≤ 57) := qBy t (by decide)
  unfold qEnd at h
  refine zb_35 (by omega) (fun a => ?_) (fun a b => ?_) (fun a b => ?_)
  · rw [if_pos (yL.mp a)] at h
    rw [qW1 (by omega)]
    exact zl_35a hT (by omega) (N - (p + 1)) (p + 1) (by omega) (by omega) h
  · rw [if_neg (fun q => a (yL.mpr q)), if_pos (yD.mp b)] at h
    rw [qW1 (by omega)]
    exact zl_35b hT (by omega) (N - (p + 1)) (p + 1) (by omega) (by omega) h
  · rw [if_neg (fun q => a (yL.mpr q)), if_neg (fun q => b (yD.mpr q))] at h
    refine zQ_i h ?_
    rw [qW1 (by omega), zW_id (by omega)]
-- X5_findTokens
theorem zb_34 {d : Nat} {σ : zS} {Q : Option zV → zS → Prop} 
    (h1 : zX (d + 13) 34 6 [some (.inr (.inr (5, 0))), some (.inl 0), some (.inl 0), some (.inl 0), none] [] σ Q) :
    zM (d + 13) 34 [.inr (.inr (5, 0))] σ Q := by
  refine zX_run (n' := 6) (ls' := [some (.inr (.inr (5, 0))), some (.inl 0), some (.inl 0), some (.inl 0), none]) (st' := []) (σ' := σ) 6 rfl ?_
  exact h1
-- X5_findTokens
theorem zb_34l {d : Nat} {σ : zS} {Q : Option zV → zS → Prop} {T : Nat → Int} {N : Nat} {j p s : Int} {yl : Option zV}
    (o1 : 160 ≤ s → (0 : Int) ≤ j ∧ j < (161 : Int))
    (o2 : ¬ 160 ≤ s → σ.1 5 0 1 ≤ p → (0 : Int) ≤ j ∧ j < (161 : Int))
    (o3 : ¬ 160 ≤ s → ¬ σ.1 5 0 1 ≤ p → cTp σ T N)
    (o4 : ¬ 160 ≤ s → ¬ σ.1 5 0 1 ≤ p → 0 ≤ p ∧ p < (N : Int))
    (o5 : ¬ 160 ≤ s → ¬ σ.1 5 0 1 ≤ p → (0 : Int) ≤ p ∧ p < (160 : Int))
    (o6 : ¬ 160 ≤ s → ¬ σ.1 5 0 1 ≤ p → ¬ σ.1 28 0 (p.toNat) = 32 → ¬ σ.1 28 0 (p.toNat) = 10 → 0 ≤ p ∧ p < (N : Int) ∧ (zW (p + ((qEnd T N p.toNat : Int) - p))) = (qEnd T N p.toNat : Int))
    (o7 : ¬ 160 ≤ s → ¬ σ.1 5 0 1 ≤ p → ¬ σ.1 28 0 (p.toNat) = 32 → ¬ σ.1 28 0 (p.toNat) = 10 → (0 : Int) ≤ j ∧ j < (161 : Int))
    (h1 : 160 ≤ s → Q (none) (zU (zU σ 29 0 (j.toNat) (-21)) 30 0 (j.toNat) (σ.1 5 0 1)))
    (h2 : ¬ 160 ≤ s → σ.1 5 0 1 ≤ p → Q (none) (zU (zU σ 29 0 (j.toNat) (-21)) 30 0 (j.toNat) (σ.1 5 0 1)))
    (h3 : ¬ 160 ≤ s → ¬ σ.1 5 0 1 ≤ p → σ.1 28 0 (p.toNat) = 32 → zX (d + 13) 34 6 [some (.inr (.inr (5, 0))), some (.inl j), some (.inl (zW (p + ((qEnd T N p.toNat : Int) - p)))), some (.inl (zW (s + 1))), some (.inl ((qEnd T N p.toNat : Int) - p))] [] σ Q)
    (h4 : ¬ 160 ≤ s → ¬ σ.1 5 0 1 ≤ p → ¬ σ.1 28 0 (p.toNat) = 32 → σ.1 28 0 (p.toNat) = 10 → zX (d + 13) 34 6 [some (.inr (.inr (5, 0))), some (.inl j), some (.inl (zW (p + ((qEnd T N p.toNat : Int) - p)))), some (.inl (zW (s + 1))), some (.inl ((qEnd T N p.toNat : Int) - p))] [] σ Q)
    (h5 : ¬ 160 ≤ s → ¬ σ.1 5 0 1 ≤ p → ¬ σ.1 28 0 (p.toNat) = 32 → ¬ σ.1 28 0 (p.toNat) = 10 → zX (d + 13) 34 6 [some (.inr (.inr (5, 0))), some (.inl (zW (j + 1))), some (.inl (zW (p + ((qEnd T N p.toNat : Int) - p)))), some (.inl (zW (s + 1))), some (.inl ((qEnd T N p.toNat : Int) - p))] [] (zU (zU σ 29 0 (j.toNat) (qRC (qTok T p.toNat (zW (p + ((qEnd T N p.toNat : Int) - p))).toNat))) 30 0 (j.toNat) p) Q) :
    zX (d + 13) 34 6 [some (.inr (.inr (5, 0))), some (.inl j), some (.inl p), some (.inl s), yl] [] σ Q := by
  refine zX_run (n' := 8) (ls' := [some (.inr (.inr (5, 0))), some (.inl j), some (.inl p), some (.inl s), yl]) (st' := [.inl 160, .inl s]) (σ' := σ) 2 rfl ?_
  refine zX_c3 rfl (fun a1 => ?_) (fun a1 => ?_)
  · skip
    refine zX_run (n' := 55) (ls' := [some (.inr (.inr (5, 0))), some (.inl j), some (.inl p), some (.inl s), yl]) (st' := [.inl (-21), .inl j, .inr (.inr (29, 0))]) (σ' := σ) 4 rfl ?_
    refine zX_ast1 (L := 161) rfl (by decide) rfl (o1 a1) ?_
    refine zX_run (n' := 61) (ls' := [some (.inr (.inr (5, 0))), some (.inl j), some (.inl p), some (.inl s), yl]) (st' := [.inl (σ.1 5 0 1), .inl j, .inr (.inr (30, 0))]) (σ' := (zU σ 29 0 (j.toNat) (-21))) 5 rfl ?_
    refine zX_ast1 (L := 161) rfl (by decide) rfl (o1 a1) ?_
    exact zX_ret0 rfl rfl (h1 a1)
  · skip
    refine zX_run (n' := 12) (ls' := [some (.inr (.inr (5, 0))), some (.inl j), some (.inl p), some (.inl s), yl]) (st' := [.inl (σ.1 5 0 1), .inl p]) (σ' := σ) 3 rfl ?_
    refine zX_c3 rfl (fun a2 => ?_) (fun a2 => ?_)
    · skip
      refine zX_run (n' := 55) (ls' := [some (.inr (.inr (5, 0))), some (.inl j), some (.inl p), some (.inl s), yl]) (st' := [.inl (-21), .inl j, .inr (.inr (29, 0))]) (σ' := σ) 4 rfl ?_
      refine zX_ast1 (L := 161) rfl (by decide) rfl (o2 a1 a2) ?_
      refine zX_run (n' := 61) (ls' := [some (.inr (.inr (5, 0))), some (.inl j), some (.inl p), some (.inl s), yl]) (st' := [.inl (σ.1 5 0 1), .inl j, .inr (.inr (30, 0))]) (σ' := (zU σ 29 0 (j.toNat) (-21))) 5 rfl ?_
      refine zX_ast1 (L := 161) rfl (by decide) rfl (o2 a1 a2) ?_
      exact zX_ret0 rfl rfl (h2 a1 a2)
    · skip
      refine zX_run (n' := 15) (ls' := [some (.inr (.inr (5, 0))), some (.inl j), some (.inl p), some (.inl s), yl]) (st' := [.inl p, .inr (.inr (5, 0))]) (σ' := σ) 2 rfl ?_
      refine zX_call rfl rfl ?_
      refine zs_35 (o3 a1 a2) (o4 a1 a2) ?_
      · skip
        refine zX_run (n' := 20) (ls' := [some (.inr (.inr (5, 0))), some (.inl j), some (.inl p), some (.inl s), some (.inl ((qEnd T N p.toNat : Int) - p))]) (st' := [.inl p, .inr (.inr (28, 0))]) (σ' := σ) 4 rfl ?_
        refine zX_ald3 (L := 160) rfl (by decide) rfl (o5 a1 a2) ?_
        refine zX_run (n' := 22) (ls' := [some (.inr (.inr (5, 0))), some (.inl j), some (.inl p), some (.inl s), some (.inl ((qEnd T N p.toNat : Int) - p))]) (st' := [.inl 32, .inl (σ.1 28 0 (p.toNat))]) (σ' := σ) 1 rfl ?_
        refine zX_c0 rfl (fun a3 => ?_) (fun a3 => ?_)
        · skip
          refine zX_run (n' := 6) (ls' := [some (.inr (.inr (5, 0))), some (.inl j), some (.inl (zW (p + ((qEnd T N p.toNat : Int) - p)))), some (.inl (zW (s + 1))), some (.inl ((qEnd T N p.toNat : Int) - p))]) (st' := []) (σ' := σ) 6 rfl ?_
          exact h3 a1 a2 a3
        · skip
          refine zX_run (n' := 26) (ls' := [some (.inr (.inr (5, 0))), some (.inl j), some (.inl p), some (.inl s), some (.inl ((qEnd T N p.toNat : Int) - p))]) (st' := [.inl p, .inr (.inr (28, 0))]) (σ' := σ) 3 rfl ?_
          refine zX_ald3 (L := 160) rfl (by decide) rfl (o5 a1 a2) ?_
          refine zX_run (n' := 28) (ls' := [some (.inr (.inr (5, 0))), some (.inl j), some (.inl p), some (.inl s), some (.inl ((qEnd T N p.toNat : Int) - p))]) (st' := [.inl 10, .inl (σ.1 28 0 (p.toNat))]) (σ' := σ) 1 rfl ?_
          refine zX_c0 rfl (fun a4 => ?_) (fun a4 => ?_)
          · skip
            refine zX_run (n' := 6) (ls' := [some (.inr (.inr (5, 0))), some (.inl j), some (.inl (zW (p + ((qEnd T N p.toNat : Int) - p)))), some (.inl (zW (s + 1))), some (.inl ((qEnd T N p.toNat : Int) - p))]) (st' := []) (σ' := σ) 6 rfl ?_
            exact h4 a1 a2 a3 a4
          · skip
            refine zX_run (n' := 37) (ls' := [some (.inr (.inr (5, 0))), some (.inl j), some (.inl p), some (.inl s), some (.inl ((qEnd T N p.toNat : Int) - p))]) (st' := [.inl (zW (p + ((qEnd T N p.toNat : Int) - p))), .inl p, .inr (.inr (5, 0)), .inl j, .inr (.inr (29, 0))]) (σ' := σ) 8 rfl ?_
            refine zX_call rfl rfl ?_
            refine zs_36 (o3 a1 a2) (o6 a1 a2 a3 a4) ?_
            · skip
              refine zX_ast1 (L := 161) rfl (by decide) rfl (o7 a1 a2 a3 a4) ?_
              refine zX_run (n' := 43) (ls' := [some (.inr (.inr (5, 0))), some (.inl j), some (.inl p), some (.inl s), some (.inl ((qEnd T N p.toNat : Int) - p))]) (st' := [.inl p, .inl j, .inr (.inr (30, 0))]) (σ' := (zU σ 29 0 (j.toNat) (qRC (qTok T p.toNat (zW (p + ((qEnd T N p.toNat : Int) - p))).toNat)))) 4 rfl ?_
              refine zX_ast1 (L := 161) rfl (by decide) rfl (o7 a1 a2 a3 a4) ?_
              refine zX_run (n' := 6) (ls' := [some (.inr (.inr (5, 0))), some (.inl (zW (j + 1))), some (.inl (zW (p + ((qEnd T N p.toNat : Int) - p)))), some (.inl (zW (s + 1))), some (.inl ((qEnd T N p.toNat : Int) - p))]) (st' := []) (σ' := (zU (zU σ 29 0 (j.toNat) (qRC (qTok T p.toNat (zW (p + ((qEnd T N p.toNat : Int) - p))).toNat))) 30 0 (j.toNat) p)) 7 rfl ?_
              exact h5 a1 a2 a3 a4
/-- the tokens and their places as the class keeps them -/
def cTk (G : Nat → Nat → Nat → Int) (T : Nat → Int) (N j : Nat) : Prop := ∀ i, i ≤ j → G 29 0 i = qRC (qK T N i) ∧ G 30 0 i = (qP T N i : Int)
theorem zl_34 {d : Nat} {σ : zS} {Q : Option zV → zS → Prop} {T : Nat → Int} {N : Nat} (hT : cTp σ T N)
    (h : ∀ (G : Nat → Nat → Nat → Int) (j : Nat), j ≤ N → qP T N j = N → (∀ i, i < j → ¬ qP T N i = N) → cTk G T N j → G 5 = σ.1 5 → G 31 = σ.1 31 → Q none (zQ σ G)) :
    ∀ (f p j s : Nat) (yl : Option zV) (G : Nat → Nat → Nat → Int), N - p ≤ f → p ≤ N → s ≤ p → qSk T (N - p) p = qP T N j → j ≤ p → (∀ i, i < j → ¬ qP T N i = N) → (∀ i, i < j → G 29 0 i = qRC (qK T N i) ∧ G 30 0 i = (qP T N i : Int)) → G 5 = σ.1 5 → G 31 = σ.1 31 →
    zX (d + 13) 34 6 [some (.inr (.inr (5, 0))), some (.inl (j : Int)), some (.inl (p : Int)), some (.inl (s : Int)), yl] [] (zQ σ G) Q := by
  have h160 := hT.2.1
  have fin : ∀ (p j : Nat) (G : Nat → Nat → Nat → Int), p = N → qSk T (N - p) p = qP T N j → j ≤ p → (∀ i, i < j → ¬ qP T N i = N) → (∀ i, i < j → G 29 0 i = qRC (qK T N i) ∧ G 30 0 i = (qP T N i : Int)) → G 5 = σ.1 5 → G 31 = σ.1 31 →
      Q none (zU (zU (zQ σ G) 29 0 j (-21)) 30 0 j ((zQ σ G).1 5 0 1)) := by
    intro p j G e hs hj hi ht g5 g31
    rw [zQ_29, zQ_30]
    have hP : qP T N j = N := by
      rw [← hs, e, Nat.sub_self]; rfl
    have hv : (zQ σ G).1 5 0 1 = (N : Int) := by
      show G 5 0 1 = _
      rw [g5]; exact hT.1
    refine h _ j (by omega) hP hi (fun i hij => ?_) ((uG_k (by decide)).trans ((uG_k (by decide)).trans g5)) ((uG_k (by decide)).trans ((uG_k (by decide)).trans g31))
    by_cases c : i = j
    · subst c
      refine ⟨(uG_ne (fun q => absurd q.1 (by decide))).trans (uG_same.trans ?_), uG_same.trans (hv.trans (by rw [hP]))⟩
      have k25 : qK T N i = 25 := qK_tv.2.mpr hP
      rw [k25]; rfl
    · have := ht i (by omega)
      exact ⟨(uG_ne (fun q => absurd q.1 (by decide))).trans ((uG_ne (fun q => c q.2.1)).trans this.1), (uG_ne (fun q => c q.2.1)).trans ((uG_ne (fun q => absurd q.1 (by decide))).trans this.2)⟩
  intro f
  induction f with
  | zero =>
    intro p j s yl G hf hp hsp hs hj hi ht g5 g31
    have hv : (zQ σ G).1 5 0 1 = (N : Int) := by show G 5 0 1 = _; rw [g5]; exact hT.1
    have hle : (zQ σ G).1 5 0 1 ≤ (p : Int) := by rw [hv]; omega
    have F := fin p j G (by omega) hs hj hi ht g5 g31
    exact zb_34l (T := T) (N := N) (fun _ => by omega) (fun _ _ => by omega) (fun _ a => absurd hle a) (fun _ a => absurd hle a) (fun _ a => absurd hle a) (fun _ a _ _ => absurd hle a) (fun _ a _ _ => absurd hle a) (fun _ => F) (fun _ _ => F) (fun _ a _ => absurd hle a) (fun _ a _ _ => absurd hle a) (fun _ a _ _ => absurd hle a)
  | succ f ih =>
    intro p j s yl G hf hp hsp hs hj hi ht g5 g31
    have hv : (zQ σ G).1 5 0 1 = (N : Int) := by show G 5 0 1 = _; rw [g5]; exact hT.1
    have hT2 : cTp (zQ σ G) T N := ⟨hv, h160, hT.2.2⟩
    by_cases hpN : p = N
    · have hle : (zQ σ G).1 5 0 1 ≤ (p : Int) := by rw [hv]; omega
      have F := fin p j G (by omega) hs hj hi ht g5 g31
      exact zb_34l (T := T) (N := N) (fun _ => by omega) (fun _ _ => by omega) (fun _ a => absurd hle a) (fun _ a => absurd hle a) (fun _ a => absurd hle a) (fun _ a _ _ => absurd hle a) (fun _ a _ _ => absurd hle a) (fun _ => F) (fun _ _ => F) (fun _ a _ => absurd hle a) (fun _ a _ _ => absurd hle a) (fun _ a _ _ => absurd hle a)
    · have hle : ¬ (zQ σ G).1 5 0 1 ≤ (p : Int) := by rw [hv]; omega
      have h6 : ¬ (160 : Int) ≤ (s : Int) := by omega
      have t := hT.2.2 p (by omega)
      have E := qEnd_le (T := T) (N := N) (p := p) (by omega)
      have ew : zW ((p : Int) + ((qEnd T N p : Int) - (p : Int))) = (qEnd T N p : Int) := by rw [zW_id (by omega)]; omega
      have bl : (T p = 32 ∨ T p = 10) → zX (d + 13) 34 6 [some (.inr (.inr (5, 0))), some (.inl (j : Int)), some (.inl (zW ((p : Int) + ((qEnd T N p : Int) - (p : Int))))), some (.inl (zW ((s : Int) + 1))), some (.inl ((qEnd T N p : Int) - (p : Int)))] [] (zQ σ G) Q := fun b => by
        have e1 : qEnd T N p = p + 1 := by unfold qEnd; rw [if_neg (by omega), if_neg (by omega)]
        rw [ew, e1, qW1 (by omega)]
        exact ih (p + 1) j (s + 1) _ G (by omega) (by omega) (by omega) (by rw [← qSk_bl (by omega) b]; exact hs) (by omega) hi ht g5 g31
      have y32 : σ.1 28 0 p = 32 ↔ T p = 32 := qBe t (by decide)
      have y10 : σ.1 28 0 p = 10 ↔ T p = 10 := qBe t (by decide)
      refine zb_34l (T := T) (N := N) (fun a => absurd a h6) (fun _ a => absurd a hle) (fun _ _ => hT2) (fun _ _ => by omega) (fun _ _ => by omega) (fun _ _ _ _ => ⟨by omega, by omega, ew⟩) (fun _ _ _ _ => by omega) (fun a => absurd a h6) (fun _ a => absurd a hle) (fun _ _ a => bl (.inl (y32.mp a))) (fun _ _ _ a => bl (.inr (y10.mp a))) (fun _ _ a b => ?_)
      have nb : ¬ (T p = 32 ∨ T p = 10) := fun q => q.elim (fun q => a (y32.mpr q)) (fun q => b (y10.mpr q))
      have hP : qP T N j = p := by rw [← hs]; exact qSk_at nb
      have hPN : ¬ qP T N j = N := by omega
      have hK : qK T N j = qTok T p (qEnd T N p) := by unfold qK; rw [if_neg hPN, hP]
      show zX (d + 13) 34 6 [some (.inr (.inr (5, 0))), some (.inl (zW ((j : Int) + 1))), some (.inl (zW ((p : Int) + ((qEnd T N p : Int) - (p : Int))))), some (.inl (zW ((s : Int) + 1))), some (.inl ((qEnd T N p : Int) - (p : Int)))] [] (zU (zU (zQ σ G) 29 0 j (qRC (qTok T p (zW ((p : Int) + ((qEnd T N p : Int) - (p : Int)))).toNat))) 30 0 j (p : Int)) Q
      rw [ew, qW1 (by omega), qW1 (by omega), zQ_29, zQ_30]
      refine ih (qEnd T N p) (j + 1) (s + 1) _ _ (by omega) (by omega) (by omega) ?_ (by omega) (fun i hij => ?_) (fun i hij => ?_) ((uG_k (by decide)).trans ((uG_k (by decide)).trans g5)) ((uG_k (by decide)).trans ((uG_k (by decide)).trans g31))
      · show _ = qSk T (N - qA T N (j + 1)) (qA T N (j + 1))
        rw [qA_s hPN, hP]
      · by_cases c : i = j
        · rw [c]; exact hPN
        · exact hi i (by omega)
      · by_cases c : i = j
        · subst c
          exact ⟨(uG_ne (fun q => absurd q.1 (by decide))).trans (uG_same.trans (by rw [hK]; rfl)), uG_same.trans (by rw [hP])⟩
        · have := ht i (by omega)
          exact ⟨(uG_ne (fun q => absurd q.1 (by decide))).trans ((uG_ne (fun q => c q.2.1)).trans this.1), (uG_ne (fun q => c q.2.1)).trans ((uG_ne (fun q => absurd q.1 (by decide))).trans this.2)⟩
/-- the class finds the tokens -/
theorem zs_34 {d : Nat} {σ : zS} {Q : Option zV → zS → Prop} {T : Nat → Int} {N : Nat} (hT : cTp σ T N)
    (h : ∀ (G : Nat → Nat → Nat → Int) (j : Nat), j ≤ N → qP T N j = N → (∀ i, i < j → ¬ qP T N i = N) → cTk G T N j → G 5 = σ.1 5 → G 31 = σ.1 31 → Q none (zQ σ G)) :
    zM (d + 13) 34 [.inr (.inr (5, 0))] σ Q := by
  refine zb_34 ?_
  have r := zl_34 (d := d) hT h N 0 0 0 none σ.1 (by omega) (Nat.zero_le _) (Nat.le_refl _) rfl (Nat.le_refl _) (fun i hi => absurd hi (Nat.not_lt_zero _)) (fun i hi => absurd hi (Nat.not_lt_zero _)) rfl rfl
  rw [← zQ_self] at r
  exact r
