-- who gets less (wip/whole/gen/laws52.py)
-- X9_whoGetsLess
theorem zb_116 {d : Nat} {σ : zS} {Q : Option zV → zS → Prop} 
    (h1 : zX (d + 14) 116 4 [some (.inr (.inr (9, 0))), some (.inl 0), some (.inl 0)] [] σ Q) :
    zM (d + 14) 116 [.inr (.inr (9, 0))] σ Q := by
  refine zX_run (n' := 4) (ls' := [some (.inr (.inr (9, 0))), some (.inl 0), some (.inl 0)]) (st' := []) (σ' := σ) 4 rfl ?_
  exact h1
-- X9_whoGetsLess
theorem zb_116l {d : Nat} {σ : zS} {Q : Option zV → zS → Prop} {v h : Int}
    (o1 : ¬ σ.1 8 0 8 ≤ h → 0 ≤ h ∧ h < 16)
    (o2 : ¬ σ.1 8 0 8 ≤ h → 0 ≤ (0 : Int) ∧ (0 : Int) ≤ (96 : Int) ∧ (96 : Int) ≤ 96)
    (h1 : σ.1 8 0 8 ≤ h → Q (some (.inl v)) σ)
    (h2 : ¬ σ.1 8 0 8 ≤ h → uSw (σ.1 18 (16 * 0 + h.toNat)) (0 : Int).toNat ((96 : Int).toNat - (0 : Int).toNat) < uSw (σ.1 18 (16 * 1 + h.toNat)) (0 : Int).toNat ((96 : Int).toNat - (0 : Int).toNat) → zX (d + 14) 116 4 [some (.inr (.inr (9, 0))), some (.inl v), some (.inl (zW (h + 1)))] [] σ Q)
    (h3 : ¬ σ.1 8 0 8 ≤ h → uSw (σ.1 18 (16 * 1 + h.toNat)) (0 : Int).toNat ((96 : Int).toNat - (0 : Int).toNat) = uSw (σ.1 18 (16 * 0 + h.toNat)) (0 : Int).toNat ((96 : Int).toNat - (0 : Int).toNat) → zX (d + 14) 116 4 [some (.inr (.inr (9, 0))), some (.inl v), some (.inl (zW (h + 1)))] [] σ Q)
    (h4 : ¬ σ.1 8 0 8 ≤ h → uSw (σ.1 18 (16 * 1 + h.toNat)) (0 : Int).toNat ((96 : Int).toNat - (0 : Int).toNat) < uSw (σ.1 18 (16 * 0 + h.toNat)) (0 : Int).toNat ((96 : Int).toNat - (0 : Int).toNat) → zX (d + 14) 116 4 [some (.inr (.inr (9, 0))), some (.inl (zBin 4 v (zBin 6 1 h))), some (.inl (zW (h + 1)))] [] σ Q) :
    zX (d + 14) 116 4 [some (.inr (.inr (9, 0))), some (.inl v), some (.inl h)] [] σ Q := by
  refine zX_run (n' := 8) (ls' := [some (.inr (.inr (9, 0))), some (.inl v), some (.inl h)]) (st' := [.inl (σ.1 8 0 8), .inl h]) (σ' := σ) 4 rfl ?_
  refine zX_c3 rfl (fun a1 => ?_) (fun a1 => ?_)
  · skip
    refine zX_run (n' := 32) (ls' := [some (.inr (.inr (9, 0))), some (.inl v), some (.inl h)]) (st' := [.inl v]) (σ' := σ) 1 rfl ?_
    exact zX_ret rfl rfl (h1 a1)
  · skip
    refine zX_run (n' := 14) (ls' := [some (.inr (.inr (9, 0))), some (.inl v), some (.inl h)]) (st' := [.inl 96, .inl 0, .inl h, .inr (.inr (0, 1))]) (σ' := σ) 5 rfl ?_
    refine zX_call rfl rfl ?_
    refine zs_21 (o1 a1) (o2 a1) ?_
    · skip
      refine zX_run (n' := 20) (ls' := [some (.inr (.inr (9, 0))), some (.inl v), some (.inl h)]) (st' := [.inl 96, .inl 0, .inl h, .inr (.inr (0, 0)), .inr (.inl (uSw (σ.1 18 (16 * 1 + h.toNat)) (0 : Int).toNat ((96 : Int).toNat - (0 : Int).toNat)))]) (σ' := σ) 5 rfl ?_
      refine zX_call rfl rfl ?_
      refine zs_21 (o1 a1) (o2 a1) ?_
      · skip
        refine zX_lc rfl (fun a2 => ?_) (fun a2 => ?_) (fun a2 => ?_)
        · skip
          refine zX_run (n' := 4) (ls' := [some (.inr (.inr (9, 0))), some (.inl v), some (.inl (zW (h + 1)))]) (st' := []) (σ' := σ) 3 rfl ?_
          exact h2 a1 a2
        · skip
          refine zX_run (n' := 4) (ls' := [some (.inr (.inr (9, 0))), some (.inl v), some (.inl (zW (h + 1)))]) (st' := []) (σ' := σ) 3 rfl ?_
          exact h3 a1 a2
        · skip
          refine zX_run (n' := 4) (ls' := [some (.inr (.inr (9, 0))), some (.inl (zBin 4 v (zBin 6 1 h))), some (.inl (zW (h + 1)))]) (st' := []) (σ' := σ) 9 rfl ?_
          exact h4 a1 a2
-- X10_keeps
theorem zb_174 {d : Nat} {σ : zS} {Q : Option zV → zS → Prop} 
    (o1 : yRel σ)
    (h1 : ∀ G1 : zS, mRun σ G1 96 0 → yRel (yR σ G1) → zX (d + 7) 174 4 [some (.inr (.inr (10, 0))), some (.inl 0)] [] (yR σ G1) Q) :
    zM (d + 7) 174 [.inr (.inr (10, 0))] σ Q := by
  refine zX_run (n' := 1) (ls' := [some (.inr (.inr (10, 0))), none]) (st' := [.inr (.inr (10, 0))]) (σ' := σ) 1 rfl ?_
  refine zX_call rfl rfl ?_
  refine ys_158 o1 (fun G1 a1 a2 => ?_)
  · skip
    refine zX_run (n' := 4) (ls' := [some (.inr (.inr (10, 0))), some (.inl 0)]) (st' := []) (σ' := (yR σ G1)) 2 rfl ?_
    exact h1 G1 a1 a2
-- X10_keeps
theorem zb_174l {d : Nat} {σ : zS} {Q : Option zV → zS → Prop} {h : Int}
    (o1 : ¬ σ.1 10 0 4 ≤ h → 0 ≤ h ∧ h < 17)
    (o2 : ¬ σ.1 10 0 4 ≤ h → 0 ≤ (0 : Int) ∧ (0 : Int) ≤ (96 : Int) ∧ (96 : Int) ≤ 96)
    (o3 : ¬ σ.1 10 0 4 ≤ h → (0 : Int) ≤ h ∧ h < (17 : Int))
    (h1 : σ.1 10 0 4 ≤ h → Q (none) σ)
    (h2 : ¬ σ.1 10 0 4 ≤ h → zX (d + 7) 174 4 [some (.inr (.inr (10, 0))), some (.inl (zW (h + 1)))] [] (zUL σ 101 0 (h.toNat) (uSw (fun m => σ.1 92 0 (17 * m + h.toNat)) (0 : Int).toNat ((96 : Int).toNat - (0 : Int).toNat))) Q) :
    zX (d + 7) 174 4 [some (.inr (.inr (10, 0))), some (.inl h)] [] σ Q := by
  refine zX_run (n' := 7) (ls' := [some (.inr (.inr (10, 0))), some (.inl h)]) (st' := [.inl (σ.1 10 0 4), .inl h]) (σ' := σ) 3 rfl ?_
  refine zX_c3 rfl (fun a1 => ?_) (fun a1 => ?_)
  · skip
    exact zX_ret0 rfl rfl (h1 a1)
  · skip
    refine zX_run (n' := 15) (ls' := [some (.inr (.inr (10, 0))), some (.inl h)]) (st' := [.inl 96, .inl 0, .inl h, .inr (.inr (10, 0)), .inl h, .inr (.inr (101, 0))]) (σ' := σ) 7 rfl ?_
    refine zX_call rfl rfl ?_
    refine zs_160 (o1 a1) (o2 a1) ?_
    · skip
      refine zX_ast2 (L := 17) rfl (by decide) rfl (o3 a1) ?_
      refine zX_run (n' := 4) (ls' := [some (.inr (.inr (10, 0))), some (.inl (zW (h + 1)))]) (st' := []) (σ' := (zUL σ 101 0 (h.toNat) (uSw (fun m => σ.1 92 0 (17 * m + h.toNat)) (0 : Int).toNat ((96 : Int).toNat - (0 : Int).toNat)))) 2 rfl ?_
      exact h2 a1
-- X10_less
theorem zb_175 {d : Nat} {σ : zS} {Q : Option zV → zS → Prop} {n : Int} {b : Int}
    (h1 : zX (d + 1) 175 4 [some (.inr (.inr (10, 0))), some (.inl n), some (.inl b), some (.inl 0), some (.inl 0)] [] σ Q) :
    zM (d + 1) 175 [.inr (.inr (10, 0)), .inl n, .inl b] σ Q := by
  refine zX_run (n' := 4) (ls' := [some (.inr (.inr (10, 0))), some (.inl n), some (.inl b), some (.inl 0), some (.inl 0)]) (st' := []) (σ' := σ) 4 rfl ?_
  exact h1
-- X10_less
theorem zb_175l {d : Nat} {σ : zS} {Q : Option zV → zS → Prop} {n b v h : Int}
    (o1 : ¬ n ≤ h → ¬ h = b → 0 ≤ h ∧ h < 17)
    (o2 : ¬ n ≤ h → ¬ h = b → 0 ≤ (0 : Int) ∧ (0 : Int) ≤ (96 : Int) ∧ (96 : Int) ≤ 96)
    (o3 : ¬ n ≤ h → ¬ h = b → (0 : Int) ≤ h ∧ h < (17 : Int))
    (h1 : n ≤ h → Q (some (.inl v)) σ)
    (h2 : ¬ n ≤ h → h = b → zX (d + 1) 175 4 [some (.inr (.inr (10, 0))), some (.inl n), some (.inl b), some (.inl v), some (.inl (zW (h + 1)))] [] σ Q)
    (h3 : ¬ n ≤ h → ¬ h = b → σ.2 101 0 (h.toNat) < uSw (fun m => σ.1 92 0 (17 * m + h.toNat)) (0 : Int).toNat ((96 : Int).toNat - (0 : Int).toNat) → zX (d + 1) 175 4 [some (.inr (.inr (10, 0))), some (.inl n), some (.inl b), some (.inl v), some (.inl (zW (h + 1)))] [] σ Q)
    (h4 : ¬ n ≤ h → ¬ h = b → uSw (fun m => σ.1 92 0 (17 * m + h.toNat)) (0 : Int).toNat ((96 : Int).toNat - (0 : Int).toNat) = σ.2 101 0 (h.toNat) → zX (d + 1) 175 4 [some (.inr (.inr (10, 0))), some (.inl n), some (.inl b), some (.inl v), some (.inl (zW (h + 1)))] [] σ Q)
    (h5 : ¬ n ≤ h → ¬ h = b → uSw (fun m => σ.1 92 0 (17 * m + h.toNat)) (0 : Int).toNat ((96 : Int).toNat - (0 : Int).toNat) < σ.2 101 0 (h.toNat) → zX (d + 1) 175 4 [some (.inr (.inr (10, 0))), some (.inl n), some (.inl b), some (.inl (zBin 4 v (zBin 6 1 h))), some (.inl (zW (h + 1)))] [] σ Q) :
    zX (d + 1) 175 4 [some (.inr (.inr (10, 0))), some (.inl n), some (.inl b), some (.inl v), some (.inl h)] [] σ Q := by
  refine zX_run (n' := 6) (ls' := [some (.inr (.inr (10, 0))), some (.inl n), some (.inl b), some (.inl v), some (.inl h)]) (st' := [.inl n, .inl h]) (σ' := σ) 2 rfl ?_
  refine zX_c3 rfl (fun a1 => ?_) (fun a1 => ?_)
  · skip
    refine zX_run (n' := 30) (ls' := [some (.inr (.inr (10, 0))), some (.inl n), some (.inl b), some (.inl v), some (.inl h)]) (st' := [.inl v]) (σ' := σ) 1 rfl ?_
    exact zX_ret rfl rfl (h1 a1)
  · skip
    refine zX_run (n' := 9) (ls' := [some (.inr (.inr (10, 0))), some (.inl n), some (.inl b), some (.inl v), some (.inl h)]) (st' := [.inl b, .inl h]) (σ' := σ) 2 rfl ?_
    refine zX_c0 rfl (fun a2 => ?_) (fun a2 => ?_)
    · skip
      refine zX_run (n' := 4) (ls' := [some (.inr (.inr (10, 0))), some (.inl n), some (.inl b), some (.inl v), some (.inl (zW (h + 1)))]) (st' := []) (σ' := σ) 2 rfl ?_
      exact h2 a1 a2
    · skip
      refine zX_run (n' := 14) (ls' := [some (.inr (.inr (10, 0))), some (.inl n), some (.inl b), some (.inl v), some (.inl h)]) (st' := [.inl 96, .inl 0, .inl h, .inr (.inr (10, 0))]) (σ' := σ) 4 rfl ?_
      refine zX_call rfl rfl ?_
      refine zs_160 (o1 a1 a2) (o2 a1 a2) ?_
      · skip
        refine zX_run (n' := 18) (ls' := [some (.inr (.inr (10, 0))), some (.inl n), some (.inl b), some (.inl v), some (.inl h)]) (st' := [.inl h, .inr (.inr (101, 0)), .inr (.inl (uSw (fun m => σ.1 92 0 (17 * m + h.toNat)) (0 : Int).toNat ((96 : Int).toNat - (0 : Int).toNat)))]) (σ' := σ) 3 rfl ?_
        refine zX_ald2 (L := 17) rfl (by decide) rfl (o3 a1 a2) ?_
        refine zX_lc rfl (fun a3 => ?_) (fun a3 => ?_) (fun a3 => ?_)
        · skip
          refine zX_run (n' := 4) (ls' := [some (.inr (.inr (10, 0))), some (.inl n), some (.inl b), some (.inl v), some (.inl (zW (h + 1)))]) (st' := []) (σ' := σ) 3 rfl ?_
          exact h3 a1 a2 a3
        · skip
          refine zX_run (n' := 4) (ls' := [some (.inr (.inr (10, 0))), some (.inl n), some (.inl b), some (.inl v), some (.inl (zW (h + 1)))]) (st' := []) (σ' := σ) 3 rfl ?_
          exact h4 a1 a2 a3
        · skip
          refine zX_run (n' := 4) (ls' := [some (.inr (.inr (10, 0))), some (.inl n), some (.inl b), some (.inl (zBin 4 v (zBin 6 1 h))), some (.inl (zW (h + 1)))]) (st' := []) (σ' := σ) 9 rfl ?_
          exact h5 a1 a2 a3
def vTot (D : uT) (h : Nat) : Int := uSw (fun m => uV D (m + 1) 2 h) 0 96
theorem cw_tot {s : zS} {f : Nat} {D : uT} {h : Nat} (W : cWk s f D 96) (hh : h < uN D) : uSw (s.1 18 (16 * f + h)) 0 96 = vTot D h :=
  uSw_congr (fun k _ hk => (cw_w W (by omega) hh).2)
theorem mr_tot {σ τ : zS} {h : Nat} (M : mRun σ τ 96 0) (hh : h < uN (mD σ)) : uSw (fun m => τ.1 92 0 (17 * m + h)) 0 96 = vTot (mD σ) h :=
  uSw_congr (fun k _ hk => (M.2.2.2.2 k h (by omega) hh (.inl (by omega))).2.1)
theorem zBo {p : Nat → Bool} {h : Nat} (hh : h < 16) (hp : p h = true) : zBin 4 (uBits p h : Int) (zBin 6 1 (h : Int)) = (uBits p (h + 1) : Int) := by
  have a := uBits_lt (p := p) (n := h)
  have b : 2 ^ h < 2 ^ 31 := Nat.pow_lt_pow_right (by decide) (by omega)
  rw [zShl (by omega), zOr (by omega) b]
  show _ = ((if p h = true then uBits p h ||| 2 ^ h else uBits p h : Nat) : Int)
  rw [if_pos hp]
theorem uBits_n {p : Nat → Bool} {h : Nat} (hp : ¬ p h = true) : uBits p (h + 1) = uBits p h := if_neg hp
theorem zs_116 {d : Nat} {s : zS} {Q : Option zV → zS → Prop} {g0 g1 : Nat → Int} {N : Nat} (n8 : s.1 8 0 8 = (N : Int)) (N16 : N ≤ 16) (e0 : ∀ h, h < N → uSw (s.1 18 (16 * 0 + h)) 0 96 = g0 h) (e1 : ∀ h, h < N → uSw (s.1 18 (16 * 1 + h)) 0 96 = g1 h) (q : Q (some (.inl (uBits (fun h => decide (g1 h < g0 h)) N : Int))) s) : zM (d + 14) 116 [.inr (.inr (9, 0))] s Q := by
  refine zb_116 ?_
  refine zLoop (P := fun h => zX (d + 14) 116 4 [some (.inr (.inr (9, 0))), some (.inl (uBits (fun h => decide (g1 h < g0 h)) h : Int)), some (.inl (h : Int))] [] s Q) (k := 0) (N := N) (Nat.zero_le _) ?_ (fun h _ hh ih => ?_)
  · have le : s.1 8 0 8 ≤ (N : Int) := Int.le_of_eq n8
    exact zb_116l (fun a => absurd le a) (fun a => absurd le a) (fun _ => q) (fun a => absurd le a) (fun a => absurd le a) (fun a => absurd le a)
  · have nl : ¬ s.1 8 0 8 ≤ (h : Int) := by rw [n8]; omega
    have h16 : h < 16 := Nat.lt_of_lt_of_le hh N16
    have hz : zW ((h : Int) + 1) = ((h + 1 : Nat) : Int) := zWs (by omega)
    have ir : (0 : Int) ≤ (h : Int) ∧ (h : Int) < 16 := by omega
    have x0 := e0 h hh
    have x1 := e1 h hh
    have no : ¬ g1 h < g0 h → zX (d + 14) 116 4 [some (.inr (.inr (9, 0))), some (.inl (uBits (fun h => decide (g1 h < g0 h)) h : Int)), some (.inl (zW ((h : Int) + 1)))] [] s Q := fun p => by
      have p2 : ¬ (fun h : Nat => decide (g1 h < g0 h)) h = true := fun k => p (of_decide_eq_true k)
      rw [hz, ← uBits_n p2]; exact ih
    refine zb_116l (fun _ => ir) (fun _ => by decide) (fun a => absurd a nl) (fun _ a => no ?_) (fun _ a => no ?_) (fun _ a => ?_)
    · have a : uSw (s.1 18 (16 * 0 + h)) 0 96 < uSw (s.1 18 (16 * 1 + h)) 0 96 := a
      rw [x0, x1] at a
      exact Int.not_lt.mpr (Int.le_of_lt a)
    · have a : uSw (s.1 18 (16 * 1 + h)) 0 96 = uSw (s.1 18 (16 * 0 + h)) 0 96 := a
      rw [x0, x1] at a
      rw [a]; exact Int.lt_irrefl _
    · have a : uSw (s.1 18 (16 * 1 + h)) 0 96 < uSw (s.1 18 (16 * 0 + h)) 0 96 := a
      rw [x0, x1] at a
      have p2 : (fun h : Nat => decide (g1 h < g0 h)) h = true := decide_eq_true a
      rw [hz, zBo h16 p2]
      exact ih
/-- a run of long cells set at once -/
def zFL (s : zS) (K n : Nat) (g : Nat → Int) : zS := (s.1, fun a m j => if a = K ∧ m = 0 ∧ j < n then g j else s.2 a m j)
theorem zFL_0 {s : zS} {K : Nat} {g : Nat → Int} : zFL s K 0 g = s := Prod.ext rfl (funext fun a => funext fun m => funext fun j => if_neg (fun q => absurd q.2.2 (Nat.not_lt_zero _)))
theorem zFL_s {s : zS} {K n : Nat} {g : Nat → Int} : zUL (zFL s K n g) K 0 n (g n) = zFL s K (n + 1) g := by
  refine Prod.ext rfl (funext fun a => funext fun m => funext fun j => ?_)
  show (if a = K ∧ j = n ∧ m = 0 then g n else if a = K ∧ m = 0 ∧ j < n then g j else s.2 a m j) = if a = K ∧ m = 0 ∧ j < n + 1 then g j else s.2 a m j
  by_cases p : a = K ∧ j = n ∧ m = 0
  · rw [if_pos p, if_pos ⟨p.1, p.2.2, by omega⟩, p.2.1]
  · rw [if_neg p]
    by_cases r : a = K ∧ m = 0 ∧ j < n
    · rw [if_pos r, if_pos ⟨r.1, r.2.1, by omega⟩]
    · rw [if_neg r, if_neg (fun q => ?_)]
      by_cases e : j = n
      · exact p ⟨q.1, e, q.2.1⟩
      · exact r ⟨q.1, q.2.1, by omega⟩
theorem yr_FL {s : zS} {K n : Nat} {g : Nat → Int} (R : yRel s) : yRel (zFL s K n g) := R
theorem zs_174 {d : Nat} {σ : zS} {Q : Option zV → zS → Prop} (R : yRel σ) (q : ∀ τ, mRun σ τ 96 0 → yRel (yR σ τ) → Q none (zFL (yR σ τ) 101 (uN (mD σ)) (vTot (mD σ)))) : zM (d + 7) 174 [.inr (.inr (10, 0))] σ Q := by
  have N := (yOk R).2.2.2.2.1
  have n4 : σ.1 10 0 4 = (uN (mD σ) : Int) := by
    have n := (yN8 R).2.1
    show mD σ 19 0 = _
    unfold uN
    have : 0 ≤ mD σ 19 0 := n
    omega
  refine zb_174 R (fun τ M R1 => ?_)
  have L := zLoop (P := fun h => zX (d + 7) 174 4 [some (.inr (.inr (10, 0))), some (.inl (h : Int))] [] (zFL (yR σ τ) 101 h (vTot (mD σ))) Q) (k := 0) (N := uN (mD σ)) (Nat.zero_le _) ?_ (fun h _ hh ih => ?_)
  · rw [zFL_0] at L; exact L
  · have le : (zFL (yR σ τ) 101 (uN (mD σ)) (vTot (mD σ))).1 10 0 4 ≤ (uN (mD σ) : Int) := Int.le_of_eq n4
    exact zb_174l (fun a => absurd le a) (fun a => absurd le a) (fun a => absurd le a) (fun _ => q τ M R1) (fun a => absurd le a)
  · have h16 : h < 16 := Nat.lt_of_lt_of_le hh N
    have nl : ¬ (zFL (yR σ τ) 101 h (vTot (mD σ))).1 10 0 4 ≤ (h : Int) := by
      rw [show (zFL (yR σ τ) 101 h (vTot (mD σ))).1 10 0 4 = (uN (mD σ) : Int) from n4]; clear q ih; omega
    have hz : zW ((h : Int) + 1) = ((h + 1 : Nat) : Int) := zWs (by clear q ih; omega)
    have ir : (0 : Int) ≤ (h : Int) ∧ (h : Int) < 17 := by clear q ih; omega
    refine zb_174l (fun _ => ir) (fun _ => by decide) (fun _ => ir) (fun a => absurd a nl) (fun _ => ?_)
    have e : uSw (fun m => (zFL (yR σ τ) 101 h (vTot (mD σ))).1 92 0 (17 * m + (h : Int).toNat)) (0 : Int).toNat ((96 : Int).toNat - (0 : Int).toNat) = vTot (mD σ) h := mr_tot M hh
    rw [e, hz, Int.toNat_natCast, zFL_s]
    exact ih
theorem zs_175 {d : Nat} {s : zS} {Q : Option zV → zS → Prop} {N : Nat} {b : Int} {g0 g1 : Nat → Int} (N16 : N ≤ 16) (e0 : ∀ h, h < N → s.2 101 0 h = g0 h) (e1 : ∀ h, h < N → uSw (fun m => s.1 92 0 (17 * m + h)) 0 96 = g1 h)
    (q : Q (some (.inl (uBits (fun h => decide (¬ (h : Int) = b ∧ g1 h < g0 h)) N : Int))) s) : zM (d + 1) 175 [.inr (.inr (10, 0)), .inl (N : Int), .inl b] s Q := by
  refine zb_175 ?_
  refine zLoop (P := fun h => zX (d + 1) 175 4 [some (.inr (.inr (10, 0))), some (.inl (N : Int)), some (.inl b), some (.inl (uBits (fun h => decide (¬ (h : Int) = b ∧ g1 h < g0 h)) h : Int)), some (.inl (h : Int))] [] s Q) (k := 0) (N := N) (Nat.zero_le _) ?_ (fun h _ hh ih => ?_)
  · exact zb_175l (fun a => absurd (Int.le_refl _) a) (fun a => absurd (Int.le_refl _) a) (fun a => absurd (Int.le_refl _) a) (fun _ => q) (fun a => absurd (Int.le_refl _) a) (fun a => absurd (Int.le_refl _) a) (fun a => absurd (Int.le_refl _) a) (fun a => absurd (Int.le_refl _) a)
  · have h16 : h < 16 := Nat.lt_of_lt_of_le hh N16
    have nl : ¬ (N : Int) ≤ (h : Int) := by clear q ih; omega
    have hz : zW ((h : Int) + 1) = ((h + 1 : Nat) : Int) := zWs (by clear q ih; omega)
    have ir : (0 : Int) ≤ (h : Int) ∧ (h : Int) < 17 := by clear q ih; omega
    have x0 := e0 h hh
    have x1 := e1 h hh
    have no : ¬ (¬ (h : Int) = b ∧ g1 h < g0 h) → zX (d + 1) 175 4 [some (.inr (.inr (10, 0))), some (.inl (N : Int)), some (.inl b), some (.inl (uBits (fun h => decide (¬ (h : Int) = b ∧ g1 h < g0 h)) h : Int)), some (.inl (zW ((h : Int) + 1)))] [] s Q := fun p => by
      have p2 : ¬ (fun h : Nat => decide (¬ (h : Int) = b ∧ g1 h < g0 h)) h = true := fun k => p (of_decide_eq_true k)
      rw [hz, ← uBits_n p2]; exact ih
    refine zb_175l (fun _ _ => ir) (fun _ _ => by decide) (fun _ _ => ir) (fun a => absurd a nl) (fun _ c => no (fun k => k.1 c)) (fun _ _ a => no (fun k => ?_)) (fun _ _ a => no (fun k => ?_)) (fun _ c a => ?_)
    · have a : s.2 101 0 h < uSw (fun m => s.1 92 0 (17 * m + h)) 0 96 := a
      rw [x0, x1] at a
      exact absurd k.2 (Int.not_lt.mpr (Int.le_of_lt a))
    · have a : uSw (fun m => s.1 92 0 (17 * m + h)) 0 96 = s.2 101 0 h := a
      rw [x0, x1] at a
      exact absurd k.2 (by rw [a]; exact Int.lt_irrefl _)
    · have a : uSw (fun m => s.1 92 0 (17 * m + h)) 0 96 < s.2 101 0 h := a
      rw [x0, x1] at a
      have p2 : (fun h : Nat => decide (¬ (h : Int) = b ∧ g1 h < g0 h)) h = true := decide_eq_true ⟨c, a⟩
      rw [hz, zBo h16 p2]
      exact ih
theorem zNxor (a : Nat) : nI a ^^^ Int32.ofInt (-1) = ~~~ nI a := by
  apply Int32.toBitVec_inj.mp
  show BitVec.ofNat 32 a ^^^ (BitVec.ofInt 32 (-1)) = ~~~ BitVec.ofNat 32 a
  have e : BitVec.ofInt 32 (-1) = BitVec.allOnes 32 := by decide
  rw [e]
  exact BitVec.xor_allOnes
theorem zNandn (a b c : Nat) (h : ∀ i, i < 32 → c.testBit i = (a.testBit i && !b.testBit i)) : nI a &&& ~~~ nI b = nI c := by
  apply Int32.toBitVec_inj.mp
  show BitVec.ofNat 32 a &&& ~~~ BitVec.ofNat 32 b = BitVec.ofNat 32 c
  apply BitVec.eq_of_getLsbD_eq
  intro i hi
  rw [BitVec.getLsbD_and, BitVec.getLsbD_not, BitVec.getLsbD_ofNat, BitVec.getLsbD_ofNat, BitVec.getLsbD_ofNat, h i hi]
  simp [hi]
/-- one bit out of a set -/
theorem zBout {p : Nat → Bool} {h N : Nat} (hN : N ≤ 16) (hh : h < 16) : zBin 3 (uBits p N : Int) (zBin 5 (zBin 6 1 (h : Int)) (-1)) = (uBits (fun x => p x && !(x == h)) N : Int) := by
  have e1 : zBin 6 1 (h : Int) = ((2 ^ h : Nat) : Int) := zShl (by omega)
  rw [e1]
  have e2 : zBin 5 ((2 ^ h : Nat) : Int) (-1) = (~~~ nI (2 ^ h)).toInt := by
    show (nI (2 ^ h) ^^^ Int32.ofInt (-1)).toInt = _
    rw [zNxor]
  rw [e2]
  show (nI (uBits p N) &&& Int32.ofInt (~~~ nI (2 ^ h)).toInt).toInt = _
  rw [Int32.ofInt_toInt, zNandn _ _ (uBits (fun x => p x && !(x == h)) N) (fun i hi => ?_)]
  · have a := uBits_lt (p := fun x => p x && !(x == h)) (n := N)
    have b : 2 ^ N ≤ 2 ^ 16 := Nat.pow_le_pow_right (by decide) hN
    exact nI_toInt (by omega)
  · rw [uBits_tb, uBits_tb, Nat.testBit_two_pow]
    by_cases e : h = i
    · subst e; simp
    · have e3 : ¬ i = h := fun k => e k.symm
      have b1 : (i == h) = false := by simp [e3]
      simp [e, b1]
