-- the reference finds the next token (wip/whole/gen/laws80.py)
theorem qIsW_0 {T : Nat → Int} {p n w : Nat} (h : qIsW T p n w = true) (hw : 1 ≤ rvSn.getD w 0) : T p = qBt w 0 := by
  unfold qIsW at h
  by_cases c : rvSn.getD w 0 = n
  · rw [if_pos c] at h
    cases n with
    | zero => omega
    | succ n =>
      unfold qEqW at h
      by_cases e : T (p + 0) = qBt w 0
      · exact e
      · rw [if_neg e] at h; cases h
  · rw [if_neg c] at h; cases h
theorem qWord_r {T : Nat → Int} {p n : Nat} : qWord T p n = if qIsW T p n 0 = true then 0 else if qIsW T p n 1 = true then 1 else if qIsW T p n 2 = true then 2 else if qIsW T p n 3 = true then 3 else if qIsW T p n 4 = true then 4 else if qIsW T p n 5 = true then 5 else if qIsW T p n 8 = true then 10 else if qIsW T p n 9 = true then 11 else if qIsW T p n 10 = true then 12 else if qIsW T p n 6 = true then 22 else if qIsW T p n 7 = true then 23 else 24 := by
  have e6 : qIsW T p n 6 = true → T p = 109 := fun h => (qIsW_0 h (by decide)).trans (by decide)
  have e7 : qIsW T p n 7 = true → T p = 99 := fun h => (qIsW_0 h (by decide)).trans (by decide)
  have e8 : qIsW T p n 8 = true → T p = 111 := fun h => (qIsW_0 h (by decide)).trans (by decide)
  have e9 : qIsW T p n 9 = true → T p = 97 := fun h => (qIsW_0 h (by decide)).trans (by decide)
  have e10 : qIsW T p n 10 = true → T p = 110 := fun h => (qIsW_0 h (by decide)).trans (by decide)
  unfold qWord
  by_cases c8 : qIsW T p n 8 = true
  · have n6 : ¬ qIsW T p n 6 = true := fun h => by have := e6 h; have := e8 c8; omega
    have n7 : ¬ qIsW T p n 7 = true := fun h => by have := e7 h; have := e8 c8; omega
    rw [if_neg n6, if_neg n7, if_pos c8, if_pos c8]
  · by_cases c9 : qIsW T p n 9 = true
    · have n6 : ¬ qIsW T p n 6 = true := fun h => by have := e6 h; have := e9 c9; omega
      have n7 : ¬ qIsW T p n 7 = true := fun h => by have := e7 h; have := e9 c9; omega
      rw [if_neg n6, if_neg n7, if_neg c8, if_pos c9, if_neg c8, if_pos c9]
    · by_cases c10 : qIsW T p n 10 = true
      · have n6 : ¬ qIsW T p n 6 = true := fun h => by have := e6 h; have := e10 c10; omega
        have n7 : ¬ qIsW T p n 7 = true := fun h => by have := e7 h; have := e10 c10; omega
        rw [if_neg n6, if_neg n7, if_neg c8, if_neg c9, if_pos c10, if_neg c8, if_neg c9, if_pos c10]
      · rw [if_neg c8, if_neg c9, if_neg c10, if_neg c8, if_neg c9, if_neg c10]
theorem zl_141 {d : Nat} {σ : zS} {Q : Option zV → zS → Prop} {T : Nat → Int} {N w p n : Nat} (M : mTp σ T N) (hn : rvSn.getD w 0 = n) (hp : p + n ≤ N) : ∀ f i : Nat, i + f = n → Q (some (.inl (if qEqW T w p f i = true then 1 else 0))) σ → zX (d + 10) 141 8 [some (.inr (.inr (10, 0))), some (.inl (p : Int)), some (.inl (n : Int)), some (.inr (.inr (106, w))), some (.inl (i : Int))] [] σ Q := by
  have h160 := M.2.1
  intro f
  induction f with
  | zero =>
    intro i e h
    exact zb_141l (fun a => absurd (by omega) a) (fun a => absurd (by omega) a) (fun _ => h) (fun a _ => absurd (by omega) a) (fun a _ => absurd (by omega) a)
  | succ f ih =>
    intro i e h
    have xi : zW ((p : Int) + (i : Int)) = ((p + i : Nat) : Int) := qWa (by omega)
    have t := M.2.2 (p + i) (by omega)
    refine zb_141l (fun _ => by rw [xi]; omega) (fun _ => by rw [hn]; exact decide_eq_true (by omega)) (fun a => absurd a (by omega)) (fun _ a => ?_) (fun _ a => ?_)
    · rw [qW1 (by omega)]
      refine ih (i + 1) (by omega) ?_
      rw [xi] at a
      have c : T (p + i) = qBt w i := t.1.symm.trans a
      have g : qEqW T w p (f + 1) i = qEqW T w p f (i + 1) := if_pos c
      rw [g] at h; exact h
    · rw [xi] at a
      have c : ¬ T (p + i) = qBt w i := fun x => a (t.1.trans x)
      have g : qEqW T w p (f + 1) i = false := if_neg c
      rw [g] at h; exact h
theorem zs_141 {d : Nat} {σ : zS} {Q : Option zV → zS → Prop} {T : Nat → Int} {N w : Nat} {x y : Int} (M : mTp σ T N) (o : 0 ≤ x ∧ 0 ≤ y ∧ x + y ≤ (N : Int)) (h1 : qIsW T x.toNat y.toNat w = true → Q (some (.inl 1)) σ) (h2 : ¬ qIsW T x.toNat y.toNat w = true → Q (some (.inl 0)) σ) :
    zM (d + 10) 141 [.inr (.inr (10, 0)), .inl x, .inl y, .inr (.inr (106, w))] σ Q := by
  have h160 := M.2.1
  obtain ⟨p, rfl⟩ := Int.eq_ofNat_of_zero_le o.1
  obtain ⟨q, rfl⟩ := Int.eq_ofNat_of_zero_le o.2.1
  have h1 : qIsW T p q w = true → Q (some (.inl 1)) σ := h1
  have h2 : ¬ qIsW T p q w = true → Q (some (.inl 0)) σ := h2
  have n5 := qSn_b w
  have zn : zW (rvSn.getD w 0 : Int) = (rvSn.getD w 0 : Int) := zW_id (by omega)
  refine zb_141 (fun a => ?_) (fun a => ?_)
  · have e : rvSn.getD w 0 = q := by rw [zn] at a; omega
    refine zl_141 (n := q) M e (by omega) q 0 (by omega) ?_
    have u : qIsW T p q w = qEqW T w p q 0 := if_pos e
    rw [← u]
    by_cases c : qIsW T p q w = true
    · rw [if_pos c]; exact h1 c
    · rw [if_neg c]; exact h2 c
  · refine h2 ?_
    have u : qIsW T p q w = false := if_neg (fun e => a (by rw [zn]; omega))
    rw [u]; exact Bool.false_ne_true
theorem zs_145 {d : Nat} {σ : zS} {Q : Option zV → zS → Prop} {x : Int} 
    (h : Q (some (.inl (qSg x))) σ) :
    zM d 145 [.inl x] σ Q := by
  refine zm_145 (fun a0 => ?_) (fun a0 => ?_) (fun a0 => ?_) (fun a0 => ?_) (fun a0 => ?_) (fun a0 => ?_) (fun a0 => ?_) (fun a0 => ?_) (fun a0 => ?_) (fun a0 => ?_)
  all_goals
    refine zQ_i h ?_
    unfold qSg
    repeat' split
    all_goals first | rfl | omega | (exfalso; omega)
theorem zs_143 {d : Nat} {σ : zS} {Q : Option zV → zS → Prop} {x : Int} 
    (h : Q (some (.inl (qSgn x))) σ) :
    zM d 143 [.inl x] σ Q := by
  refine zm_143 (fun a0 => ?_) (fun a0 => ?_) (fun a0 => ?_) (fun a0 => ?_) (fun a0 => ?_) (fun a0 => ?_) (fun a0 => ?_) (fun a0 => ?_) (fun a0 => ?_) (fun a0 => ?_) (fun a0 => ?_) (fun a0 => ?_) (fun a0 => ?_) (fun a0 => ?_) (fun a0 => ?_) (fun a0 => ?_) (fun a0 => ?_) (fun a0 => ?_) (fun a0 => ?_) (fun a0 => ?_) (fun a0 => ?_) (fun a0 => ?_) (fun a0 => ?_)
  all_goals
    refine zQ_i h ?_
    unfold qSgn
    repeat' split
    all_goals first | rfl | omega | (exfalso; omega)
-- X10_wordAt
theorem zb_142 {d : Nat} {σ : zS} {Q : Option zV → zS → Prop} {T : Nat → Int} {N : Nat} {x y : Int}
    (o1 : mTp σ T N)
    (o2 : 0 ≤ x ∧ 0 ≤ y ∧ x + y ≤ (N : Int))
    (h1 : qIsW T x.toNat y.toNat 0 = true → Q (some (.inl 0)) σ)
    (h2 : ¬ qIsW T x.toNat y.toNat 0 = true → qIsW T x.toNat y.toNat 1 = true → Q (some (.inl 1)) σ)
    (h3 : ¬ qIsW T x.toNat y.toNat 0 = true → ¬ qIsW T x.toNat y.toNat 1 = true → qIsW T x.toNat y.toNat 2 = true → Q (some (.inl 2)) σ)
    (h4 : ¬ qIsW T x.toNat y.toNat 0 = true → ¬ qIsW T x.toNat y.toNat 1 = true → ¬ qIsW T x.toNat y.toNat 2 = true → qIsW T x.toNat y.toNat 3 = true → Q (some (.inl 3)) σ)
    (h5 : ¬ qIsW T x.toNat y.toNat 0 = true → ¬ qIsW T x.toNat y.toNat 1 = true → ¬ qIsW T x.toNat y.toNat 2 = true → ¬ qIsW T x.toNat y.toNat 3 = true → qIsW T x.toNat y.toNat 4 = true → Q (some (.inl 4)) σ)
    (h6 : ¬ qIsW T x.toNat y.toNat 0 = true → ¬ qIsW T x.toNat y.toNat 1 = true → ¬ qIsW T x.toNat y.toNat 2 = true → ¬ qIsW T x.toNat y.toNat 3 = true → ¬ qIsW T x.toNat y.toNat 4 = true → qIsW T x.toNat y.toNat 5 = true → Q (some (.inl 5)) σ)
    (h7 : ¬ qIsW T x.toNat y.toNat 0 = true → ¬ qIsW T x.toNat y.toNat 1 = true → ¬ qIsW T x.toNat y.toNat 2 = true → ¬ qIsW T x.toNat y.toNat 3 = true → ¬ qIsW T x.toNat y.toNat 4 = true → ¬ qIsW T x.toNat y.toNat 5 = true → qIsW T x.toNat y.toNat 8 = true → Q (some (.inl 10)) σ)
    (h8 : ¬ qIsW T x.toNat y.toNat 0 = true → ¬ qIsW T x.toNat y.toNat 1 = true → ¬ qIsW T x.toNat y.toNat 2 = true → ¬ qIsW T x.toNat y.toNat 3 = true → ¬ qIsW T x.toNat y.toNat 4 = true → ¬ qIsW T x.toNat y.toNat 5 = true → ¬ qIsW T x.toNat y.toNat 8 = true → qIsW T x.toNat y.toNat 9 = true → Q (some (.inl 11)) σ)
    (h9 : ¬ qIsW T x.toNat y.toNat 0 = true → ¬ qIsW T x.toNat y.toNat 1 = true → ¬ qIsW T x.toNat y.toNat 2 = true → ¬ qIsW T x.toNat y.toNat 3 = true → ¬ qIsW T x.toNat y.toNat 4 = true → ¬ qIsW T x.toNat y.toNat 5 = true → ¬ qIsW T x.toNat y.toNat 8 = true → ¬ qIsW T x.toNat y.toNat 9 = true → qIsW T x.toNat y.toNat 10 = true → Q (some (.inl 12)) σ)
    (h10 : ¬ qIsW T x.toNat y.toNat 0 = true → ¬ qIsW T x.toNat y.toNat 1 = true → ¬ qIsW T x.toNat y.toNat 2 = true → ¬ qIsW T x.toNat y.toNat 3 = true → ¬ qIsW T x.toNat y.toNat 4 = true → ¬ qIsW T x.toNat y.toNat 5 = true → ¬ qIsW T x.toNat y.toNat 8 = true → ¬ qIsW T x.toNat y.toNat 9 = true → ¬ qIsW T x.toNat y.toNat 10 = true → qIsW T x.toNat y.toNat 6 = true → Q (some (.inl 22)) σ)
    (h11 : ¬ qIsW T x.toNat y.toNat 0 = true → ¬ qIsW T x.toNat y.toNat 1 = true → ¬ qIsW T x.toNat y.toNat 2 = true → ¬ qIsW T x.toNat y.toNat 3 = true → ¬ qIsW T x.toNat y.toNat 4 = true → ¬ qIsW T x.toNat y.toNat 5 = true → ¬ qIsW T x.toNat y.toNat 8 = true → ¬ qIsW T x.toNat y.toNat 9 = true → ¬ qIsW T x.toNat y.toNat 10 = true → ¬ qIsW T x.toNat y.toNat 6 = true → qIsW T x.toNat y.toNat 7 = true → Q (some (.inl 23)) σ)
    (h12 : ¬ qIsW T x.toNat y.toNat 0 = true → ¬ qIsW T x.toNat y.toNat 1 = true → ¬ qIsW T x.toNat y.toNat 2 = true → ¬ qIsW T x.toNat y.toNat 3 = true → ¬ qIsW T x.toNat y.toNat 4 = true → ¬ qIsW T x.toNat y.toNat 5 = true → ¬ qIsW T x.toNat y.toNat 8 = true → ¬ qIsW T x.toNat y.toNat 9 = true → ¬ qIsW T x.toNat y.toNat 10 = true → ¬ qIsW T x.toNat y.toNat 6 = true → ¬ qIsW T x.toNat y.toNat 7 = true → Q (some (.inl 24)) σ) :
    zM (d + 11) 142 [.inr (.inr (10, 0)), .inl x, .inl y] σ Q := by
  refine zX_run (n' := 4) (ls' := [some (.inr (.inr (10, 0))), some (.inl x), some (.inl y)]) (st' := [.inr (.inr (106, 0)), .inl y, .inl x, .inr (.inr (10, 0))]) (σ' := σ) 4 rfl ?_
  refine zX_call rfl rfl ?_
  refine zs_141 o1 o2 (fun a1 => ?_) (fun a2 => ?_)
  · skip
    refine zX_run (n' := 7) (ls' := [some (.inr (.inr (10, 0))), some (.inl x), some (.inl y)]) (st' := [.inl 0]) (σ' := σ) 2 rfl ?_
    exact zX_ret rfl rfl (h1 a1)
  · skip
    refine zX_run (n' := 12) (ls' := [some (.inr (.inr (10, 0))), some (.inl x), some (.inl y)]) (st' := [.inr (.inr (106, 1)), .inl y, .inl x, .inr (.inr (10, 0))]) (σ' := σ) 5 rfl ?_
    refine zX_call rfl rfl ?_
    refine zs_141 o1 o2 (fun a3 => ?_) (fun a4 => ?_)
    · skip
      refine zX_run (n' := 15) (ls' := [some (.inr (.inr (10, 0))), some (.inl x), some (.inl y)]) (st' := [.inl 1]) (σ' := σ) 2 rfl ?_
      exact zX_ret rfl rfl (h2 a2 a3)
    · skip
      refine zX_run (n' := 20) (ls' := [some (.inr (.inr (10, 0))), some (.inl x), some (.inl y)]) (st' := [.inr (.inr (106, 2)), .inl y, .inl x, .inr (.inr (10, 0))]) (σ' := σ) 5 rfl ?_
      refine zX_call rfl rfl ?_
      refine zs_141 o1 o2 (fun a5 => ?_) (fun a6 => ?_)
      · skip
        refine zX_run (n' := 23) (ls' := [some (.inr (.inr (10, 0))), some (.inl x), some (.inl y)]) (st' := [.inl 2]) (σ' := σ) 2 rfl ?_
        exact zX_ret rfl rfl (h3 a2 a4 a5)
      · skip
        refine zX_run (n' := 28) (ls' := [some (.inr (.inr (10, 0))), some (.inl x), some (.inl y)]) (st' := [.inr (.inr (106, 3)), .inl y, .inl x, .inr (.inr (10, 0))]) (σ' := σ) 5 rfl ?_
        refine zX_call rfl rfl ?_
        refine zs_141 o1 o2 (fun a7 => ?_) (fun a8 => ?_)
        · skip
          refine zX_run (n' := 31) (ls' := [some (.inr (.inr (10, 0))), some (.inl x), some (.inl y)]) (st' := [.inl 3]) (σ' := σ) 2 rfl ?_
          exact zX_ret rfl rfl (h4 a2 a4 a6 a7)
        · skip
          refine zX_run (n' := 36) (ls' := [some (.inr (.inr (10, 0))), some (.inl x), some (.inl y)]) (st' := [.inr (.inr (106, 4)), .inl y, .inl x, .inr (.inr (10, 0))]) (σ' := σ) 5 rfl ?_
          refine zX_call rfl rfl ?_
          refine zs_141 o1 o2 (fun a9 => ?_) (fun a10 => ?_)
          · skip
            refine zX_run (n' := 39) (ls' := [some (.inr (.inr (10, 0))), some (.inl x), some (.inl y)]) (st' := [.inl 4]) (σ' := σ) 2 rfl ?_
            exact zX_ret rfl rfl (h5 a2 a4 a6 a8 a9)
          · skip
            refine zX_run (n' := 44) (ls' := [some (.inr (.inr (10, 0))), some (.inl x), some (.inl y)]) (st' := [.inr (.inr (106, 5)), .inl y, .inl x, .inr (.inr (10, 0))]) (σ' := σ) 5 rfl ?_
            refine zX_call rfl rfl ?_
            refine zs_141 o1 o2 (fun a11 => ?_) (fun a12 => ?_)
            · skip
              refine zX_run (n' := 47) (ls' := [some (.inr (.inr (10, 0))), some (.inl x), some (.inl y)]) (st' := [.inl 5]) (σ' := σ) 2 rfl ?_
              exact zX_ret rfl rfl (h6 a2 a4 a6 a8 a10 a11)
            · skip
              refine zX_run (n' := 52) (ls' := [some (.inr (.inr (10, 0))), some (.inl x), some (.inl y)]) (st' := [.inr (.inr (106, 8)), .inl y, .inl x, .inr (.inr (10, 0))]) (σ' := σ) 5 rfl ?_
              refine zX_call rfl rfl ?_
              refine zs_141 o1 o2 (fun a13 => ?_) (fun a14 => ?_)
              · skip
                refine zX_run (n' := 55) (ls' := [some (.inr (.inr (10, 0))), some (.inl x), some (.inl y)]) (st' := [.inl 10]) (σ' := σ) 2 rfl ?_
                exact zX_ret rfl rfl (h7 a2 a4 a6 a8 a10 a12 a13)
              · skip
                refine zX_run (n' := 60) (ls' := [some (.inr (.inr (10, 0))), some (.inl x), some (.inl y)]) (st' := [.inr (.inr (106, 9)), .inl y, .inl x, .inr (.inr (10, 0))]) (σ' := σ) 5 rfl ?_
                refine zX_call rfl rfl ?_
                refine zs_141 o1 o2 (fun a15 => ?_) (fun a16 => ?_)
                · skip
                  refine zX_run (n' := 63) (ls' := [some (.inr (.inr (10, 0))), some (.inl x), some (.inl y)]) (st' := [.inl 11]) (σ' := σ) 2 rfl ?_
                  exact zX_ret rfl rfl (h8 a2 a4 a6 a8 a10 a12 a14 a15)
                · skip
                  refine zX_run (n' := 68) (ls' := [some (.inr (.inr (10, 0))), some (.inl x), some (.inl y)]) (st' := [.inr (.inr (106, 10)), .inl y, .inl x, .inr (.inr (10, 0))]) (σ' := σ) 5 rfl ?_
                  refine zX_call rfl rfl ?_
                  refine zs_141 o1 o2 (fun a17 => ?_) (fun a18 => ?_)
                  · skip
                    refine zX_run (n' := 71) (ls' := [some (.inr (.inr (10, 0))), some (.inl x), some (.inl y)]) (st' := [.inl 12]) (σ' := σ) 2 rfl ?_
                    exact zX_ret rfl rfl (h9 a2 a4 a6 a8 a10 a12 a14 a16 a17)
                  · skip
                    refine zX_run (n' := 76) (ls' := [some (.inr (.inr (10, 0))), some (.inl x), some (.inl y)]) (st' := [.inr (.inr (106, 6)), .inl y, .inl x, .inr (.inr (10, 0))]) (σ' := σ) 5 rfl ?_
                    refine zX_call rfl rfl ?_
                    refine zs_141 o1 o2 (fun a19 => ?_) (fun a20 => ?_)
                    · skip
                      refine zX_run (n' := 79) (ls' := [some (.inr (.inr (10, 0))), some (.inl x), some (.inl y)]) (st' := [.inl 22]) (σ' := σ) 2 rfl ?_
                      exact zX_ret rfl rfl (h10 a2 a4 a6 a8 a10 a12 a14 a16 a18 a19)
                    · skip
                      refine zX_run (n' := 84) (ls' := [some (.inr (.inr (10, 0))), some (.inl x), some (.inl y)]) (st' := [.inr (.inr (106, 7)), .inl y, .inl x, .inr (.inr (10, 0))]) (σ' := σ) 5 rfl ?_
                      refine zX_call rfl rfl ?_
                      refine zs_141 o1 o2 (fun a21 => ?_) (fun a22 => ?_)
                      · skip
                        refine zX_run (n' := 89) (ls' := [some (.inr (.inr (10, 0))), some (.inl x), some (.inl y)]) (st' := [.inl 23]) (σ' := σ) 3 rfl ?_
                        exact zX_ret rfl rfl (h11 a2 a4 a6 a8 a10 a12 a14 a16 a18 a20 a21)
                      · skip
                        refine zX_run (n' := 89) (ls' := [some (.inr (.inr (10, 0))), some (.inl x), some (.inl y)]) (st' := [.inl 24]) (σ' := σ) 2 rfl ?_
                        exact zX_ret rfl rfl (h12 a2 a4 a6 a8 a10 a12 a14 a16 a18 a20 a22)
theorem zs_142 {d : Nat} {σ : zS} {Q : Option zV → zS → Prop} {T : Nat → Int} {N : Nat} {x y : Int} (M : mTp σ T N) (o : 0 ≤ x ∧ 0 ≤ y ∧ x + y ≤ (N : Int)) (h : Q (some (.inl (qWord T x.toNat y.toNat))) σ) :
    zM (d + 11) 142 [.inr (.inr (10, 0)), .inl x, .inl y] σ Q :=
  zb_142 M
    o
    (fun a0 => zQ_i h (by rw [qWord_r, if_pos a0]))
    (fun a0 a1 => zQ_i h (by rw [qWord_r, if_neg a0, if_pos a1]))
    (fun a0 a1 a2 => zQ_i h (by rw [qWord_r, if_neg a0, if_neg a1, if_pos a2]))
    (fun a0 a1 a2 a3 => zQ_i h (by rw [qWord_r, if_neg a0, if_neg a1, if_neg a2, if_pos a3]))
    (fun a0 a1 a2 a3 a4 => zQ_i h (by rw [qWord_r, if_neg a0, if_neg a1, if_neg a2, if_neg a3, if_pos a4]))
    (fun a0 a1 a2 a3 a4 a5 => zQ_i h (by rw [qWord_r, if_neg a0, if_neg a1, if_neg a2, if_neg a3, if_neg a4, if_pos a5]))
    (fun a0 a1 a2 a3 a4 a5 a6 => zQ_i h (by rw [qWord_r, if_neg a0, if_neg a1, if_neg a2, if_neg a3, if_neg a4, if_neg a5, if_pos a6]))
    (fun a0 a1 a2 a3 a4 a5 a6 a7 => zQ_i h (by rw [qWord_r, if_neg a0, if_neg a1, if_neg a2, if_neg a3, if_neg a4, if_neg a5, if_neg a6, if_pos a7]))
    (fun a0 a1 a2 a3 a4 a5 a6 a7 a8 => zQ_i h (by rw [qWord_r, if_neg a0, if_neg a1, if_neg a2, if_neg a3, if_neg a4, if_neg a5, if_neg a6, if_neg a7, if_pos a8]))
    (fun a0 a1 a2 a3 a4 a5 a6 a7 a8 a9 => zQ_i h (by rw [qWord_r, if_neg a0, if_neg a1, if_neg a2, if_neg a3, if_neg a4, if_neg a5, if_neg a6, if_neg a7, if_neg a8, if_pos a9]))
    (fun a0 a1 a2 a3 a4 a5 a6 a7 a8 a9 a10 => zQ_i h (by rw [qWord_r, if_neg a0, if_neg a1, if_neg a2, if_neg a3, if_neg a4, if_neg a5, if_neg a6, if_neg a7, if_neg a8, if_neg a9, if_pos a10]))
    (fun a0 a1 a2 a3 a4 a5 a6 a7 a8 a9 a10 => zQ_i h (by rw [qWord_r, if_neg a0, if_neg a1, if_neg a2, if_neg a3, if_neg a4, if_neg a5, if_neg a6, if_neg a7, if_neg a8, if_neg a9, if_neg a10]))
-- X10_next
theorem zb_144 {d : Nat} {σ : zS} {Q : Option zV → zS → Prop} {x1 x2 : Option zV}
    (o1 : ¬ σ.1 10 0 7 ≤ σ.1 10 0 55 → (0 : Int) ≤ σ.1 10 0 55 ∧ σ.1 10 0 55 < (160 : Int))
    (h1 : σ.1 10 0 7 ≤ σ.1 10 0 55 → zX (d + 12) 144 26 [some (.inr (.inr (10, 0))), x1, x2] [] σ Q)
    (h2 : ¬ σ.1 10 0 7 ≤ σ.1 10 0 55 → σ.1 69 0 ((σ.1 10 0 55).toNat) = 32 → zX (d + 12) 144 0 [some (.inr (.inr (10, 0))), x1, x2] [] (zU σ 10 0 55 (zW ((σ.1 10 0 55) + 1))) Q)
    (h3 : ¬ σ.1 10 0 7 ≤ σ.1 10 0 55 → ¬ σ.1 69 0 ((σ.1 10 0 55).toNat) = 32 → ¬ σ.1 69 0 ((σ.1 10 0 55).toNat) = 10 → zX (d + 12) 144 26 [some (.inr (.inr (10, 0))), x1, x2] [] σ Q)
    (h4 : ¬ σ.1 10 0 7 ≤ σ.1 10 0 55 → ¬ σ.1 69 0 ((σ.1 10 0 55).toNat) = 32 → σ.1 69 0 ((σ.1 10 0 55).toNat) = 10 → zX (d + 12) 144 0 [some (.inr (.inr (10, 0))), x1, x2] [] (zU σ 10 0 55 (zW ((σ.1 10 0 55) + 1))) Q) :
    zX (d + 12) 144 0 [some (.inr (.inr (10, 0))), x1, x2] [] σ Q := by
  refine zX_run (n' := 4) (ls' := [some (.inr (.inr (10, 0))), x1, x2]) (st' := [.inl (σ.1 10 0 7), .inl (σ.1 10 0 55)]) (σ' := σ) 4 rfl ?_
  refine zX_c3 rfl (fun a1 => ?_) (fun a1 => ?_)
  · skip
    exact h1 a1
  · skip
    refine zX_run (n' := 9) (ls' := [some (.inr (.inr (10, 0))), x1, x2]) (st' := [.inl (σ.1 10 0 55), .inr (.inr (69, 0))]) (σ' := σ) 4 rfl ?_
    refine zX_ald1 (L := 160) rfl (by decide) rfl (o1 a1) ?_
    refine zX_run (n' := 11) (ls' := [some (.inr (.inr (10, 0))), x1, x2]) (st' := [.inl 32, .inl (σ.1 69 0 ((σ.1 10 0 55).toNat))]) (σ' := σ) 1 rfl ?_
    refine zX_c0 rfl (fun a2 => ?_) (fun a2 => ?_)
    · skip
      refine zX_run (n' := 0) (ls' := [some (.inr (.inr (10, 0))), x1, x2]) (st' := []) (σ' := (zU σ 10 0 55 (zW ((σ.1 10 0 55) + 1)))) 7 rfl ?_
      exact h2 a1 a2
    · skip
      refine zX_run (n' := 16) (ls' := [some (.inr (.inr (10, 0))), x1, x2]) (st' := [.inl (σ.1 10 0 55), .inr (.inr (69, 0))]) (σ' := σ) 4 rfl ?_
      refine zX_ald1 (L := 160) rfl (by decide) rfl (o1 a1) ?_
      refine zX_run (n' := 18) (ls' := [some (.inr (.inr (10, 0))), x1, x2]) (st' := [.inl 10, .inl (σ.1 69 0 ((σ.1 10 0 55).toNat))]) (σ' := σ) 1 rfl ?_
      refine zX_c1 rfl (fun a3 => ?_) (fun a3 => ?_)
      · skip
        exact h3 a1 a2 a3
      · skip
        refine zX_run (n' := 0) (ls' := [some (.inr (.inr (10, 0))), x1, x2]) (st' := []) (σ' := (zU σ 10 0 55 (zW ((σ.1 10 0 55) + 1)))) 7 rfl ?_
        exact h4 a1 a2 a3
-- X10_next
theorem zb_144b {d : Nat} {σ : zS} {Q : Option zV → zS → Prop} {x1 x2 : Option zV}
    (o1 : ¬ σ.1 10 0 55 = σ.1 10 0 7 → (0 : Int) ≤ σ.1 10 0 55 ∧ σ.1 10 0 55 < (160 : Int))
    (h1 : ¬ σ.1 10 0 55 = σ.1 10 0 7 → σ.1 69 0 ((σ.1 10 0 55).toNat) < 97 → σ.1 69 0 ((σ.1 10 0 55).toNat) < 48 → Q (none) (zU (zU (zU σ 10 0 57 (σ.1 10 0 55)) 10 0 56 (qSgn (σ.1 69 0 ((σ.1 10 0 55).toNat)))) 10 0 55 (zW ((σ.1 10 0 55) + 1))))
    (h2 : ¬ σ.1 10 0 55 = σ.1 10 0 7 → σ.1 69 0 ((σ.1 10 0 55).toNat) < 97 → ¬ σ.1 69 0 ((σ.1 10 0 55).toNat) < 48 → 57 < σ.1 69 0 ((σ.1 10 0 55).toNat) → Q (none) (zU (zU (zU σ 10 0 57 (σ.1 10 0 55)) 10 0 56 (qSgn (σ.1 69 0 ((σ.1 10 0 55).toNat)))) 10 0 55 (zW ((σ.1 10 0 55) + 1))))
    (h3 : ¬ σ.1 10 0 55 = σ.1 10 0 7 → σ.1 69 0 ((σ.1 10 0 55).toNat) < 97 → ¬ σ.1 69 0 ((σ.1 10 0 55).toNat) < 48 → ¬ 57 < σ.1 69 0 ((σ.1 10 0 55).toNat) → zX (d + 12) 144 97 [some (.inr (.inr (10, 0))), some (.inl (σ.1 69 0 ((σ.1 10 0 55).toNat))), some (.inl 0)] [] (zU σ 10 0 57 (σ.1 10 0 55)) Q)
    (h4 : ¬ σ.1 10 0 55 = σ.1 10 0 7 → ¬ σ.1 69 0 ((σ.1 10 0 55).toNat) < 97 → 122 < σ.1 69 0 ((σ.1 10 0 55).toNat) → σ.1 69 0 ((σ.1 10 0 55).toNat) < 48 → Q (none) (zU (zU (zU σ 10 0 57 (σ.1 10 0 55)) 10 0 56 (qSgn (σ.1 69 0 ((σ.1 10 0 55).toNat)))) 10 0 55 (zW ((σ.1 10 0 55) + 1))))
    (h5 : ¬ σ.1 10 0 55 = σ.1 10 0 7 → ¬ σ.1 69 0 ((σ.1 10 0 55).toNat) < 97 → 122 < σ.1 69 0 ((σ.1 10 0 55).toNat) → ¬ σ.1 69 0 ((σ.1 10 0 55).toNat) < 48 → 57 < σ.1 69 0 ((σ.1 10 0 55).toNat) → Q (none) (zU (zU (zU σ 10 0 57 (σ.1 10 0 55)) 10 0 56 (qSgn (σ.1 69 0 ((σ.1 10 0 55).toNat)))) 10 0 55 (zW ((σ.1 10 0 55) + 1))))
    (h6 : ¬ σ.1 10 0 55 = σ.1 10 0 7 → ¬ σ.1 69 0 ((σ.1 10 0 55).toNat) < 97 → 122 < σ.1 69 0 ((σ.1 10 0 55).toNat) → ¬ σ.1 69 0 ((σ.1 10 0 55).toNat) < 48 → ¬ 57 < σ.1 69 0 ((σ.1 10 0 55).toNat) → zX (d + 12) 144 97 [some (.inr (.inr (10, 0))), some (.inl (σ.1 69 0 ((σ.1 10 0 55).toNat))), some (.inl 0)] [] (zU σ 10 0 57 (σ.1 10 0 55)) Q)
    (h7 : ¬ σ.1 10 0 55 = σ.1 10 0 7 → ¬ σ.1 69 0 ((σ.1 10 0 55).toNat) < 97 → ¬ 122 < σ.1 69 0 ((σ.1 10 0 55).toNat) → zX (d + 12) 144 51 [some (.inr (.inr (10, 0))), some (.inl (σ.1 69 0 ((σ.1 10 0 55).toNat))), x2] [] (zU σ 10 0 57 (σ.1 10 0 55)) Q)
    (h8 : σ.1 10 0 55 = σ.1 10 0 7 → Q (none) (zU (zU σ 10 0 57 (σ.1 10 0 55)) 10 0 56 25)) :
    zX (d + 12) 144 26 [some (.inr (.inr (10, 0))), x1, x2] [] σ Q := by
  refine zX_run (n' := 34) (ls' := [some (.inr (.inr (10, 0))), x1, x2]) (st' := [.inl (σ.1 10 0 7), .inl (σ.1 10 0 55)]) (σ' := (zU σ 10 0 57 (σ.1 10 0 55))) 8 rfl ?_
  refine zX_c1 rfl (fun a1 => ?_) (fun a1 => ?_)
  · skip
    refine zX_run (n' := 43) (ls' := [some (.inr (.inr (10, 0))), x1, x2]) (st' := [.inl (σ.1 10 0 55), .inr (.inr (69, 0))]) (σ' := (zU σ 10 0 57 (σ.1 10 0 55))) 4 rfl ?_
    refine zX_ald1 (L := 160) rfl (by decide) rfl (o1 a1) ?_
    refine zX_run (n' := 47) (ls' := [some (.inr (.inr (10, 0))), some (.inl (σ.1 69 0 ((σ.1 10 0 55).toNat))), x2]) (st' := [.inl 97, .inl (σ.1 69 0 ((σ.1 10 0 55).toNat))]) (σ' := (zU σ 10 0 57 (σ.1 10 0 55))) 3 rfl ?_
    refine zX_c2 rfl (fun a2 => ?_) (fun a2 => ?_)
    · skip
      refine zX_run (n' := 91) (ls' := [some (.inr (.inr (10, 0))), some (.inl (σ.1 69 0 ((σ.1 10 0 55).toNat))), x2]) (st' := [.inl 48, .inl (σ.1 69 0 ((σ.1 10 0 55).toNat))]) (σ' := (zU σ 10 0 57 (σ.1 10 0 55))) 2 rfl ?_
      refine zX_c2 rfl (fun a3 => ?_) (fun a3 => ?_)
      · skip
        refine zX_run (n' := 159) (ls' := [some (.inr (.inr (10, 0))), some (.inl (σ.1 69 0 ((σ.1 10 0 55).toNat))), x2]) (st' := [.inl (σ.1 69 0 ((σ.1 10 0 55).toNat)), .inr (.inr (10, 0))]) (σ' := (zU σ 10 0 57 (σ.1 10 0 55))) 2 rfl ?_
        refine zX_call rfl rfl ?_
        refine zs_143 ?_
        · skip
          refine zX_run (n' := 167) (ls' := [some (.inr (.inr (10, 0))), some (.inl (σ.1 69 0 ((σ.1 10 0 55).toNat))), x2]) (st' := []) (σ' := (zU (zU (zU σ 10 0 57 (σ.1 10 0 55)) 10 0 56 (qSgn (σ.1 69 0 ((σ.1 10 0 55).toNat)))) 10 0 55 (zW ((σ.1 10 0 55) + 1)))) 7 rfl ?_
          exact zX_ret0 rfl rfl (h1 a1 a2 a3)
      · skip
        refine zX_run (n' := 94) (ls' := [some (.inr (.inr (10, 0))), some (.inl (σ.1 69 0 ((σ.1 10 0 55).toNat))), x2]) (st' := [.inl 57, .inl (σ.1 69 0 ((σ.1 10 0 55).toNat))]) (σ' := (zU σ 10 0 57 (σ.1 10 0 55))) 2 rfl ?_
        refine zX_c4 rfl (fun a4 => ?_) (fun a4 => ?_)
        · skip
          refine zX_run (n' := 159) (ls' := [some (.inr (.inr (10, 0))), some (.inl (σ.1 69 0 ((σ.1 10 0 55).toNat))), x2]) (st' := [.inl (σ.1 69 0 ((σ.1 10 0 55).toNat)), .inr (.inr (10, 0))]) (σ' := (zU σ 10 0 57 (σ.1 10 0 55))) 2 rfl ?_
          refine zX_call rfl rfl ?_
          refine zs_143 ?_
          · skip
            refine zX_run (n' := 167) (ls' := [some (.inr (.inr (10, 0))), some (.inl (σ.1 69 0 ((σ.1 10 0 55).toNat))), x2]) (st' := []) (σ' := (zU (zU (zU σ 10 0 57 (σ.1 10 0 55)) 10 0 56 (qSgn (σ.1 69 0 ((σ.1 10 0 55).toNat)))) 10 0 55 (zW ((σ.1 10 0 55) + 1)))) 7 rfl ?_
            exact zX_ret0 rfl rfl (h2 a1 a2 a3 a4)
        · skip
          refine zX_run (n' := 97) (ls' := [some (.inr (.inr (10, 0))), some (.inl (σ.1 69 0 ((σ.1 10 0 55).toNat))), some (.inl 0)]) (st' := []) (σ' := (zU σ 10 0 57 (σ.1 10 0 55))) 2 rfl ?_
          exact h3 a1 a2 a3 a4
    · skip
      refine zX_run (n' := 50) (ls' := [some (.inr (.inr (10, 0))), some (.inl (σ.1 69 0 ((σ.1 10 0 55).toNat))), x2]) (st' := [.inl 122, .inl (σ.1 69 0 ((σ.1 10 0 55).toNat))]) (σ' := (zU σ 10 0 57 (σ.1 10 0 55))) 2 rfl ?_
      refine zX_c4 rfl (fun a5 => ?_) (fun a5 => ?_)
      · skip
        refine zX_run (n' := 91) (ls' := [some (.inr (.inr (10, 0))), some (.inl (σ.1 69 0 ((σ.1 10 0 55).toNat))), x2]) (st' := [.inl 48, .inl (σ.1 69 0 ((σ.1 10 0 55).toNat))]) (σ' := (zU σ 10 0 57 (σ.1 10 0 55))) 2 rfl ?_
        refine zX_c2 rfl (fun a6 => ?_) (fun a6 => ?_)
        · skip
          refine zX_run (n' := 159) (ls' := [some (.inr (.inr (10, 0))), some (.inl (σ.1 69 0 ((σ.1 10 0 55).toNat))), x2]) (st' := [.inl (σ.1 69 0 ((σ.1 10 0 55).toNat)), .inr (.inr (10, 0))]) (σ' := (zU σ 10 0 57 (σ.1 10 0 55))) 2 rfl ?_
          refine zX_call rfl rfl ?_
          refine zs_143 ?_
          · skip
            refine zX_run (n' := 167) (ls' := [some (.inr (.inr (10, 0))), some (.inl (σ.1 69 0 ((σ.1 10 0 55).toNat))), x2]) (st' := []) (σ' := (zU (zU (zU σ 10 0 57 (σ.1 10 0 55)) 10 0 56 (qSgn (σ.1 69 0 ((σ.1 10 0 55).toNat)))) 10 0 55 (zW ((σ.1 10 0 55) + 1)))) 7 rfl ?_
            exact zX_ret0 rfl rfl (h4 a1 a2 a5 a6)
        · skip
          refine zX_run (n' := 94) (ls' := [some (.inr (.inr (10, 0))), some (.inl (σ.1 69 0 ((σ.1 10 0 55).toNat))), x2]) (st' := [.inl 57, .inl (σ.1 69 0 ((σ.1 10 0 55).toNat))]) (σ' := (zU σ 10 0 57 (σ.1 10 0 55))) 2 rfl ?_
          refine zX_c4 rfl (fun a7 => ?_) (fun a7 => ?_)
          · skip
            refine zX_run (n' := 159) (ls' := [some (.inr (.inr (10, 0))), some (.inl (σ.1 69 0 ((σ.1 10 0 55).toNat))), x2]) (st' := [.inl (σ.1 69 0 ((σ.1 10 0 55).toNat)), .inr (.inr (10, 0))]) (σ' := (zU σ 10 0 57 (σ.1 10 0 55))) 2 rfl ?_
            refine zX_call rfl rfl ?_
            refine zs_143 ?_
            · skip
              refine zX_run (n' := 167) (ls' := [some (.inr (.inr (10, 0))), some (.inl (σ.1 69 0 ((σ.1 10 0 55).toNat))), x2]) (st' := []) (σ' := (zU (zU (zU σ 10 0 57 (σ.1 10 0 55)) 10 0 56 (qSgn (σ.1 69 0 ((σ.1 10 0 55).toNat)))) 10 0 55 (zW ((σ.1 10 0 55) + 1)))) 7 rfl ?_
              exact zX_ret0 rfl rfl (h5 a1 a2 a5 a6 a7)
          · skip
            refine zX_run (n' := 97) (ls' := [some (.inr (.inr (10, 0))), some (.inl (σ.1 69 0 ((σ.1 10 0 55).toNat))), some (.inl 0)]) (st' := []) (σ' := (zU σ 10 0 57 (σ.1 10 0 55))) 2 rfl ?_
            exact h6 a1 a2 a5 a6 a7
      · skip
        exact h7 a1 a2 a5
  · skip
    refine zX_run (n' := 38) (ls' := [some (.inr (.inr (10, 0))), x1, x2]) (st' := []) (σ' := (zU (zU σ 10 0 57 (σ.1 10 0 55)) 10 0 56 25)) 3 rfl ?_
    exact zX_ret0 rfl rfl (h8 a1)
-- X10_next
theorem zb_144c {d : Nat} {σ : zS} {Q : Option zV → zS → Prop} {T : Nat → Int} {N : Nat} {c : Int} {x2 : Option zV}
    (o1 : σ.1 10 0 7 ≤ σ.1 10 0 55 → mTp σ T N)
    (o2 : σ.1 10 0 7 ≤ σ.1 10 0 55 → 0 ≤ (σ.1 10 0 57) ∧ 0 ≤ (zW ((σ.1 10 0 55) - (σ.1 10 0 57))) ∧ (σ.1 10 0 57) + (zW ((σ.1 10 0 55) - (σ.1 10 0 57))) ≤ (N : Int))
    (o3 : ¬ σ.1 10 0 7 ≤ σ.1 10 0 55 → (0 : Int) ≤ σ.1 10 0 55 ∧ σ.1 10 0 55 < (160 : Int))
    (o4 : ¬ σ.1 10 0 7 ≤ σ.1 10 0 55 → σ.1 69 0 ((σ.1 10 0 55).toNat) < 97 → mTp σ T N)
    (o5 : ¬ σ.1 10 0 7 ≤ σ.1 10 0 55 → σ.1 69 0 ((σ.1 10 0 55).toNat) < 97 → 0 ≤ (σ.1 10 0 57) ∧ 0 ≤ (zW ((σ.1 10 0 55) - (σ.1 10 0 57))) ∧ (σ.1 10 0 57) + (zW ((σ.1 10 0 55) - (σ.1 10 0 57))) ≤ (N : Int))
    (o6 : ¬ σ.1 10 0 7 ≤ σ.1 10 0 55 → ¬ σ.1 69 0 ((σ.1 10 0 55).toNat) < 97 → 122 < σ.1 69 0 ((σ.1 10 0 55).toNat) → mTp σ T N)
    (o7 : ¬ σ.1 10 0 7 ≤ σ.1 10 0 55 → ¬ σ.1 69 0 ((σ.1 10 0 55).toNat) < 97 → 122 < σ.1 69 0 ((σ.1 10 0 55).toNat) → 0 ≤ (σ.1 10 0 57) ∧ 0 ≤ (zW ((σ.1 10 0 55) - (σ.1 10 0 57))) ∧ (σ.1 10 0 57) + (zW ((σ.1 10 0 55) - (σ.1 10 0 57))) ≤ (N : Int))
    (h1 : σ.1 10 0 7 ≤ σ.1 10 0 55 → Q (none) (zU σ 10 0 56 (qWord T (σ.1 10 0 57).toNat (zW ((σ.1 10 0 55) - (σ.1 10 0 57))).toNat)))
    (h2 : ¬ σ.1 10 0 7 ≤ σ.1 10 0 55 → σ.1 69 0 ((σ.1 10 0 55).toNat) < 97 → Q (none) (zU σ 10 0 56 (qWord T (σ.1 10 0 57).toNat (zW ((σ.1 10 0 55) - (σ.1 10 0 57))).toNat)))
    (h3 : ¬ σ.1 10 0 7 ≤ σ.1 10 0 55 → ¬ σ.1 69 0 ((σ.1 10 0 55).toNat) < 97 → 122 < σ.1 69 0 ((σ.1 10 0 55).toNat) → Q (none) (zU σ 10 0 56 (qWord T (σ.1 10 0 57).toNat (zW ((σ.1 10 0 55) - (σ.1 10 0 57))).toNat)))
    (h4 : ¬ σ.1 10 0 7 ≤ σ.1 10 0 55 → ¬ σ.1 69 0 ((σ.1 10 0 55).toNat) < 97 → ¬ 122 < σ.1 69 0 ((σ.1 10 0 55).toNat) → zX (d + 12) 144 51 [some (.inr (.inr (10, 0))), some (.inl c), x2] [] (zU σ 10 0 55 (zW ((σ.1 10 0 55) + 1))) Q) :
    zX (d + 12) 144 51 [some (.inr (.inr (10, 0))), some (.inl c), x2] [] σ Q := by
  refine zX_run (n' := 55) (ls' := [some (.inr (.inr (10, 0))), some (.inl c), x2]) (st' := [.inl (σ.1 10 0 7), .inl (σ.1 10 0 55)]) (σ' := σ) 4 rfl ?_
  refine zX_c3 rfl (fun a1 => ?_) (fun a1 => ?_)
  · skip
    refine zX_run (n' := 86) (ls' := [some (.inr (.inr (10, 0))), some (.inl c), x2]) (st' := [.inl (zW ((σ.1 10 0 55) - (σ.1 10 0 57))), .inl (σ.1 10 0 57), .inr (.inr (10, 0)), .inr (.inr (10, 0))]) (σ' := σ) 9 rfl ?_
    refine zX_call rfl rfl ?_
    refine zs_142 (o1 a1) (o2 a1) ?_
    · skip
      refine zX_run (n' := 167) (ls' := [some (.inr (.inr (10, 0))), some (.inl c), x2]) (st' := []) (σ' := (zU σ 10 0 56 (qWord T (σ.1 10 0 57).toNat (zW ((σ.1 10 0 55) - (σ.1 10 0 57))).toNat))) 2 rfl ?_
      exact zX_ret0 rfl rfl (h1 a1)
  · skip
    refine zX_run (n' := 60) (ls' := [some (.inr (.inr (10, 0))), some (.inl c), x2]) (st' := [.inl (σ.1 10 0 55), .inr (.inr (69, 0))]) (σ' := σ) 4 rfl ?_
    refine zX_ald1 (L := 160) rfl (by decide) rfl (o3 a1) ?_
    refine zX_run (n' := 62) (ls' := [some (.inr (.inr (10, 0))), some (.inl c), x2]) (st' := [.inl 97, .inl (σ.1 69 0 ((σ.1 10 0 55).toNat))]) (σ' := σ) 1 rfl ?_
    refine zX_c2 rfl (fun a2 => ?_) (fun a2 => ?_)
    · skip
      refine zX_run (n' := 86) (ls' := [some (.inr (.inr (10, 0))), some (.inl c), x2]) (st' := [.inl (zW ((σ.1 10 0 55) - (σ.1 10 0 57))), .inl (σ.1 10 0 57), .inr (.inr (10, 0)), .inr (.inr (10, 0))]) (σ' := σ) 9 rfl ?_
      refine zX_call rfl rfl ?_
      refine zs_142 (o4 a1 a2) (o5 a1 a2) ?_
      · skip
        refine zX_run (n' := 167) (ls' := [some (.inr (.inr (10, 0))), some (.inl c), x2]) (st' := []) (σ' := (zU σ 10 0 56 (qWord T (σ.1 10 0 57).toNat (zW ((σ.1 10 0 55) - (σ.1 10 0 57))).toNat))) 2 rfl ?_
        exact zX_ret0 rfl rfl (h2 a1 a2)
    · skip
      refine zX_run (n' := 67) (ls' := [some (.inr (.inr (10, 0))), some (.inl c), x2]) (st' := [.inl (σ.1 10 0 55), .inr (.inr (69, 0))]) (σ' := σ) 4 rfl ?_
      refine zX_ald1 (L := 160) rfl (by decide) rfl (o3 a1) ?_
      refine zX_run (n' := 69) (ls' := [some (.inr (.inr (10, 0))), some (.inl c), x2]) (st' := [.inl 122, .inl (σ.1 69 0 ((σ.1 10 0 55).toNat))]) (σ' := σ) 1 rfl ?_
      refine zX_c4 rfl (fun a3 => ?_) (fun a3 => ?_)
      · skip
        refine zX_run (n' := 86) (ls' := [some (.inr (.inr (10, 0))), some (.inl c), x2]) (st' := [.inl (zW ((σ.1 10 0 55) - (σ.1 10 0 57))), .inl (σ.1 10 0 57), .inr (.inr (10, 0)), .inr (.inr (10, 0))]) (σ' := σ) 9 rfl ?_
        refine zX_call rfl rfl ?_
        refine zs_142 (o6 a1 a2 a3) (o7 a1 a2 a3) ?_
        · skip
          refine zX_run (n' := 167) (ls' := [some (.inr (.inr (10, 0))), some (.inl c), x2]) (st' := []) (σ' := (zU σ 10 0 56 (qWord T (σ.1 10 0 57).toNat (zW ((σ.1 10 0 55) - (σ.1 10 0 57))).toNat))) 2 rfl ?_
          exact zX_ret0 rfl rfl (h3 a1 a2 a3)
      · skip
        refine zX_run (n' := 51) (ls' := [some (.inr (.inr (10, 0))), some (.inl c), x2]) (st' := []) (σ' := (zU σ 10 0 55 (zW ((σ.1 10 0 55) + 1)))) 7 rfl ?_
        exact h4 a1 a2 a3
-- X10_next
theorem zb_144d {d : Nat} {σ : zS} {Q : Option zV → zS → Prop} {c v : Int}
    (o1 : ¬ σ.1 10 0 7 ≤ σ.1 10 0 55 → (0 : Int) ≤ σ.1 10 0 55 ∧ σ.1 10 0 55 < (160 : Int))
    (h1 : σ.1 10 0 7 ≤ σ.1 10 0 55 → zW ((σ.1 10 0 55) - (σ.1 10 0 57)) ≤ 4 → Q (none) (zU σ 10 0 56 (zW (100 + v))))
    (h2 : σ.1 10 0 7 ≤ σ.1 10 0 55 → ¬ zW ((σ.1 10 0 55) - (σ.1 10 0 57)) ≤ 4 → Q (none) (zU σ 10 0 56 24))
    (h3 : ¬ σ.1 10 0 7 ≤ σ.1 10 0 55 → σ.1 69 0 ((σ.1 10 0 55).toNat) < 48 → zW ((σ.1 10 0 55) - (σ.1 10 0 57)) ≤ 4 → Q (none) (zU σ 10 0 56 (zW (100 + v))))
    (h4 : ¬ σ.1 10 0 7 ≤ σ.1 10 0 55 → σ.1 69 0 ((σ.1 10 0 55).toNat) < 48 → ¬ zW ((σ.1 10 0 55) - (σ.1 10 0 57)) ≤ 4 → Q (none) (zU σ 10 0 56 24))
    (h5 : ¬ σ.1 10 0 7 ≤ σ.1 10 0 55 → ¬ σ.1 69 0 ((σ.1 10 0 55).toNat) < 48 → 57 < σ.1 69 0 ((σ.1 10 0 55).toNat) → zW ((σ.1 10 0 55) - (σ.1 10 0 57)) ≤ 4 → Q (none) (zU σ 10 0 56 (zW (100 + v))))
    (h6 : ¬ σ.1 10 0 7 ≤ σ.1 10 0 55 → ¬ σ.1 69 0 ((σ.1 10 0 55).toNat) < 48 → 57 < σ.1 69 0 ((σ.1 10 0 55).toNat) → ¬ zW ((σ.1 10 0 55) - (σ.1 10 0 57)) ≤ 4 → Q (none) (zU σ 10 0 56 24))
    (h7 : ¬ σ.1 10 0 7 ≤ σ.1 10 0 55 → ¬ σ.1 69 0 ((σ.1 10 0 55).toNat) < 48 → ¬ 57 < σ.1 69 0 ((σ.1 10 0 55).toNat) → 4 ≤ zW ((σ.1 10 0 55) - (σ.1 10 0 57)) → zX (d + 12) 144 97 [some (.inr (.inr (10, 0))), some (.inl c), some (.inl v)] [] (zU σ 10 0 55 (zW ((σ.1 10 0 55) + 1))) Q)
    (h8 : ¬ σ.1 10 0 7 ≤ σ.1 10 0 55 → ¬ σ.1 69 0 ((σ.1 10 0 55).toNat) < 48 → ¬ 57 < σ.1 69 0 ((σ.1 10 0 55).toNat) → ¬ 4 ≤ zW ((σ.1 10 0 55) - (σ.1 10 0 57)) → zX (d + 12) 144 97 [some (.inr (.inr (10, 0))), some (.inl c), some (.inl (zW ((zW ((zW (10 * v)) + (σ.1 69 0 ((σ.1 10 0 55).toNat)))) - 48)))] [] (zU σ 10 0 55 (zW ((σ.1 10 0 55) + 1))) Q) :
    zX (d + 12) 144 97 [some (.inr (.inr (10, 0))), some (.inl c), some (.inl v)] [] σ Q := by
  refine zX_run (n' := 101) (ls' := [some (.inr (.inr (10, 0))), some (.inl c), some (.inl v)]) (st' := [.inl (σ.1 10 0 7), .inl (σ.1 10 0 55)]) (σ' := σ) 4 rfl ?_
  refine zX_c3 rfl (fun a1 => ?_) (fun a1 => ?_)
  · skip
    refine zX_run (n' := 149) (ls' := [some (.inr (.inr (10, 0))), some (.inl c), some (.inl v)]) (st' := [.inl 4, .inl (zW ((σ.1 10 0 55) - (σ.1 10 0 57))), .inr (.inr (10, 0))]) (σ' := σ) 7 rfl ?_
    refine zX_c5 rfl (fun a2 => ?_) (fun a2 => ?_)
    · skip
      refine zX_run (n' := 167) (ls' := [some (.inr (.inr (10, 0))), some (.inl c), some (.inl v)]) (st' := []) (σ' := (zU σ 10 0 56 (zW (100 + v)))) 5 rfl ?_
      exact zX_ret0 rfl rfl (h1 a1 a2)
    · skip
      refine zX_run (n' := 167) (ls' := [some (.inr (.inr (10, 0))), some (.inl c), some (.inl v)]) (st' := []) (σ' := (zU σ 10 0 56 24)) 4 rfl ?_
      exact zX_ret0 rfl rfl (h2 a1 a2)
  · skip
    refine zX_run (n' := 106) (ls' := [some (.inr (.inr (10, 0))), some (.inl c), some (.inl v)]) (st' := [.inl (σ.1 10 0 55), .inr (.inr (69, 0))]) (σ' := σ) 4 rfl ?_
    refine zX_ald1 (L := 160) rfl (by decide) rfl (o1 a1) ?_
    refine zX_run (n' := 108) (ls' := [some (.inr (.inr (10, 0))), some (.inl c), some (.inl v)]) (st' := [.inl 48, .inl (σ.1 69 0 ((σ.1 10 0 55).toNat))]) (σ' := σ) 1 rfl ?_
    refine zX_c2 rfl (fun a3 => ?_) (fun a3 => ?_)
    · skip
      refine zX_run (n' := 149) (ls' := [some (.inr (.inr (10, 0))), some (.inl c), some (.inl v)]) (st' := [.inl 4, .inl (zW ((σ.1 10 0 55) - (σ.1 10 0 57))), .inr (.inr (10, 0))]) (σ' := σ) 7 rfl ?_
      refine zX_c5 rfl (fun a4 => ?_) (fun a4 => ?_)
      · skip
        refine zX_run (n' := 167) (ls' := [some (.inr (.inr (10, 0))), some (.inl c), some (.inl v)]) (st' := []) (σ' := (zU σ 10 0 56 (zW (100 + v)))) 5 rfl ?_
        exact zX_ret0 rfl rfl (h3 a1 a3 a4)
      · skip
        refine zX_run (n' := 167) (ls' := [some (.inr (.inr (10, 0))), some (.inl c), some (.inl v)]) (st' := []) (σ' := (zU σ 10 0 56 24)) 4 rfl ?_
        exact zX_ret0 rfl rfl (h4 a1 a3 a4)
    · skip
      refine zX_run (n' := 113) (ls' := [some (.inr (.inr (10, 0))), some (.inl c), some (.inl v)]) (st' := [.inl (σ.1 10 0 55), .inr (.inr (69, 0))]) (σ' := σ) 4 rfl ?_
      refine zX_ald1 (L := 160) rfl (by decide) rfl (o1 a1) ?_
      refine zX_run (n' := 115) (ls' := [some (.inr (.inr (10, 0))), some (.inl c), some (.inl v)]) (st' := [.inl 57, .inl (σ.1 69 0 ((σ.1 10 0 55).toNat))]) (σ' := σ) 1 rfl ?_
      refine zX_c4 rfl (fun a5 => ?_) (fun a5 => ?_)
      · skip
        refine zX_run (n' := 149) (ls' := [some (.inr (.inr (10, 0))), some (.inl c), some (.inl v)]) (st' := [.inl 4, .inl (zW ((σ.1 10 0 55) - (σ.1 10 0 57))), .inr (.inr (10, 0))]) (σ' := σ) 7 rfl ?_
        refine zX_c5 rfl (fun a6 => ?_) (fun a6 => ?_)
        · skip
          refine zX_run (n' := 167) (ls' := [some (.inr (.inr (10, 0))), some (.inl c), some (.inl v)]) (st' := []) (σ' := (zU σ 10 0 56 (zW (100 + v)))) 5 rfl ?_
          exact zX_ret0 rfl rfl (h5 a1 a3 a5 a6)
        · skip
          refine zX_run (n' := 167) (ls' := [some (.inr (.inr (10, 0))), some (.inl c), some (.inl v)]) (st' := []) (σ' := (zU σ 10 0 56 24)) 4 rfl ?_
          exact zX_ret0 rfl rfl (h6 a1 a3 a5 a6)
      · skip
        refine zX_run (n' := 122) (ls' := [some (.inr (.inr (10, 0))), some (.inl c), some (.inl v)]) (st' := [.inl 4, .inl (zW ((σ.1 10 0 55) - (σ.1 10 0 57)))]) (σ' := σ) 6 rfl ?_
        refine zX_c3 rfl (fun a7 => ?_) (fun a7 => ?_)
        · skip
          refine zX_run (n' := 97) (ls' := [some (.inr (.inr (10, 0))), some (.inl c), some (.inl v)]) (st' := []) (σ' := (zU σ 10 0 55 (zW ((σ.1 10 0 55) + 1)))) 7 rfl ?_
          exact h7 a1 a3 a5 a7
        · skip
          refine zX_run (n' := 130) (ls' := [some (.inr (.inr (10, 0))), some (.inl c), some (.inl v)]) (st' := [.inl (σ.1 10 0 55), .inr (.inr (69, 0)), .inl (zW (10 * v))]) (σ' := σ) 7 rfl ?_
          refine zX_ald1 (L := 160) rfl (by decide) rfl (o1 a1) ?_
          refine zX_run (n' := 97) (ls' := [some (.inr (.inr (10, 0))), some (.inl c), some (.inl (zW ((zW ((zW (10 * v)) + (σ.1 69 0 ((σ.1 10 0 55).toNat)))) - 48)))]) (st' := []) (σ' := (zU σ 10 0 55 (zW ((σ.1 10 0 55) + 1)))) 11 rfl ?_
          exact h8 a1 a3 a5 a7
/-- only where the reading stands has changed -/
def mFr (σ s : zS) : Prop := (∀ n j, ¬ (n = 0 ∧ (j = 55 ∨ j = 56 ∨ j = 57)) → s.1 10 n j = σ.1 10 n j) ∧ (∀ K, ¬ K = 10 → s.1 K = σ.1 K) ∧ s.2 = σ.2
theorem mFr_r {σ : zS} : mFr σ σ := ⟨fun _ _ _ => rfl, fun _ _ => rfl, rfl⟩
theorem mFr_U {σ s : zS} {j : Nat} {v : Int} (h : mFr σ s) (hj : j = 55 ∨ j = 56 ∨ j = 57) : mFr σ (zU s 10 0 j v) :=
  ⟨fun n i hi => (zU_ne (fun q => hi ⟨q.2.2, by rw [q.2.1]; exact hj⟩)).trans (h.1 n i hi), fun K hK => (zU_off hK).trans (h.2.1 K hK), h.2.2⟩
theorem mTp_U {s : zS} {T : Nat → Int} {N j : Nat} {v : Int} (h : mTp s T N) (hj : ¬ j = 7) : mTp (zU s 10 0 j v) T N :=
  ⟨(zU_ne (fun q => hj q.2.1.symm)).trans h.1, h.2.1, h.2.2⟩
theorem zl_144a {d : Nat} {σ : zS} {Q : Option zV → zS → Prop} {T : Nat → Int} {N : Nat} {x1 x2 : Option zV} : ∀ (f p : Nat) (s : zS), p + f = N → s.1 10 0 55 = (p : Int) → mFr σ s → mTp s T N →
    (∀ s2, s2.1 10 0 55 = (qSk T f p : Int) → mFr σ s2 → mTp s2 T N → zX (d + 12) 144 26 [some (.inr (.inr (10, 0))), x1, x2] [] s2 Q) → zX (d + 12) 144 0 [some (.inr (.inr (10, 0))), x1, x2] [] s Q := by
  intro f
  induction f with
  | zero =>
    intro p s e hp F M h
    have hN := M.1
    exact zb_144 (fun a => absurd (by omega) a) (fun _ => h s hp F M) (fun a _ => absurd (by omega) a) (fun a _ _ => absurd (by omega) a) (fun a _ _ => absurd (by omega) a)
  | succ f ih =>
    intro p s e hp F M h
    have hN := M.1
    have h160 := M.2.1
    have t : s.1 69 0 ((s.1 10 0 55).toNat) = T p := by rw [hp]; exact (M.2.2 p (by omega)).1
    have step : (T p = 32 ∨ T p = 10) → zX (d + 12) 144 0 [some (.inr (.inr (10, 0))), x1, x2] [] (zU s 10 0 55 (zW ((s.1 10 0 55) + 1))) Q := fun b => by
      rw [hp, qW1 (by omega)]
      refine ih (p + 1) _ (by omega) zU_same (mFr_U F (.inl rfl)) (mTp_U M (by decide)) (fun s2 g1 g2 g3 => h s2 ?_ g2 g3)
      rw [g1]
      exact congrArg Nat.cast (show qSk T f (p + 1) = qSk T (f + 1) p from (if_pos b).symm)
    have g0 : ¬ (T p = 32 ∨ T p = 10) → qSk T (f + 1) p = p := qSk_at
    refine zb_144 (fun _ => by omega) (fun a => absurd a (by omega)) (fun _ a => step (.inl (t.symm.trans a))) (fun _ a b => h s ?_ F M) (fun _ a b => step (.inr (t.symm.trans b)))
    rw [g0 (fun q => q.elim (fun q => a (t.trans q)) (fun q => b (t.trans q)))]; exact hp
theorem zl_144c {d : Nat} {σ : zS} {Q : Option zV → zS → Prop} {T : Nat → Int} {N p0 : Nat} {c : Int} {x2 : Option zV} : ∀ (f p : Nat) (s : zS), p + f = N → p0 ≤ p → s.1 10 0 55 = (p : Int) → s.1 10 0 57 = (p0 : Int) → mFr σ s → mTp s T N →
    (∀ s2, s2.1 10 0 55 = (qSp T 97 122 f p : Int) → s2.1 10 0 56 = qWord T p0 (qSp T 97 122 f p - p0) → s2.1 10 0 57 = (p0 : Int) → mFr σ s2 → mTp s2 T N → Q none s2) → zX (d + 12) 144 51 [some (.inr (.inr (10, 0))), some (.inl c), x2] [] s Q := by
  intro f
  induction f with
  | zero =>
    intro p s e h0 hp hq F M h
    have hN := M.1
    have h160 := M.2.1
    have hle : s.1 10 0 7 ≤ s.1 10 0 55 := by omega
    have es : zW ((s.1 10 0 55) - (s.1 10 0 57)) = ((p - p0 : Nat) : Int) := by rw [hp, hq]; exact qWs h0 (by omega)
    refine zb_144c (T := T) (N := N) (fun _ => M) (fun _ => by rw [es, hq]; omega) (fun a => absurd hle a) (fun a _ => absurd hle a) (fun a _ => absurd hle a) (fun a _ _ => absurd hle a) (fun a _ _ => absurd hle a) (fun _ => ?_) (fun a _ => absurd hle a) (fun a _ _ => absurd hle a) (fun a _ _ => absurd hle a)
    rw [es, hq]
    exact h _ hp zU_same hq (mFr_U F (.inr (.inl rfl))) (mTp_U M (by decide))
  | succ f ih =>
    intro p s e h0 hp hq F M h
    have hN := M.1
    have h160 := M.2.1
    have hle : ¬ s.1 10 0 7 ≤ s.1 10 0 55 := by omega
    have t : s.1 69 0 ((s.1 10 0 55).toNat) = T p := by rw [hp]; exact (M.2.2 p (by omega)).1
    have es : zW ((s.1 10 0 55) - (s.1 10 0 57)) = ((p - p0 : Nat) : Int) := by rw [hp, hq]; exact qWs h0 (by omega)
    have out : ¬ (97 ≤ T p ∧ T p ≤ 122) → Q none (zU s 10 0 56 (qWord T (s.1 10 0 57).toNat (zW ((s.1 10 0 55) - (s.1 10 0 57))).toNat)) := fun b => by
      have g : qSp T 97 122 (f + 1) p = p := if_neg b
      rw [g] at h
      rw [es, hq]
      exact h _ hp zU_same hq (mFr_U F (.inr (.inl rfl))) (mTp_U M (by decide))
    refine zb_144c (T := T) (N := N) (fun a => absurd a hle) (fun a => absurd a hle) (fun _ => by omega) (fun _ _ => M) (fun _ _ => by rw [es, hq]; omega) (fun _ _ _ => M) (fun _ _ _ => by rw [es, hq]; omega) (fun a => absurd a hle) (fun _ b => out (by rw [t] at b; omega)) (fun _ _ b => out (by rw [t] at b; omega)) (fun _ a b => ?_)
    rw [t] at a b
    have g : qSp T 97 122 (f + 1) p = qSp T 97 122 f (p + 1) := if_pos (by omega)
    rw [g] at h
    rw [hp, qW1 (by omega)]
    exact ih (p + 1) _ (by omega) (by omega) zU_same hq (mFr_U F (.inl rfl)) (mTp_U M (by decide)) h
theorem zl_144d {d : Nat} {σ : zS} {Q : Option zV → zS → Prop} {T : Nat → Int} {N p0 : Nat} {c : Int} : ∀ (f p : Nat) (v : Int) (s : zS), p + f = N → p0 ≤ p → s.1 10 0 55 = (p : Int) → s.1 10 0 57 = (p0 : Int) → mFr σ s → mTp s T N → (∀ i, i < p - p0 → 48 ≤ T (p0 + i) ∧ T (p0 + i) ≤ 57) → (p - p0 ≤ 4 → v = qHo T p0 (p - p0)) →
    (∀ s2, s2.1 10 0 55 = (qSp T 48 57 f p : Int) → s2.1 10 0 56 = (if 4 < qSp T 48 57 f p - p0 then 24 else 100 + qHo T p0 (qSp T 48 57 f p - p0)) → s2.1 10 0 57 = (p0 : Int) → mFr σ s2 → mTp s2 T N → Q none s2) → zX (d + 12) 144 97 [some (.inr (.inr (10, 0))), some (.inl c), some (.inl v)] [] s Q := by
  have fin : ∀ (p : Nat) (v : Int) (s : zS), p ≤ N → p0 ≤ p → s.1 10 0 55 = (p : Int) → s.1 10 0 57 = (p0 : Int) → mFr σ s → mTp s T N → (∀ i, i < p - p0 → 48 ≤ T (p0 + i) ∧ T (p0 + i) ≤ 57) → (p - p0 ≤ 4 → v = qHo T p0 (p - p0)) →
      (∀ s2, s2.1 10 0 55 = (p : Int) → s2.1 10 0 56 = (if 4 < p - p0 then 24 else 100 + qHo T p0 (p - p0)) → s2.1 10 0 57 = (p0 : Int) → mFr σ s2 → mTp s2 T N → Q none s2) →
      (zW ((s.1 10 0 55) - (s.1 10 0 57)) ≤ 4 → Q none (zU s 10 0 56 (zW (100 + v)))) ∧ (¬ zW ((s.1 10 0 55) - (s.1 10 0 57)) ≤ 4 → Q none (zU s 10 0 56 24)) := by
    intro p v s hN h0 hp hq F M dg hv h
    have h160 := M.2.1
    have es : zW ((s.1 10 0 55) - (s.1 10 0 57)) = ((p - p0 : Nat) : Int) := by rw [hp, hq]; exact qWs h0 (by omega)
    rw [es]
    constructor
    · intro a
      have a : p - p0 ≤ 4 := by omega
      have B := qHo_b dg
      have b4 := B.2.1 a
      have ev : zW (100 + v) = 100 + qHo T p0 (p - p0) := by rw [hv a]; exact zW_id (by omega)
      rw [ev]
      refine h _ hp (zU_same.trans ?_) hq (mFr_U F (.inr (.inl rfl))) (mTp_U M (by decide))
      rw [if_neg (by omega)]
    · intro a
      refine h _ hp (zU_same.trans ?_) hq (mFr_U F (.inr (.inl rfl))) (mTp_U M (by decide))
      rw [if_pos (by omega)]
  intro f
  induction f with
  | zero =>
    intro p v s e h0 hp hq F M dg hv h
    have hN := M.1
    have hle : s.1 10 0 7 ≤ s.1 10 0 55 := by omega
    have E := fin p v s (by omega) h0 hp hq F M dg hv h
    exact zb_144d (fun a => absurd hle a) (fun _ => E.1) (fun _ => E.2) (fun a _ _ => absurd hle a) (fun a _ _ => absurd hle a) (fun a _ _ _ => absurd hle a) (fun a _ _ _ => absurd hle a) (fun a _ _ _ => absurd hle a) (fun a _ _ _ => absurd hle a)
  | succ f ih =>
    intro p v s e h0 hp hq F M dg hv h
    have hN := M.1
    have h160 := M.2.1
    have hle : ¬ s.1 10 0 7 ≤ s.1 10 0 55 := by omega
    have t : s.1 69 0 ((s.1 10 0 55).toNat) = T p := by rw [hp]; exact (M.2.2 p (by omega)).1
    have es : zW ((s.1 10 0 55) - (s.1 10 0 57)) = ((p - p0 : Nat) : Int) := by rw [hp, hq]; exact qWs h0 (by omega)
    have out : ¬ (48 ≤ T p ∧ T p ≤ 57) → (zW ((s.1 10 0 55) - (s.1 10 0 57)) ≤ 4 → Q none (zU s 10 0 56 (zW (100 + v)))) ∧ (¬ zW ((s.1 10 0 55) - (s.1 10 0 57)) ≤ 4 → Q none (zU s 10 0 56 24)) := fun b => by
      have g : qSp T 48 57 (f + 1) p = p := if_neg b
      rw [g] at h
      exact fin p v s (by omega) h0 hp hq F M dg hv h
    have go : ∀ v2 : Int, (48 ≤ T p ∧ T p ≤ 57) → (p + 1 - p0 ≤ 4 → v2 = qHo T p0 (p + 1 - p0)) → zX (d + 12) 144 97 [some (.inr (.inr (10, 0))), some (.inl c), some (.inl v2)] [] (zU s 10 0 55 (zW ((s.1 10 0 55) + 1))) Q := fun v2 b hv2 => by
      have g : qSp T 48 57 (f + 1) p = qSp T 48 57 f (p + 1) := if_pos b
      rw [g] at h
      rw [hp, qW1 (by omega)]
      refine ih (p + 1) v2 _ (by omega) (by omega) zU_same hq (mFr_U F (.inl rfl)) (mTp_U M (by decide)) (fun i hi => ?_) hv2 h
      by_cases c : i = p - p0
      · rw [c, show p0 + (p - p0) = p by omega]; exact b
      · exact dg i (by omega)
    refine zb_144d (fun _ => by omega) (fun a => absurd a hle) (fun a => absurd a hle) (fun _ b => (out (by rw [t] at b; omega)).1) (fun _ b => (out (by rw [t] at b; omega)).2) (fun _ _ b => (out (by rw [t] at b; omega)).1) (fun _ _ b => (out (by rw [t] at b; omega)).2) (fun _ a b e4 => ?_) (fun _ a b e4 => ?_)
    · rw [t] at a b
      rw [es] at e4
      exact go v (by omega) (fun x => absurd x (by omega))
    · rw [t] at a b
      rw [es] at e4
      rw [t]
      refine go _ (by omega) (fun _ => ?_)
      have v0 := hv (by omega)
      have B := qHo_b dg
      have b3 := B.2.2.1 (by omega)
      have b0 := B.1
      have en : p + 1 - p0 = (p - p0) + 1 := by omega
      rw [en]
      show _ = qHo T p0 (p - p0) * 10 + T (p0 + (p - p0)) - 48
      rw [show p0 + (p - p0) = p by omega, v0]
      generalize qHo T p0 (p - p0) = w at b3 b0
      generalize T p = c0 at a b
      clear B v0 hv dg out go h ih fin t
      rw [zW_id (z := 10 * w) (by omega), zW_id (z := 10 * w + c0) (by omega), zW_id (by omega)]; omega
/-- the reference's k-th token -/
theorem zs_144 {d : Nat} {σ : zS} {Q : Option zV → zS → Prop} {T : Nat → Int} {N k : Nat} (M : mTp σ T N) (ha : σ.1 10 0 55 = (qA T N k : Int))
    (h : ∀ s, s.1 10 0 55 = (qA T N (k + 1) : Int) → s.1 10 0 56 = qK T N k → s.1 10 0 57 = (qP T N k : Int) → mFr σ s → mTp s T N → Q none s) : zM (d + 12) 144 [.inr (.inr (10, 0))] σ Q := by
  have aN := qA_le (T := T) (N := N) (k := k)
  have pN := qP_le (T := T) (N := N) (k := k)
  refine zl_144a (N - qA T N k) (qA T N k) σ (by omega) ha mFr_r M (fun s hs F M => ?_)
  have hs : s.1 10 0 55 = (qP T N k : Int) := hs
  have hN := M.1
  have h160 := M.2.1
  by_cases e : qP T N k = N
  · have c : s.1 10 0 55 = s.1 10 0 7 := by omega
    refine zb_144b (fun a => absurd c a) (fun a _ _ => absurd c a) (fun a _ _ _ => absurd c a) (fun a _ _ _ => absurd c a) (fun a _ _ _ => absurd c a) (fun a _ _ _ _ => absurd c a) (fun a _ _ _ _ => absurd c a) (fun a _ _ => absurd c a) (fun _ => ?_)
    refine h _ ?_ (zU_same.trans (qK_tv.2.mpr e).symm) ?_ (mFr_U (mFr_U F (.inr (.inr rfl))) (.inr (.inl rfl))) (mTp_U (mTp_U M (by decide)) (by decide))
    · rw [qA_N e]
      show s.1 10 0 55 = (N : Int)
      omega
    · show s.1 10 0 55 = _
      exact hs
  · have c : ¬ s.1 10 0 55 = s.1 10 0 7 := by omega
    have t : s.1 69 0 ((s.1 10 0 55).toNat) = T (qP T N k) := by rw [hs]; exact (M.2.2 _ (by omega)).1
    have eA := qA_s e
    have eK : qK T N k = qTok T (qP T N k) (qEnd T N (qP T N k)) := if_neg e
    have ef : N - qP T N k = (N - (qP T N k + 1)) + 1 := by omega
    have sgn : ¬ (97 ≤ T (qP T N k) ∧ T (qP T N k) ≤ 122) → ¬ (48 ≤ T (qP T N k) ∧ T (qP T N k) ≤ 57) → Q none (zU (zU (zU s 10 0 57 (s.1 10 0 55)) 10 0 56 (qSgn (s.1 69 0 ((s.1 10 0 55).toNat)))) 10 0 55 (zW ((s.1 10 0 55) + 1))) := fun a b => by
      rw [t, hs, qW1 (by omega)]
      refine h _ (zU_same.trans ?_) ?_ rfl (mFr_U (mFr_U (mFr_U F (.inr (.inr rfl))) (.inr (.inl rfl))) (.inl rfl)) (mTp_U (mTp_U (mTp_U M (by decide)) (by decide)) (by decide))
      · rw [eA]; unfold qEnd; rw [if_neg a, if_neg b]
      · rw [eK]; unfold qTok; rw [if_neg a, if_neg b]; rfl
    have num : ¬ (97 ≤ T (qP T N k) ∧ T (qP T N k) ≤ 122) → (48 ≤ T (qP T N k) ∧ T (qP T N k) ≤ 57) → zX (d + 12) 144 97 [some (.inr (.inr (10, 0))), some (.inl (s.1 69 0 ((s.1 10 0 55).toNat))), some (.inl 0)] [] (zU s 10 0 57 (s.1 10 0 55)) Q := fun a b => by
      rw [hs]
      have ee : qSp T 48 57 (N - qP T N k) (qP T N k) = qEnd T N (qP T N k) := by
        rw [ef]; unfold qEnd; rw [if_neg a, if_pos b]; exact if_pos b
      refine zl_144d (p0 := qP T N k) (N - qP T N k) (qP T N k) 0 _ (by omega) (Nat.le_refl _) hs zU_same (mFr_U F (.inr (.inr rfl))) (mTp_U M (by decide)) (fun i hi => absurd hi (by omega)) (fun _ => by rw [Nat.sub_self]; rfl) (fun s2 g1 g2 g3 g4 g5 => ?_)
      rw [ee] at g1 g2
      refine h s2 (by rw [eA]; exact g1) ?_ g3 g4 g5
      rw [eK]; unfold qTok; rw [if_neg a, if_pos b]; exact g2
    refine zb_144b (fun _ => by omega) (fun _ a b => sgn (by rw [t] at a; omega) (by rw [t] at b; omega)) (fun _ a b b2 => sgn (by rw [t] at a; omega) (by rw [t] at b2; omega)) (fun _ a b b2 => num (by rw [t] at a; omega) (by rw [t] at b b2; omega)) (fun _ a a2 b => sgn (by rw [t] at a2; omega) (by rw [t] at b; omega)) (fun _ a a2 b b2 => sgn (by rw [t] at a2; omega) (by rw [t] at b2; omega)) (fun _ a a2 b b2 => num (by rw [t] at a2; omega) (by rw [t] at b b2; omega)) (fun _ a a2 => ?_) (fun a => absurd a c)
    rw [t] at a a2
    have a : 97 ≤ T (qP T N k) ∧ T (qP T N k) ≤ 122 := by omega
    rw [hs]
    have ee : qSp T 97 122 (N - qP T N k) (qP T N k) = qEnd T N (qP T N k) := by
      rw [ef]; unfold qEnd; rw [if_pos a]; exact if_pos a
    refine zl_144c (p0 := qP T N k) (N - qP T N k) (qP T N k) _ (by omega) (Nat.le_refl _) hs zU_same (mFr_U F (.inr (.inr rfl))) (mTp_U M (by decide)) (fun s2 g1 g2 g3 g4 g5 => ?_)
    rw [ee] at g1 g2
    refine h s2 (by rw [eA]; exact g1) ?_ g3 g4 g5
    rw [eK]; unfold qTok; rw [if_pos a]; exact g2
