-- loop-free methods of the class, walked by wip/whole/gen/vc.py
-- X9_within
theorem zm_104 {d : Nat} {σ : zS} {Q : Option zV → zS → Prop} {v : Int} {lo : Int} {hi : Int}
    (h1 : v < lo → Q (some (.inl 0)) σ)
    (h2 : ¬ v < lo → hi < v → Q (some (.inl 0)) σ)
    (h3 : ¬ v < lo → ¬ hi < v → Q (some (.inl 1)) σ) :
    zM d 104 [.inl v, .inl lo, .inl hi] σ Q := by
  refine zX_run (n' := 2) (ls' := [some (.inl v), some (.inl lo), some (.inl hi)]) (st' := [.inl lo, .inl v]) (σ' := σ) 2 rfl ?_
  refine zX_c2 rfl (fun a1 => ?_) (fun a1 => ?_)
  · skip
    refine zX_run (n' := 9) (ls' := [some (.inl v), some (.inl lo), some (.inl hi)]) (st' := [.inl 0]) (σ' := σ) 1 rfl ?_
    exact zX_ret rfl rfl (h1 a1)
  · skip
    refine zX_run (n' := 5) (ls' := [some (.inl v), some (.inl lo), some (.inl hi)]) (st' := [.inl hi, .inl v]) (σ' := σ) 2 rfl ?_
    refine zX_c4 rfl (fun a2 => ?_) (fun a2 => ?_)
    · skip
      refine zX_run (n' := 9) (ls' := [some (.inl v), some (.inl lo), some (.inl hi)]) (st' := [.inl 0]) (σ' := σ) 1 rfl ?_
      exact zX_ret rfl rfl (h2 a1 a2)
    · skip
      refine zX_run (n' := 9) (ls' := [some (.inl v), some (.inl lo), some (.inl hi)]) (st' := [.inl 1]) (σ' := σ) 2 rfl ?_
      exact zX_ret rfl rfl (h3 a1 a2)
-- X9_isReach
theorem zm_105 {d : Nat} {σ : zS} {Q : Option zV → zS → Prop} {v : Int}
    (h1 : v < 0 → Q (some (.inl 0)) σ)
    (h2 : ¬ v < 0 → 6 < v → Q (some (.inl 0)) σ)
    (h3 : ¬ v < 0 → ¬ 6 < v → Q (some (.inl 1)) σ) :
    zM (d + 1) 105 [.inl v] σ Q := by
  refine zX_run (n' := 3) (ls' := [some (.inl v)]) (st' := [.inl 6, .inl 0, .inl v]) (σ' := σ) 3 rfl ?_
  refine zX_call rfl rfl ?_
  refine zm_104 (fun a1 => ?_) (fun a2 a3 => ?_) (fun a4 a5 => ?_)
  · skip
    exact zX_ret rfl rfl (h1 a1)
  · skip
    exact zX_ret rfl rfl (h2 a2 a3)
  · skip
    exact zX_ret rfl rfl (h3 a4 a5)
-- X9_isMonth
theorem zm_106 {d : Nat} {σ : zS} {Q : Option zV → zS → Prop} {v : Int}
    (h1 : v < 0 → Q (some (.inl 0)) σ)
    (h2 : ¬ v < 0 → 95 < v → Q (some (.inl 0)) σ)
    (h3 : ¬ v < 0 → ¬ 95 < v → Q (some (.inl 1)) σ) :
    zM (d + 1) 106 [.inl v] σ Q := by
  refine zX_run (n' := 3) (ls' := [some (.inl v)]) (st' := [.inl 95, .inl 0, .inl v]) (σ' := σ) 3 rfl ?_
  refine zX_call rfl rfl ?_
  refine zm_104 (fun a1 => ?_) (fun a2 a3 => ?_) (fun a4 a5 => ?_)
  · skip
    exact zX_ret rfl rfl (h1 a1)
  · skip
    exact zX_ret rfl rfl (h2 a2 a3)
  · skip
    exact zX_ret rfl rfl (h3 a4 a5)
-- X9_isSpan
theorem zm_107 {d : Nat} {σ : zS} {Q : Option zV → zS → Prop} {u : Int} {v : Int}
    (h1 : u < 0 → Q (some (.inl 0)) σ)
    (h2 : ¬ u < 0 → 96 < u → Q (some (.inl 0)) σ)
    (h3 : ¬ u < 0 → ¬ 96 < u → v < u → Q (some (.inl 0)) σ)
    (h4 : ¬ u < 0 → ¬ 96 < u → ¬ v < u → 96 < v → Q (some (.inl 0)) σ)
    (h5 : ¬ u < 0 → ¬ 96 < u → ¬ v < u → ¬ 96 < v → Q (some (.inl 1)) σ) :
    zM (d + 1) 107 [.inl u, .inl v] σ Q := by
  refine zX_run (n' := 3) (ls' := [some (.inl u), some (.inl v)]) (st' := [.inl 96, .inl 0, .inl u]) (σ' := σ) 3 rfl ?_
  refine zX_call rfl rfl ?_
  refine zm_104 (fun a1 => ?_) (fun a2 a3 => ?_) (fun a4 a5 => ?_)
  · skip
    refine zX_run (n' := 13) (ls' := [some (.inl u), some (.inl v)]) (st' := [.inl 0]) (σ' := σ) 2 rfl ?_
    exact zX_ret rfl rfl (h1 a1)
  · skip
    refine zX_run (n' := 13) (ls' := [some (.inl u), some (.inl v)]) (st' := [.inl 0]) (σ' := σ) 2 rfl ?_
    exact zX_ret rfl rfl (h2 a2 a3)
  · skip
    refine zX_run (n' := 8) (ls' := [some (.inl u), some (.inl v)]) (st' := [.inl 96, .inl u, .inl v]) (σ' := σ) 4 rfl ?_
    refine zX_call rfl rfl ?_
    refine zm_104 (fun a6 => ?_) (fun a7 a8 => ?_) (fun a9 a10 => ?_)
    · skip
      refine zX_run (n' := 13) (ls' := [some (.inl u), some (.inl v)]) (st' := [.inl 0]) (σ' := σ) 2 rfl ?_
      exact zX_ret rfl rfl (h3 a4 a5 a6)
    · skip
      refine zX_run (n' := 13) (ls' := [some (.inl u), some (.inl v)]) (st' := [.inl 0]) (σ' := σ) 2 rfl ?_
      exact zX_ret rfl rfl (h4 a4 a5 a7 a8)
    · skip
      refine zX_run (n' := 13) (ls' := [some (.inl u), some (.inl v)]) (st' := [.inl 1]) (σ' := σ) 3 rfl ?_
      exact zX_ret rfl rfl (h5 a4 a5 a9 a10)
-- X9_isState
theorem zm_108 {d : Nat} {σ : zS} {Q : Option zV → zS → Prop} {v : Int}
    (h1 : v < 0 → Q (some (.inl 0)) σ)
    (h2 : ¬ v < 0 → 3 < v → Q (some (.inl 0)) σ)
    (h3 : ¬ v < 0 → ¬ 3 < v → Q (some (.inl 1)) σ) :
    zM (d + 1) 108 [.inl v] σ Q := by
  refine zX_run (n' := 3) (ls' := [some (.inl v)]) (st' := [.inl 3, .inl 0, .inl v]) (σ' := σ) 3 rfl ?_
  refine zX_call rfl rfl ?_
  refine zm_104 (fun a1 => ?_) (fun a2 a3 => ?_) (fun a4 a5 => ?_)
  · skip
    exact zX_ret rfl rfl (h1 a1)
  · skip
    exact zX_ret rfl rfl (h2 a2 a3)
  · skip
    exact zX_ret rfl rfl (h3 a4 a5)
-- X9_isPromise
theorem zm_109 {d : Nat} {σ : zS} {Q : Option zV → zS → Prop} {p : Int} {w : Int}
    (h1 : p < 0 → Q (some (.inl 0)) σ)
    (h2 : ¬ p < 0 → 9999999 < p → Q (some (.inl 0)) σ)
    (h3 : ¬ p < 0 → ¬ 9999999 < p → w < 1 → Q (some (.inl 0)) σ)
    (h4 : ¬ p < 0 → ¬ 9999999 < p → ¬ w < 1 → 60 < w → Q (some (.inl 0)) σ)
    (h5 : ¬ p < 0 → ¬ 9999999 < p → ¬ w < 1 → ¬ 60 < w → Q (some (.inl 1)) σ) :
    zM (d + 1) 109 [.inl p, .inl w] σ Q := by
  refine zX_run (n' := 3) (ls' := [some (.inl p), some (.inl w)]) (st' := [.inl 9999999, .inl 0, .inl p]) (σ' := σ) 3 rfl ?_
  refine zX_call rfl rfl ?_
  refine zm_104 (fun a1 => ?_) (fun a2 a3 => ?_) (fun a4 a5 => ?_)
  · skip
    refine zX_run (n' := 13) (ls' := [some (.inl p), some (.inl w)]) (st' := [.inl 0]) (σ' := σ) 2 rfl ?_
    exact zX_ret rfl rfl (h1 a1)
  · skip
    refine zX_run (n' := 13) (ls' := [some (.inl p), some (.inl w)]) (st' := [.inl 0]) (σ' := σ) 2 rfl ?_
    exact zX_ret rfl rfl (h2 a2 a3)
  · skip
    refine zX_run (n' := 8) (ls' := [some (.inl p), some (.inl w)]) (st' := [.inl 60, .inl 1, .inl w]) (σ' := σ) 4 rfl ?_
    refine zX_call rfl rfl ?_
    refine zm_104 (fun a6 => ?_) (fun a7 a8 => ?_) (fun a9 a10 => ?_)
    · skip
      refine zX_run (n' := 13) (ls' := [some (.inl p), some (.inl w)]) (st' := [.inl 0]) (σ' := σ) 2 rfl ?_
      exact zX_ret rfl rfl (h3 a4 a5 a6)
    · skip
      refine zX_run (n' := 13) (ls' := [some (.inl p), some (.inl w)]) (st' := [.inl 0]) (σ' := σ) 2 rfl ?_
      exact zX_ret rfl rfl (h4 a4 a5 a7 a8)
    · skip
      refine zX_run (n' := 13) (ls' := [some (.inl p), some (.inl w)]) (st' := [.inl 1]) (σ' := σ) 3 rfl ?_
      exact zX_ret rfl rfl (h5 a4 a5 a9 a10)
-- X9_isSheet
theorem zm_110 {d : Nat} {σ : zS} {Q : Option zV → zS → Prop} {v : Int}
    (h1 : v < 0 → Q (some (.inl 0)) σ)
    (h2 : ¬ v < 0 → 3 < v → Q (some (.inl 0)) σ)
    (h3 : ¬ v < 0 → ¬ 3 < v → Q (some (.inl 1)) σ) :
    zM (d + 1) 110 [.inl v] σ Q := by
  refine zX_run (n' := 3) (ls' := [some (.inl v)]) (st' := [.inl 3, .inl 0, .inl v]) (σ' := σ) 3 rfl ?_
  refine zX_call rfl rfl ?_
  refine zm_104 (fun a1 => ?_) (fun a2 a3 => ?_) (fun a4 a5 => ?_)
  · skip
    exact zX_ret rfl rfl (h1 a1)
  · skip
    exact zX_ret rfl rfl (h2 a2 a3)
  · skip
    exact zX_ret rfl rfl (h3 a4 a5)
-- X9_isHoldAsTold
theorem zm_111 {d : Nat} {σ : zS} {Q : Option zV → zS → Prop} {k : Int} {s : Int} {r : Int} {n : Int} {e : Int}
    (h1 : k < 0 → Q (some (.inl 0)) σ)
    (h2 : ¬ k < 0 → 5 < k → Q (some (.inl 0)) σ)
    (h3 : ¬ k < 0 → ¬ 5 < k → s < 0 → Q (some (.inl 0)) σ)
    (h4 : ¬ k < 0 → ¬ 5 < k → ¬ s < 0 → 3 < s → Q (some (.inl 0)) σ)
    (h5 : ¬ k < 0 → ¬ 5 < k → ¬ s < 0 → ¬ 3 < s → r < 0 → Q (some (.inl 0)) σ)
    (h6 : ¬ k < 0 → ¬ 5 < k → ¬ s < 0 → ¬ 3 < s → ¬ r < 0 → 6 < r → Q (some (.inl 0)) σ)
    (h7 : ¬ k < 0 → ¬ 5 < k → ¬ s < 0 → ¬ 3 < s → ¬ r < 0 → ¬ 6 < r → ¬ k = 2 → n < 0 → Q (some (.inl 0)) σ)
    (h8 : ¬ k < 0 → ¬ 5 < k → ¬ s < 0 → ¬ 3 < s → ¬ r < 0 → ¬ 6 < r → ¬ k = 2 → ¬ n < 0 → 9999 < n → Q (some (.inl 0)) σ)
    (h9 : ¬ k < 0 → ¬ 5 < k → ¬ s < 0 → ¬ 3 < s → ¬ r < 0 → ¬ 6 < r → ¬ k = 2 → ¬ n < 0 → ¬ 9999 < n → e < 0 → Q (some (.inl 0)) σ)
    (h10 : ¬ k < 0 → ¬ 5 < k → ¬ s < 0 → ¬ 3 < s → ¬ r < 0 → ¬ 6 < r → ¬ k = 2 → ¬ n < 0 → ¬ 9999 < n → ¬ e < 0 → 9999 < e → Q (some (.inl 0)) σ)
    (h11 : ¬ k < 0 → ¬ 5 < k → ¬ s < 0 → ¬ 3 < s → ¬ r < 0 → ¬ 6 < r → ¬ k = 2 → ¬ n < 0 → ¬ 9999 < n → ¬ e < 0 → ¬ 9999 < e → Q (some (.inl 1)) σ)
    (h12 : ¬ k < 0 → ¬ 5 < k → ¬ s < 0 → ¬ 3 < s → ¬ r < 0 → ¬ 6 < r → k = 2 → n < 0 → Q (some (.inl 0)) σ)
    (h13 : ¬ k < 0 → ¬ 5 < k → ¬ s < 0 → ¬ 3 < s → ¬ r < 0 → ¬ 6 < r → k = 2 → ¬ n < 0 → 100 < n → Q (some (.inl 0)) σ)
    (h14 : ¬ k < 0 → ¬ 5 < k → ¬ s < 0 → ¬ 3 < s → ¬ r < 0 → ¬ 6 < r → k = 2 → ¬ n < 0 → ¬ 100 < n → e < 0 → Q (some (.inl 0)) σ)
    (h15 : ¬ k < 0 → ¬ 5 < k → ¬ s < 0 → ¬ 3 < s → ¬ r < 0 → ¬ 6 < r → k = 2 → ¬ n < 0 → ¬ 100 < n → ¬ e < 0 → 9999 < e → Q (some (.inl 0)) σ)
    (h16 : ¬ k < 0 → ¬ 5 < k → ¬ s < 0 → ¬ 3 < s → ¬ r < 0 → ¬ 6 < r → k = 2 → ¬ n < 0 → ¬ 100 < n → ¬ e < 0 → ¬ 9999 < e → Q (some (.inl 1)) σ) :
    zM (d + 2) 111 [.inl k, .inl s, .inl r, .inl n, .inl e] σ Q := by
  refine zX_run (n' := 3) (ls' := [some (.inl k), some (.inl s), some (.inl r), some (.inl n), some (.inl e)]) (st' := [.inl 5, .inl 0, .inl k]) (σ' := σ) 3 rfl ?_
  refine zX_call rfl rfl ?_
  refine zm_104 (fun a1 => ?_) (fun a2 a3 => ?_) (fun a4 a5 => ?_)
  · skip
    refine zX_run (n' := 29) (ls' := [some (.inl k), some (.inl s), some (.inl r), some (.inl n), some (.inl e)]) (st' := [.inl 0]) (σ' := σ) 2 rfl ?_
    exact zX_ret rfl rfl (h1 a1)
  · skip
    refine zX_run (n' := 29) (ls' := [some (.inl k), some (.inl s), some (.inl r), some (.inl n), some (.inl e)]) (st' := [.inl 0]) (σ' := σ) 2 rfl ?_
    exact zX_ret rfl rfl (h2 a2 a3)
  · skip
    refine zX_run (n' := 6) (ls' := [some (.inl k), some (.inl s), some (.inl r), some (.inl n), some (.inl e)]) (st' := [.inl s]) (σ' := σ) 2 rfl ?_
    refine zX_call rfl rfl ?_
    refine zm_108 (fun a6 => ?_) (fun a7 a8 => ?_) (fun a9 a10 => ?_)
    · skip
      refine zX_run (n' := 29) (ls' := [some (.inl k), some (.inl s), some (.inl r), some (.inl n), some (.inl e)]) (st' := [.inl 0]) (σ' := σ) 2 rfl ?_
      exact zX_ret rfl rfl (h3 a4 a5 a6)
    · skip
      refine zX_run (n' := 29) (ls' := [some (.inl k), some (.inl s), some (.inl r), some (.inl n), some (.inl e)]) (st' := [.inl 0]) (σ' := σ) 2 rfl ?_
      exact zX_ret rfl rfl (h4 a4 a5 a7 a8)
    · skip
      refine zX_run (n' := 9) (ls' := [some (.inl k), some (.inl s), some (.inl r), some (.inl n), some (.inl e)]) (st' := [.inl r]) (σ' := σ) 2 rfl ?_
      refine zX_call rfl rfl ?_
      refine zm_105 (fun a11 => ?_) (fun a12 a13 => ?_) (fun a14 a15 => ?_)
      · skip
        refine zX_run (n' := 29) (ls' := [some (.inl k), some (.inl s), some (.inl r), some (.inl n), some (.inl e)]) (st' := [.inl 0]) (σ' := σ) 2 rfl ?_
        exact zX_ret rfl rfl (h5 a4 a5 a9 a10 a11)
      · skip
        refine zX_run (n' := 29) (ls' := [some (.inl k), some (.inl s), some (.inl r), some (.inl n), some (.inl e)]) (st' := [.inl 0]) (σ' := σ) 2 rfl ?_
        exact zX_ret rfl rfl (h6 a4 a5 a9 a10 a12 a13)
      · skip
        refine zX_run (n' := 15) (ls' := [some (.inl k), some (.inl s), some (.inl r), some (.inl n), some (.inl e)]) (st' := [.inl 2, .inl k, .inl 0, .inl n]) (σ' := σ) 5 rfl ?_
        refine zX_c1 rfl (fun a16 => ?_) (fun a16 => ?_)
        · skip
          refine zX_run (n' := 19) (ls' := [some (.inl k), some (.inl s), some (.inl r), some (.inl n), some (.inl e)]) (st' := [.inl 9999, .inl 0, .inl n]) (σ' := σ) 1 rfl ?_
          refine zX_call rfl rfl ?_
          refine zm_104 (fun a17 => ?_) (fun a18 a19 => ?_) (fun a20 a21 => ?_)
          · skip
            refine zX_run (n' := 29) (ls' := [some (.inl k), some (.inl s), some (.inl r), some (.inl n), some (.inl e)]) (st' := [.inl 0]) (σ' := σ) 2 rfl ?_
            exact zX_ret rfl rfl (h7 a4 a5 a9 a10 a14 a15 a16 a17)
          · skip
            refine zX_run (n' := 29) (ls' := [some (.inl k), some (.inl s), some (.inl r), some (.inl n), some (.inl e)]) (st' := [.inl 0]) (σ' := σ) 2 rfl ?_
            exact zX_ret rfl rfl (h8 a4 a5 a9 a10 a14 a15 a16 a18 a19)
          · skip
            refine zX_run (n' := 24) (ls' := [some (.inl k), some (.inl s), some (.inl r), some (.inl n), some (.inl e)]) (st' := [.inl 9999, .inl 0, .inl e]) (σ' := σ) 4 rfl ?_
            refine zX_call rfl rfl ?_
            refine zm_104 (fun a22 => ?_) (fun a23 a24 => ?_) (fun a25 a26 => ?_)
            · skip
              refine zX_run (n' := 29) (ls' := [some (.inl k), some (.inl s), some (.inl r), some (.inl n), some (.inl e)]) (st' := [.inl 0]) (σ' := σ) 2 rfl ?_
              exact zX_ret rfl rfl (h9 a4 a5 a9 a10 a14 a15 a16 a20 a21 a22)
            · skip
              refine zX_run (n' := 29) (ls' := [some (.inl k), some (.inl s), some (.inl r), some (.inl n), some (.inl e)]) (st' := [.inl 0]) (σ' := σ) 2 rfl ?_
              exact zX_ret rfl rfl (h10 a4 a5 a9 a10 a14 a15 a16 a20 a21 a23 a24)
            · skip
              refine zX_run (n' := 29) (ls' := [some (.inl k), some (.inl s), some (.inl r), some (.inl n), some (.inl e)]) (st' := [.inl 1]) (σ' := σ) 3 rfl ?_
              exact zX_ret rfl rfl (h11 a4 a5 a9 a10 a14 a15 a16 a20 a21 a25 a26)
        · skip
          refine zX_run (n' := 19) (ls' := [some (.inl k), some (.inl s), some (.inl r), some (.inl n), some (.inl e)]) (st' := [.inl 100, .inl 0, .inl n]) (σ' := σ) 2 rfl ?_
          refine zX_call rfl rfl ?_
          refine zm_104 (fun a27 => ?_) (fun a28 a29 => ?_) (fun a30 a31 => ?_)
          · skip
            refine zX_run (n' := 29) (ls' := [some (.inl k), some (.inl s), some (.inl r), some (.inl n), some (.inl e)]) (st' := [.inl 0]) (σ' := σ) 2 rfl ?_
            exact zX_ret rfl rfl (h12 a4 a5 a9 a10 a14 a15 a16 a27)
          · skip
            refine zX_run (n' := 29) (ls' := [some (.inl k), some (.inl s), some (.inl r), some (.inl n), some (.inl e)]) (st' := [.inl 0]) (σ' := σ) 2 rfl ?_
            exact zX_ret rfl rfl (h13 a4 a5 a9 a10 a14 a15 a16 a28 a29)
          · skip
            refine zX_run (n' := 24) (ls' := [some (.inl k), some (.inl s), some (.inl r), some (.inl n), some (.inl e)]) (st' := [.inl 9999, .inl 0, .inl e]) (σ' := σ) 4 rfl ?_
            refine zX_call rfl rfl ?_
            refine zm_104 (fun a32 => ?_) (fun a33 a34 => ?_) (fun a35 a36 => ?_)
            · skip
              refine zX_run (n' := 29) (ls' := [some (.inl k), some (.inl s), some (.inl r), some (.inl n), some (.inl e)]) (st' := [.inl 0]) (σ' := σ) 2 rfl ?_
              exact zX_ret rfl rfl (h14 a4 a5 a9 a10 a14 a15 a16 a30 a31 a32)
            · skip
              refine zX_run (n' := 29) (ls' := [some (.inl k), some (.inl s), some (.inl r), some (.inl n), some (.inl e)]) (st' := [.inl 0]) (σ' := σ) 2 rfl ?_
              exact zX_ret rfl rfl (h15 a4 a5 a9 a10 a14 a15 a16 a30 a31 a33 a34)
            · skip
              refine zX_run (n' := 29) (ls' := [some (.inl k), some (.inl s), some (.inl r), some (.inl n), some (.inl e)]) (st' := [.inl 1]) (σ' := σ) 3 rfl ?_
              exact zX_ret rfl rfl (h16 a4 a5 a9 a10 a14 a15 a16 a30 a31 a35 a36)
-- X9_isHold
theorem zm_112 {d : Nat} {σ : zS} {Q : Option zV → zS → Prop} {h : Int}
    (h1 : h < 0 → Q (some (.inl 0)) σ)
    (h2 : ¬ h < 0 → (zW ((σ.1 8 0 8) - 1)) < h → Q (some (.inl 0)) σ)
    (h3 : ¬ h < 0 → ¬ (zW ((σ.1 8 0 8) - 1)) < h → Q (some (.inl 1)) σ) :
    zM (d + 1) 112 [.inr (.inr (9, 0)), .inl h] σ Q := by
  refine zX_run (n' := 7) (ls' := [some (.inr (.inr (9, 0))), some (.inl h)]) (st' := [.inl (zW ((σ.1 8 0 8) - 1)), .inl 0, .inl h]) (σ' := σ) 7 rfl ?_
  refine zX_call rfl rfl ?_
  refine zm_104 (fun a1 => ?_) (fun a2 a3 => ?_) (fun a4 a5 => ?_)
  · skip
    exact zX_ret rfl rfl (h1 a1)
  · skip
    exact zX_ret rfl rfl (h2 a2 a3)
  · skip
    exact zX_ret rfl rfl (h3 a4 a5)
-- X9_isText
theorem zm_113 {d : Nat} {σ : zS} {Q : Option zV → zS → Prop} {v : Int}
    (h1 : v < 0 → Q (some (.inl 0)) σ)
    (h2 : ¬ v < 0 → (zW ((σ.1 8 0 13) - 1)) < v → Q (some (.inl 0)) σ)
    (h3 : ¬ v < 0 → ¬ (zW ((σ.1 8 0 13) - 1)) < v → Q (some (.inl 1)) σ) :
    zM (d + 1) 113 [.inr (.inr (9, 0)), .inl v] σ Q := by
  refine zX_run (n' := 7) (ls' := [some (.inr (.inr (9, 0))), some (.inl v)]) (st' := [.inl (zW ((σ.1 8 0 13) - 1)), .inl 0, .inl v]) (σ' := σ) 7 rfl ?_
  refine zX_call rfl rfl ?_
  refine zm_104 (fun a1 => ?_) (fun a2 a3 => ?_) (fun a4 a5 => ?_)
  · skip
    exact zX_ret rfl rfl (h1 a1)
  · skip
    exact zX_ret rfl rfl (h2 a2 a3)
  · skip
    exact zX_ret rfl rfl (h3 a4 a5)
-- X9_side
theorem zm_68 {d : Nat} {σ : zS} {Q : Option zV → zS → Prop} {r : Int} {m : Int} {n : Int}
    (o1 : ¬ r < 0 → ¬ 6 < r → ¬ m < 0 → ¬ 11 < m → ¬ n < 0 → ¬ 9999 < n → 0 ≤ zW ((zW (r * 12)) + m) ∧ zW ((zW (r * 12)) + m) < 84)
    (o2 : ¬ r < 0 → ¬ 6 < r → ¬ m < 0 → ¬ 11 < m → ¬ n < 0 → ¬ 9999 < n → 0 ≤ zW ((zW (r * 12)) + m) ∧ zW ((zW (r * 12)) + m) < 84)
    (h1 : r < 0 → Q (some (.inl (-2))) σ)
    (h2 : ¬ r < 0 → 6 < r → Q (some (.inl (-2))) σ)
    (h3 : ¬ r < 0 → ¬ 6 < r → m < 0 → Q (some (.inl (-2))) σ)
    (h4 : ¬ r < 0 → ¬ 6 < r → ¬ m < 0 → 11 < m → Q (some (.inl (-2))) σ)
    (h5 : ¬ r < 0 → ¬ 6 < r → ¬ m < 0 → ¬ 11 < m → n < 0 → Q (some (.inl (-2))) σ)
    (h6 : ¬ r < 0 → ¬ 6 < r → ¬ m < 0 → ¬ 11 < m → ¬ n < 0 → 9999 < n → Q (some (.inl (-2))) σ)
    (h7 : ¬ r < 0 → ¬ 6 < r → ¬ m < 0 → ¬ 11 < m → ¬ n < 0 → ¬ 9999 < n → Q (some (.inl (σ.1 34 0 ((zW ((zW (r * 12)) + m)).toNat)))) (zU (zU σ 34 0 ((zW ((zW (r * 12)) + m)).toNat) n) 0 0 4 1)) :
    zM (d + 2) 68 [.inr (.inr (9, 0)), .inl r, .inl m, .inl n] σ Q := by
  refine zX_run (n' := 1) (ls' := [some (.inr (.inr (9, 0))), some (.inl r), some (.inl m), some (.inl n), none, none]) (st' := [.inl r]) (σ' := σ) 1 rfl ?_
  refine zX_call rfl rfl ?_
  refine zm_105 (fun a1 => ?_) (fun a2 a3 => ?_) (fun a4 a5 => ?_)
  · skip
    refine zX_run (n' := 14) (ls' := [some (.inr (.inr (9, 0))), some (.inl r), some (.inl m), some (.inl n), none, none]) (st' := [.inl (-2)]) (σ' := σ) 2 rfl ?_
    exact zX_ret rfl rfl (h1 a1)
  · skip
    refine zX_run (n' := 14) (ls' := [some (.inr (.inr (9, 0))), some (.inl r), some (.inl m), some (.inl n), none, none]) (st' := [.inl (-2)]) (σ' := σ) 2 rfl ?_
    exact zX_ret rfl rfl (h2 a2 a3)
  · skip
    refine zX_run (n' := 6) (ls' := [some (.inr (.inr (9, 0))), some (.inl r), some (.inl m), some (.inl n), none, none]) (st' := [.inl 11, .inl 0, .inl m]) (σ' := σ) 4 rfl ?_
    refine zX_call rfl rfl ?_
    refine zm_104 (fun a6 => ?_) (fun a7 a8 => ?_) (fun a9 a10 => ?_)
    · skip
      refine zX_run (n' := 14) (ls' := [some (.inr (.inr (9, 0))), some (.inl r), some (.inl m), some (.inl n), none, none]) (st' := [.inl (-2)]) (σ' := σ) 2 rfl ?_
      exact zX_ret rfl rfl (h3 a4 a5 a6)
    · skip
      refine zX_run (n' := 14) (ls' := [some (.inr (.inr (9, 0))), some (.inl r), some (.inl m), some (.inl n), none, none]) (st' := [.inl (-2)]) (σ' := σ) 2 rfl ?_
      exact zX_ret rfl rfl (h4 a4 a5 a7 a8)
    · skip
      refine zX_run (n' := 11) (ls' := [some (.inr (.inr (9, 0))), some (.inl r), some (.inl m), some (.inl n), none, none]) (st' := [.inl 9999, .inl 0, .inl n]) (σ' := σ) 4 rfl ?_
      refine zX_call rfl rfl ?_
      refine zm_104 (fun a11 => ?_) (fun a12 a13 => ?_) (fun a14 a15 => ?_)
      · skip
        refine zX_run (n' := 14) (ls' := [some (.inr (.inr (9, 0))), some (.inl r), some (.inl m), some (.inl n), none, none]) (st' := [.inl (-2)]) (σ' := σ) 2 rfl ?_
        exact zX_ret rfl rfl (h5 a4 a5 a9 a10 a11)
      · skip
        refine zX_run (n' := 14) (ls' := [some (.inr (.inr (9, 0))), some (.inl r), some (.inl m), some (.inl n), none, none]) (st' := [.inl (-2)]) (σ' := σ) 2 rfl ?_
        exact zX_ret rfl rfl (h6 a4 a5 a9 a10 a12 a13)
      · skip
        refine zX_run (n' := 25) (ls' := [some (.inr (.inr (9, 0))), some (.inl r), some (.inl m), some (.inl n), some (.inl (zW ((zW (r * 12)) + m))), none]) (st' := [.inl (zW ((zW (r * 12)) + m)), .inr (.inr (34, 0))]) (σ' := σ) 11 rfl ?_
        refine zX_ald1 (L := 84) rfl (by decide) rfl (o1 a4 a5 a9 a10 a14 a15) ?_
        refine zX_run (n' := 32) (ls' := [some (.inr (.inr (9, 0))), some (.inl r), some (.inl m), some (.inl n), some (.inl (zW ((zW (r * 12)) + m))), some (.inl (σ.1 34 0 ((zW ((zW (r * 12)) + m)).toNat)))]) (st' := [.inl n, .inl (zW ((zW (r * 12)) + m)), .inr (.inr (34, 0))]) (σ' := σ) 6 rfl ?_
        refine zX_ast1 (L := 84) rfl (by decide) rfl (o2 a4 a5 a9 a10 a14 a15) ?_
        refine zX_run (n' := 38) (ls' := [some (.inr (.inr (9, 0))), some (.inl r), some (.inl m), some (.inl n), some (.inl (zW ((zW (r * 12)) + m))), some (.inl (σ.1 34 0 ((zW ((zW (r * 12)) + m)).toNat)))]) (st' := [.inl (σ.1 34 0 ((zW ((zW (r * 12)) + m)).toNat))]) (σ' := (zU (zU σ 34 0 ((zW ((zW (r * 12)) + m)).toNat) n) 0 0 4 1)) 5 rfl ?_
        exact zX_ret rfl rfl (h7 a4 a5 a9 a10 a14 a15)
-- X9_salt
theorem zm_69 {d : Nat} {σ : zS} {Q : Option zV → zS → Prop} {r : Int} {n : Int}
    (o1 : ¬ r < 0 → ¬ 6 < r → ¬ n < 0 → ¬ 99 < n → 0 ≤ r ∧ r < 7)
    (o2 : ¬ r < 0 → ¬ 6 < r → ¬ n < 0 → ¬ 99 < n → 0 ≤ r ∧ r < 7)
    (h1 : r < 0 → Q (some (.inl (-2))) σ)
    (h2 : ¬ r < 0 → 6 < r → Q (some (.inl (-2))) σ)
    (h3 : ¬ r < 0 → ¬ 6 < r → n < 0 → Q (some (.inl (-2))) σ)
    (h4 : ¬ r < 0 → ¬ 6 < r → ¬ n < 0 → 99 < n → Q (some (.inl (-2))) σ)
    (h5 : ¬ r < 0 → ¬ 6 < r → ¬ n < 0 → ¬ 99 < n → Q (some (.inl (σ.1 35 0 (r.toNat)))) (zU (zU σ 35 0 (r.toNat) n) 0 0 4 1)) :
    zM (d + 2) 69 [.inr (.inr (9, 0)), .inl r, .inl n] σ Q := by
  refine zX_run (n' := 1) (ls' := [some (.inr (.inr (9, 0))), some (.inl r), some (.inl n), none]) (st' := [.inl r]) (σ' := σ) 1 rfl ?_
  refine zX_call rfl rfl ?_
  refine zm_105 (fun a1 => ?_) (fun a2 a3 => ?_) (fun a4 a5 => ?_)
  · skip
    refine zX_run (n' := 9) (ls' := [some (.inr (.inr (9, 0))), some (.inl r), some (.inl n), none]) (st' := [.inl (-2)]) (σ' := σ) 2 rfl ?_
    exact zX_ret rfl rfl (h1 a1)
  · skip
    refine zX_run (n' := 9) (ls' := [some (.inr (.inr (9, 0))), some (.inl r), some (.inl n), none]) (st' := [.inl (-2)]) (σ' := σ) 2 rfl ?_
    exact zX_ret rfl rfl (h2 a2 a3)
  · skip
    refine zX_run (n' := 6) (ls' := [some (.inr (.inr (9, 0))), some (.inl r), some (.inl n), none]) (st' := [.inl 99, .inl 0, .inl n]) (σ' := σ) 4 rfl ?_
    refine zX_call rfl rfl ?_
    refine zm_104 (fun a6 => ?_) (fun a7 a8 => ?_) (fun a9 a10 => ?_)
    · skip
      refine zX_run (n' := 9) (ls' := [some (.inr (.inr (9, 0))), some (.inl r), some (.inl n), none]) (st' := [.inl (-2)]) (σ' := σ) 2 rfl ?_
      exact zX_ret rfl rfl (h3 a4 a5 a6)
    · skip
      refine zX_run (n' := 9) (ls' := [some (.inr (.inr (9, 0))), some (.inl r), some (.inl n), none]) (st' := [.inl (-2)]) (σ' := σ) 2 rfl ?_
      exact zX_ret rfl rfl (h4 a4 a5 a7 a8)
    · skip
      refine zX_run (n' := 14) (ls' := [some (.inr (.inr (9, 0))), some (.inl r), some (.inl n), none]) (st' := [.inl r, .inr (.inr (35, 0))]) (σ' := σ) 5 rfl ?_
      refine zX_ald1 (L := 7) rfl (by decide) rfl (o1 a4 a5 a9 a10) ?_
      refine zX_run (n' := 21) (ls' := [some (.inr (.inr (9, 0))), some (.inl r), some (.inl n), some (.inl (σ.1 35 0 (r.toNat)))]) (st' := [.inl n, .inl r, .inr (.inr (35, 0))]) (σ' := σ) 6 rfl ?_
      refine zX_ast1 (L := 7) rfl (by decide) rfl (o2 a4 a5 a9 a10) ?_
      refine zX_run (n' := 27) (ls' := [some (.inr (.inr (9, 0))), some (.inl r), some (.inl n), some (.inl (σ.1 35 0 (r.toNat)))]) (st' := [.inl (σ.1 35 0 (r.toNat))]) (σ' := (zU (zU σ 35 0 (r.toNat) n) 0 0 4 1)) 5 rfl ?_
      exact zX_ret rfl rfl (h5 a4 a5 a9 a10)
-- X9_flood
theorem zm_70 {d : Nat} {σ : zS} {Q : Option zV → zS → Prop} {r : Int} {m : Int} {n : Int}
    (o1 : ¬ r < 0 → ¬ 6 < r → ¬ m < 0 → ¬ 95 < m → ¬ n < (-9999) → ¬ 9999 < n → σ.1 8 0 3 < 24 → 0 ≤ zW ((zW (r * 96)) + m) ∧ zW ((zW (r * 96)) + m) < 672)
    (o2 : ¬ r < 0 → ¬ 6 < r → ¬ m < 0 → ¬ 95 < m → ¬ n < (-9999) → ¬ 9999 < n → σ.1 8 0 3 < 24 → 0 ≤ zW ((zW (r * 96)) + m) ∧ zW ((zW (r * 96)) + m) < 672)
    (h1 : r < 0 → Q (some (.inl (-2))) σ)
    (h2 : ¬ r < 0 → 6 < r → Q (some (.inl (-2))) σ)
    (h3 : ¬ r < 0 → ¬ 6 < r → m < 0 → Q (some (.inl (-2))) σ)
    (h4 : ¬ r < 0 → ¬ 6 < r → ¬ m < 0 → 95 < m → Q (some (.inl (-2))) σ)
    (h5 : ¬ r < 0 → ¬ 6 < r → ¬ m < 0 → ¬ 95 < m → n < (-9999) → Q (some (.inl (-2))) σ)
    (h6 : ¬ r < 0 → ¬ 6 < r → ¬ m < 0 → ¬ 95 < m → ¬ n < (-9999) → 9999 < n → Q (some (.inl (-2))) σ)
    (h7 : ¬ r < 0 → ¬ 6 < r → ¬ m < 0 → ¬ 95 < m → ¬ n < (-9999) → ¬ 9999 < n → σ.1 8 0 3 < 24 → Q (some (.inl (σ.1 8 0 3))) (zU (zU (zU σ 36 0 ((zW ((zW (r * 96)) + m)).toNat) (zW ((σ.1 36 0 ((zW ((zW (r * 96)) + m)).toNat)) + n))) 0 0 4 1) 8 0 3 (zW ((σ.1 8 0 3) + 1))))
    (h8 : ¬ r < 0 → ¬ 6 < r → ¬ m < 0 → ¬ 95 < m → ¬ n < (-9999) → ¬ 9999 < n → ¬ σ.1 8 0 3 < 24 → Q (some (.inl (-4))) σ) :
    zM (d + 2) 70 [.inr (.inr (9, 0)), .inl r, .inl m, .inl n] σ Q := by
  refine zX_run (n' := 1) (ls' := [some (.inr (.inr (9, 0))), some (.inl r), some (.inl m), some (.inl n)]) (st' := [.inl r]) (σ' := σ) 1 rfl ?_
  refine zX_call rfl rfl ?_
  refine zm_105 (fun a1 => ?_) (fun a2 a3 => ?_) (fun a4 a5 => ?_)
  · skip
    refine zX_run (n' := 12) (ls' := [some (.inr (.inr (9, 0))), some (.inl r), some (.inl m), some (.inl n)]) (st' := [.inl (-2)]) (σ' := σ) 2 rfl ?_
    exact zX_ret rfl rfl (h1 a1)
  · skip
    refine zX_run (n' := 12) (ls' := [some (.inr (.inr (9, 0))), some (.inl r), some (.inl m), some (.inl n)]) (st' := [.inl (-2)]) (σ' := σ) 2 rfl ?_
    exact zX_ret rfl rfl (h2 a2 a3)
  · skip
    refine zX_run (n' := 4) (ls' := [some (.inr (.inr (9, 0))), some (.inl r), some (.inl m), some (.inl n)]) (st' := [.inl m]) (σ' := σ) 2 rfl ?_
    refine zX_call rfl rfl ?_
    refine zm_106 (fun a6 => ?_) (fun a7 a8 => ?_) (fun a9 a10 => ?_)
    · skip
      refine zX_run (n' := 12) (ls' := [some (.inr (.inr (9, 0))), some (.inl r), some (.inl m), some (.inl n)]) (st' := [.inl (-2)]) (σ' := σ) 2 rfl ?_
      exact zX_ret rfl rfl (h3 a4 a5 a6)
    · skip
      refine zX_run (n' := 12) (ls' := [some (.inr (.inr (9, 0))), some (.inl r), some (.inl m), some (.inl n)]) (st' := [.inl (-2)]) (σ' := σ) 2 rfl ?_
      exact zX_ret rfl rfl (h4 a4 a5 a7 a8)
    · skip
      refine zX_run (n' := 9) (ls' := [some (.inr (.inr (9, 0))), some (.inl r), some (.inl m), some (.inl n)]) (st' := [.inl 9999, .inl (-9999), .inl n]) (σ' := σ) 4 rfl ?_
      refine zX_call rfl rfl ?_
      refine zm_104 (fun a11 => ?_) (fun a12 a13 => ?_) (fun a14 a15 => ?_)
      · skip
        refine zX_run (n' := 12) (ls' := [some (.inr (.inr (9, 0))), some (.inl r), some (.inl m), some (.inl n)]) (st' := [.inl (-2)]) (σ' := σ) 2 rfl ?_
        exact zX_ret rfl rfl (h5 a4 a5 a9 a10 a11)
      · skip
        refine zX_run (n' := 12) (ls' := [some (.inr (.inr (9, 0))), some (.inl r), some (.inl m), some (.inl n)]) (st' := [.inl (-2)]) (σ' := σ) 2 rfl ?_
        exact zX_ret rfl rfl (h6 a4 a5 a9 a10 a12 a13)
      · skip
        refine zX_run (n' := 17) (ls' := [some (.inr (.inr (9, 0))), some (.inl r), some (.inl m), some (.inl n)]) (st' := [.inl 24, .inl (σ.1 8 0 3)]) (σ' := σ) 5 rfl ?_
        refine zX_c2 rfl (fun a16 => ?_) (fun a16 => ?_)
        · skip
          refine zX_run (n' := 29) (ls' := [some (.inr (.inr (9, 0))), some (.inl r), some (.inl m), some (.inl n)]) (st' := [.inl (zW ((zW (r * 96)) + m)), .inr (.inr (36, 0)), .inl (zW ((zW (r * 96)) + m)), .inr (.inr (36, 0))]) (σ' := σ) 9 rfl ?_
          refine zX_ald1 (L := 672) rfl (by decide) rfl (o1 a4 a5 a9 a10 a14 a15 a16) ?_
          refine zX_run (n' := 32) (ls' := [some (.inr (.inr (9, 0))), some (.inl r), some (.inl m), some (.inl n)]) (st' := [.inl (zW ((σ.1 36 0 ((zW ((zW (r * 96)) + m)).toNat)) + n)), .inl (zW ((zW (r * 96)) + m)), .inr (.inr (36, 0))]) (σ' := σ) 2 rfl ?_
          refine zX_ast1 (L := 672) rfl (by decide) rfl (o2 a4 a5 a9 a10 a14 a15 a16) ?_
          refine zX_run (n' := 45) (ls' := [some (.inr (.inr (9, 0))), some (.inl r), some (.inl m), some (.inl n)]) (st' := [.inl (σ.1 8 0 3)]) (σ' := (zU (zU (zU σ 36 0 ((zW ((zW (r * 96)) + m)).toNat) (zW ((σ.1 36 0 ((zW ((zW (r * 96)) + m)).toNat)) + n))) 0 0 4 1) 8 0 3 (zW ((σ.1 8 0 3) + 1)))) 12 rfl ?_
          exact zX_ret rfl rfl (h7 a4 a5 a9 a10 a14 a15 a16)
        · skip
          refine zX_run (n' := 19) (ls' := [some (.inr (.inr (9, 0))), some (.inl r), some (.inl m), some (.inl n)]) (st' := [.inl (-4)]) (σ' := σ) 1 rfl ?_
          exact zX_ret rfl rfl (h8 a4 a5 a9 a10 a14 a15 a16)
-- X9_gauge
theorem zm_71 {d : Nat} {σ : zS} {Q : Option zV → zS → Prop} {r : Int} {m : Int} {n : Int}
    (o1 : ¬ r < 0 → ¬ 6 < r → ¬ m < 0 → ¬ 95 < m → ¬ n < 0 → ¬ 99999 < n → σ.1 8 0 5 < 40 → 0 ≤ zW ((zW (r * 96)) + m) ∧ zW ((zW (r * 96)) + m) < 672)
    (h1 : r < 0 → Q (some (.inl (-2))) σ)
    (h2 : ¬ r < 0 → 6 < r → Q (some (.inl (-2))) σ)
    (h3 : ¬ r < 0 → ¬ 6 < r → m < 0 → Q (some (.inl (-2))) σ)
    (h4 : ¬ r < 0 → ¬ 6 < r → ¬ m < 0 → 95 < m → Q (some (.inl (-2))) σ)
    (h5 : ¬ r < 0 → ¬ 6 < r → ¬ m < 0 → ¬ 95 < m → n < 0 → Q (some (.inl (-2))) σ)
    (h6 : ¬ r < 0 → ¬ 6 < r → ¬ m < 0 → ¬ 95 < m → ¬ n < 0 → 99999 < n → Q (some (.inl (-2))) σ)
    (h7 : ¬ r < 0 → ¬ 6 < r → ¬ m < 0 → ¬ 95 < m → ¬ n < 0 → ¬ 99999 < n → σ.1 8 0 5 < 40 → Q (some (.inl (σ.1 8 0 5))) (zU (zU (zU σ 37 0 ((zW ((zW (r * 96)) + m)).toNat) n) 0 0 4 1) 8 0 5 (zW ((σ.1 8 0 5) + 1))))
    (h8 : ¬ r < 0 → ¬ 6 < r → ¬ m < 0 → ¬ 95 < m → ¬ n < 0 → ¬ 99999 < n → ¬ σ.1 8 0 5 < 40 → Q (some (.inl (-4))) σ) :
    zM (d + 2) 71 [.inr (.inr (9, 0)), .inl r, .inl m, .inl n] σ Q := by
  refine zX_run (n' := 1) (ls' := [some (.inr (.inr (9, 0))), some (.inl r), some (.inl m), some (.inl n)]) (st' := [.inl r]) (σ' := σ) 1 rfl ?_
  refine zX_call rfl rfl ?_
  refine zm_105 (fun a1 => ?_) (fun a2 a3 => ?_) (fun a4 a5 => ?_)
  · skip
    refine zX_run (n' := 12) (ls' := [some (.inr (.inr (9, 0))), some (.inl r), some (.inl m), some (.inl n)]) (st' := [.inl (-2)]) (σ' := σ) 2 rfl ?_
    exact zX_ret rfl rfl (h1 a1)
  · skip
    refine zX_run (n' := 12) (ls' := [some (.inr (.inr (9, 0))), some (.inl r), some (.inl m), some (.inl n)]) (st' := [.inl (-2)]) (σ' := σ) 2 rfl ?_
    exact zX_ret rfl rfl (h2 a2 a3)
  · skip
    refine zX_run (n' := 4) (ls' := [some (.inr (.inr (9, 0))), some (.inl r), some (.inl m), some (.inl n)]) (st' := [.inl m]) (σ' := σ) 2 rfl ?_
    refine zX_call rfl rfl ?_
    refine zm_106 (fun a6 => ?_) (fun a7 a8 => ?_) (fun a9 a10 => ?_)
    · skip
      refine zX_run (n' := 12) (ls' := [some (.inr (.inr (9, 0))), some (.inl r), some (.inl m), some (.inl n)]) (st' := [.inl (-2)]) (σ' := σ) 2 rfl ?_
      exact zX_ret rfl rfl (h3 a4 a5 a6)
    · skip
      refine zX_run (n' := 12) (ls' := [some (.inr (.inr (9, 0))), some (.inl r), some (.inl m), some (.inl n)]) (st' := [.inl (-2)]) (σ' := σ) 2 rfl ?_
      exact zX_ret rfl rfl (h4 a4 a5 a7 a8)
    · skip
      refine zX_run (n' := 9) (ls' := [some (.inr (.inr (9, 0))), some (.inl r), some (.inl m), some (.inl n)]) (st' := [.inl 99999, .inl 0, .inl n]) (σ' := σ) 4 rfl ?_
      refine zX_call rfl rfl ?_
      refine zm_104 (fun a11 => ?_) (fun a12 a13 => ?_) (fun a14 a15 => ?_)
      · skip
        refine zX_run (n' := 12) (ls' := [some (.inr (.inr (9, 0))), some (.inl r), some (.inl m), some (.inl n)]) (st' := [.inl (-2)]) (σ' := σ) 2 rfl ?_
        exact zX_ret rfl rfl (h5 a4 a5 a9 a10 a11)
      · skip
        refine zX_run (n' := 12) (ls' := [some (.inr (.inr (9, 0))), some (.inl r), some (.inl m), some (.inl n)]) (st' := [.inl (-2)]) (σ' := σ) 2 rfl ?_
        exact zX_ret rfl rfl (h6 a4 a5 a9 a10 a12 a13)
      · skip
        refine zX_run (n' := 17) (ls' := [some (.inr (.inr (9, 0))), some (.inl r), some (.inl m), some (.inl n)]) (st' := [.inl 40, .inl (σ.1 8 0 5)]) (σ' := σ) 5 rfl ?_
        refine zX_c2 rfl (fun a16 => ?_) (fun a16 => ?_)
        · skip
          refine zX_run (n' := 29) (ls' := [some (.inr (.inr (9, 0))), some (.inl r), some (.inl m), some (.inl n)]) (st' := [.inl n, .inl (zW ((zW (r * 96)) + m)), .inr (.inr (37, 0))]) (σ' := σ) 9 rfl ?_
          refine zX_ast1 (L := 672) rfl (by decide) rfl (o1 a4 a5 a9 a10 a14 a15 a16) ?_
          refine zX_run (n' := 42) (ls' := [some (.inr (.inr (9, 0))), some (.inl r), some (.inl m), some (.inl n)]) (st' := [.inl (σ.1 8 0 5)]) (σ' := (zU (zU (zU σ 37 0 ((zW ((zW (r * 96)) + m)).toNat) n) 0 0 4 1) 8 0 5 (zW ((σ.1 8 0 5) + 1)))) 12 rfl ?_
          exact zX_ret rfl rfl (h7 a4 a5 a9 a10 a14 a15 a16)
        · skip
          refine zX_run (n' := 19) (ls' := [some (.inr (.inr (9, 0))), some (.inl r), some (.inl m), some (.inl n)]) (st' := [.inl (-4)]) (σ' := σ) 1 rfl ?_
          exact zX_ret rfl rfl (h8 a4 a5 a9 a10 a14 a15 a16)
-- X1_become
theorem zm_25 {d : Nat} {σ : zS} {Q : Option zV → zS → Prop} {g : Nat} {k : Int} {s : Int} {r : Int} {n : Int} {e : Int}
    (h1 : Q (none) (zU (zU (zU (zU (zU (zU (zU σ 1 g 0 k) 1 g 1 s) 1 g 2 r) 1 g 3 n) 1 g 4 e) 1 g 5 0) 1 g 6 96)) :
    zM d 25 [.inr (.inr (1, g)), .inl k, .inl s, .inl r, .inl n, .inl e] σ Q := by
  refine zX_run (n' := 21) (ls' := [some (.inr (.inr (1, g))), some (.inl k), some (.inl s), some (.inl r), some (.inl n), some (.inl e)]) (st' := []) (σ' := (zU (zU (zU (zU (zU (zU (zU σ 1 g 0 k) 1 g 1 s) 1 g 2 r) 1 g 3 n) 1 g 4 e) 1 g 5 0) 1 g 6 96)) 21 rfl ?_
  exact zX_ret0 rfl rfl h1
-- X1_isInForce
theorem zm_26 {d : Nat} {σ : zS} {Q : Option zV → zS → Prop} {g : Nat} {m : Int}
    (h1 : m < σ.1 1 g 5 → Q (some (.inl 0)) σ)
    (h2 : ¬ m < σ.1 1 g 5 → σ.1 1 g 6 ≤ m → Q (some (.inl 0)) σ)
    (h3 : ¬ m < σ.1 1 g 5 → ¬ σ.1 1 g 6 ≤ m → Q (some (.inl 1)) σ) :
    zM d 26 [.inr (.inr (1, g)), .inl m] σ Q := by
  refine zX_run (n' := 3) (ls' := [some (.inr (.inr (1, g))), some (.inl m)]) (st' := [.inl (σ.1 1 g 5), .inl m]) (σ' := σ) 3 rfl ?_
  refine zX_c2 rfl (fun a1 => ?_) (fun a1 => ?_)
  · skip
    refine zX_run (n' := 11) (ls' := [some (.inr (.inr (1, g))), some (.inl m)]) (st' := [.inl 0]) (σ' := σ) 1 rfl ?_
    exact zX_ret rfl rfl (h1 a1)
  · skip
    refine zX_run (n' := 7) (ls' := [some (.inr (.inr (1, g))), some (.inl m)]) (st' := [.inl (σ.1 1 g 6), .inl m]) (σ' := σ) 3 rfl ?_
    refine zX_c3 rfl (fun a2 => ?_) (fun a2 => ?_)
    · skip
      refine zX_run (n' := 11) (ls' := [some (.inr (.inr (1, g))), some (.inl m)]) (st' := [.inl 0]) (σ' := σ) 1 rfl ?_
      exact zX_ret rfl rfl (h2 a1 a2)
    · skip
      refine zX_run (n' := 11) (ls' := [some (.inr (.inr (1, g))), some (.inl m)]) (st' := [.inl 1]) (σ' := σ) 2 rfl ?_
      exact zX_ret rfl rfl (h3 a1 a2)
