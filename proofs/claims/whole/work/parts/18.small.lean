-- the small checks of the class and of the reference
theorem zt_within {d : Nat} {v lo hi : Int} {σ : zS} {Q : Option zV → zS → Prop} (h : Q (some (.inl (if lo ≤ v ∧ v ≤ hi then 1 else 0))) σ) : zM d 104 [.inl v, .inl lo, .inl hi] σ Q := by
  repeat' first
    | refine zX_ret rfl rfl ?_
    | refine zX_one rfl ?_
    | refine zX_if rfl (fun _ => ?_) (fun _ => ?_)
  all_goals (refine zQ_i h ?_; simp_all [zC2, rvZ, zW]; try omega)
theorem zt_isReach {d : Nat} {v : Int} {σ : zS} {Q : Option zV → zS → Prop} (h : Q (some (.inl (if 0 ≤ v ∧ v ≤ 6 then 1 else 0))) σ) : zM (d + 1) 105 [.inl v] σ Q := by
  refine zX_run 3 rfl ?_
  refine zX_call rfl rfl ?_
  refine zt_within ?_
  refine zX_ret rfl ?_ ?_
  · sorry
  · exact h
theorem zt_side {d : Nat} {r m n : Int} {σ : zS} {Q : Option zV → zS → Prop} : zM (d + 2) 68 [.inr (.inr (9, 0)), .inl r, .inl m, .inl n] σ Q := by
  refine zX_run 1 rfl ?_
  refine zX_call rfl rfl ?_
  refine zt_isReach ?_
  refine zX_if rfl (fun _ => ?_) (fun _ => ?_)
  · trace_state
    sorry
  · trace_state
    sorry
