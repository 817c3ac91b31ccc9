-- the reference works texts (wip/whole/gen/laws21.py)
-- X10_valueOf
theorem zb_154 {d : Nat} {σ : zS} {Q : Option zV → zS → Prop} {c : Int} {p : Int} {m : Int}
    (o1 : c < 0 ∨ 4 < c → (0 : Int) ≤ p ∧ p < (17 : Int))
    (o2 : c = 2 → 0 ≤ p ∧ p < 17)
    (o3 : c = 3 → 0 ≤ m ∧ m < 96)
    (o4 : c = 4 → (0 : Int) ≤ p ∧ p < (17 : Int))
    (o5 : c = 4 → (0 : Int) ≤ zW ((zW (7 * m)) + (σ.1 62 0 (p.toNat))) ∧ zW ((zW (7 * m)) + (σ.1 62 0 (p.toNat))) < (672 : Int))
    (h1 : c < 0 ∨ 4 < c → Q (some (.inl (σ.1 61 0 (p.toNat)))) σ)
    (h2 : c = 0 → Q (some (.inl (zW (m - zW (zW (m.tdiv 12) * 12))))) σ)
    (h3 : c = 1 → Q (some (.inl (zW (m.tdiv 12)))) σ)
    (h4 : c = 2 → Q (some (.inl (uRank (σ.1 60 0 p.toNat) (σ.1 64 0 p.toNat)))) σ)
    (h5 : c = 3 → Q (some (.inl (uLvs (σ.1 55 0) (fun r => σ.1 87 0 (7 * m.toNat + r)) 7))) σ)
    (h6 : c = 4 → Q (some (.inl (σ.1 100 0 ((zW ((zW (7 * m)) + (σ.1 62 0 (p.toNat)))).toNat)))) σ) :
    zM (d + 2) 154 [.inr (.inr (10, 0)), .inl c, .inl p, .inl m] σ Q := by
  refine zX_run (n' := 1) (ls' := [some (.inr (.inr (10, 0))), some (.inl c), some (.inl p), some (.inl m)]) (st' := [.inl c]) (σ' := σ) 1 rfl ?_
  refine zX_sw rfl (fun a1 => ?_) ⟨fun a1 => ?_, fun a1 => ?_, fun a1 => ?_, fun a1 => ?_, fun a1 => ?_, trivial⟩
  · skip
    refine zX_run (n' := 33) (ls' := [some (.inr (.inr (10, 0))), some (.inl c), some (.inl p), some (.inl m)]) (st' := [.inl p, .inr (.inr (61, 0))]) (σ' := σ) 3 rfl ?_
    refine zX_ald1 (L := 17) rfl (by decide) rfl (o1 a1) ?_
    exact zX_ret rfl rfl (h1 a1)
  · skip
    refine zX_run (n' := 5) (ls' := [some (.inr (.inr (10, 0))), some (.inl c), some (.inl p), some (.inl m)]) (st' := [.inl (zW (m - zW (zW (m.tdiv 12) * 12)))]) (σ' := σ) 3 rfl ?_
    exact zX_ret rfl rfl (h2 a1)
  · skip
    refine zX_run (n' := 9) (ls' := [some (.inr (.inr (10, 0))), some (.inl c), some (.inl p), some (.inl m)]) (st' := [.inl (zW (m.tdiv 12))]) (σ' := σ) 3 rfl ?_
    exact zX_ret rfl rfl (h3 a1)
  · skip
    refine zX_run (n' := 12) (ls' := [some (.inr (.inr (10, 0))), some (.inl c), some (.inl p), some (.inl m)]) (st' := [.inl p, .inr (.inr (10, 0))]) (σ' := σ) 2 rfl ?_
    refine zX_call rfl rfl ?_
    refine zs_135 (o2 a1) ?_
    · skip
      exact zX_ret rfl rfl (h4 a1)
  · skip
    refine zX_run (n' := 16) (ls' := [some (.inr (.inr (10, 0))), some (.inl c), some (.inl p), some (.inl m)]) (st' := [.inl m, .inr (.inr (10, 0))]) (σ' := σ) 2 rfl ?_
    refine zX_call rfl rfl ?_
    refine zs_153 (o3 a1) ?_
    · skip
      exact zX_ret rfl rfl (h5 a1)
  · skip
    refine zX_run (n' := 26) (ls' := [some (.inr (.inr (10, 0))), some (.inl c), some (.inl p), some (.inl m)]) (st' := [.inl p, .inr (.inr (62, 0)), .inl (zW (7 * m)), .inr (.inr (100, 0))]) (σ' := σ) 8 rfl ?_
    refine zX_ald1 (L := 17) rfl (by decide) rfl (o4 a1) ?_
    refine zX_run (n' := 28) (ls' := [some (.inr (.inr (10, 0))), some (.inl c), some (.inl p), some (.inl m)]) (st' := [.inl (zW ((zW (7 * m)) + (σ.1 62 0 (p.toNat)))), .inr (.inr (100, 0))]) (σ' := σ) 1 rfl ?_
    refine zX_ald1 (L := 672) rfl (by decide) rfl (o5 a1) ?_
    exact zX_ret rfl rfl (h6 a1)
def mNm (σ : zS) (p m : Nat) (c : Int) : Int := if c = 0 then ((m % 12 : Nat) : Int) else if c = 1 then ((m / 12 : Nat) : Int) else if c = 2 then mRk σ p else if c = 3 then uLvs (σ.1 55 0) (fun r => σ.1 87 0 (7 * m + r)) 7 else if c = 4 then σ.1 100 0 (7 * m + (σ.1 62 0 p).toNat) else σ.1 61 0 p
theorem zs_154 {d : Nat} {σ : zS} {Q : Option zV → zS → Prop} {c p m : Int} (o1 : 0 ≤ p ∧ p < 17) (o2 : 0 ≤ m ∧ m < 96) (o3 : 0 ≤ σ.1 62 0 p.toNat ∧ σ.1 62 0 p.toNat < 7)
    (h : Q (some (.inl (mNm σ p.toNat m.toNat c))) σ) : zM (d + 2) 154 [.inr (.inr (10, 0)), .inl c, .inl p, .inl m] σ Q := by
  have e : zW ((zW (7 * m)) + (σ.1 62 0 p.toNat)) = ((7 * m.toNat + (σ.1 62 0 p.toNat).toNat : Nat) : Int) := by unfold zW; omega
  have e1 : zW (m - zW (zW (m.tdiv 12) * 12)) = ((m.toNat % 12 : Nat) : Int) := by
    obtain ⟨m, rfl⟩ := Int.eq_ofNat_of_zero_le o2.1
    exact zMod12 (by omega)
  have e2 : zW (m.tdiv 12) = ((m.toNat / 12 : Nat) : Int) := by
    obtain ⟨m, rfl⟩ := Int.eq_ofNat_of_zero_le o2.1
    exact zDiv12 (by omega)
  refine zb_154 (fun _ => o1) (fun _ => o1) (fun _ => o2) (fun _ => o1) (fun _ => by rw [e]; omega) (fun a => ?_) (fun a => ?_) (fun a => ?_) (fun a => ?_) (fun a => ?_) (fun a => ?_)
  · exact zQ_i h (by unfold mNm; rw [if_neg (by omega), if_neg (by omega), if_neg (by omega), if_neg (by omega), if_neg (by omega)])
  · rw [e1]; exact zQ_i h (by unfold mNm; rw [if_pos a])
  · rw [e2]; exact zQ_i h (by unfold mNm; rw [if_neg (by omega), if_pos a])
  · exact zQ_i h (by unfold mNm; rw [if_neg (by omega), if_neg (by omega), if_pos a]; rfl)
  · exact zQ_i h (by unfold mNm; rw [if_neg (by omega), if_neg (by omega), if_neg (by omega), if_pos a])
  · rw [e]; exact zQ_i h (by unfold mNm; rw [if_neg (by omega), if_neg (by omega), if_neg (by omega), if_neg (by omega), if_pos a]; rfl)
-- X10_says
theorem zb_155x {d : Nat} {σ : zS} {Q : Option zV → zS → Prop} {t p m u n e k : Int} {x y z : Option zV}
    (q1 : e ≤ k)
    (h1 : Q (some (.inl (σ.1 98 0 0))) σ) :
    zX (d + 3) 155 23 [some (.inr (.inr (10, 0))), some (.inl t), some (.inl p), some (.inl m), some (.inl u), some (.inl n), some (.inl e), some (.inl k), x, y, z] [] σ Q := by
  refine zX_run (n' := 25) (ls' := [some (.inr (.inr (10, 0))), some (.inl t), some (.inl p), some (.inl m), some (.inl u), some (.inl n), some (.inl e), some (.inl k), x, y, z]) (st' := [.inl e, .inl k]) (σ' := σ) 2 rfl ?_
  refine zX_c3 rfl (fun _ => ?_) (fun a1 => absurd a1 (by omega))
  refine zX_run (n' := 181) (ls' := [some (.inr (.inr (10, 0))), some (.inl t), some (.inl p), some (.inl m), some (.inl u), some (.inl n), some (.inl e), some (.inl k), x, y, z]) (st' := [.inl 0, .inr (.inr (98, 0))]) (σ' := σ) 3 rfl ?_
  refine zX_ald1 (L := 200) rfl (by decide) rfl (by decide) ?_
  exact zX_ret rfl rfl h1
-- X10_says
theorem zb_155h {d : Nat} {σ : zS} {Q : Option zV → zS → Prop} {t p m u n e k : Int} {x y z : Option zV}
    (q1 : k < e)
    (o1 : (0 : Int) ≤ zW ((zW (200 * t)) + k) ∧ zW ((zW (200 * t)) + k) < (1200 : Int))
    (h1 : zX (d + 3) 155 35 [some (.inr (.inr (10, 0))), some (.inl t), some (.inl p), some (.inl m), some (.inl u), some (.inl n), some (.inl e), some (.inl k), some (.inl (σ.1 71 0 ((zW ((zW (200 * t)) + k)).toNat))), y, z] [] σ Q) :
    zX (d + 3) 155 23 [some (.inr (.inr (10, 0))), some (.inl t), some (.inl p), some (.inl m), some (.inl u), some (.inl n), some (.inl e), some (.inl k), x, y, z] [] σ Q := by
  refine zX_run (n' := 25) (ls' := [some (.inr (.inr (10, 0))), some (.inl t), some (.inl p), some (.inl m), some (.inl u), some (.inl n), some (.inl e), some (.inl k), x, y, z]) (st' := [.inl e, .inl k]) (σ' := σ) 2 rfl ?_
  refine zX_c3 rfl (fun a1 => absurd a1 (by omega)) (fun _ => ?_)
  refine zX_run (n' := 33) (ls' := [some (.inr (.inr (10, 0))), some (.inl t), some (.inl p), some (.inl m), some (.inl u), some (.inl n), some (.inl e), some (.inl k), x, y, z]) (st' := [.inl (zW ((zW (200 * t)) + k)), .inr (.inr (71, 0))]) (σ' := σ) 7 rfl ?_
  refine zX_ald1 (L := 1200) rfl (by decide) rfl o1 ?_
  refine zX_run (n' := 35) (ls' := [some (.inr (.inr (10, 0))), some (.inl t), some (.inl p), some (.inl m), some (.inl u), some (.inl n), some (.inl e), some (.inl k), some (.inl (σ.1 71 0 ((zW ((zW (200 * t)) + k)).toNat))), y, z]) (st' := []) (σ' := σ) 1 rfl ?_
  exact h1
-- X10_says
theorem zb_155a {d : Nat} {σ : zS} {Q : Option zV → zS → Prop} {t p m u n e k c : Int} {y z : Option zV}
    (q1 : 100 ≤ c)
    (o1 : (0 : Int) ≤ n ∧ n < (200 : Int))
    (h1 : zX (d + 3) 155 23 [some (.inr (.inr (10, 0))), some (.inl t), some (.inl p), some (.inl m), some (.inl u), some (.inl (zW (n + 1))), some (.inl e), some (.inl (zW (k + 1))), some (.inl c), y, z] [] (zU σ 98 0 (n.toNat) (zW (c - 100))) Q) :
    zX (d + 3) 155 35 [some (.inr (.inr (10, 0))), some (.inl t), some (.inl p), some (.inl m), some (.inl u), some (.inl n), some (.inl e), some (.inl k), some (.inl c), y, z] [] σ Q := by
  refine zX_run (n' := 37) (ls' := [some (.inr (.inr (10, 0))), some (.inl t), some (.inl p), some (.inl m), some (.inl u), some (.inl n), some (.inl e), some (.inl k), some (.inl c), y, z]) (st' := [.inl 100, .inl c]) (σ' := σ) 2 rfl ?_
  refine zX_c2 rfl (fun a1 => absurd a1 (by omega)) (fun _ => ?_)
  refine zX_run (n' := 45) (ls' := [some (.inr (.inr (10, 0))), some (.inl t), some (.inl p), some (.inl m), some (.inl u), some (.inl (zW (n + 1))), some (.inl e), some (.inl k), some (.inl c), y, z]) (st' := [.inl (zW (c - 100)), .inl n, .inr (.inr (98, 0))]) (σ' := σ) 7 rfl ?_
  refine zX_ast1 (L := 200) rfl (by decide) rfl o1 ?_
  refine zX_run (n' := 23) (ls' := [some (.inr (.inr (10, 0))), some (.inl t), some (.inl p), some (.inl m), some (.inl u), some (.inl (zW (n + 1))), some (.inl e), some (.inl (zW (k + 1))), some (.inl c), y, z]) (st' := []) (σ' := (zU σ 98 0 (n.toNat) (zW (c - 100)))) 3 rfl ?_
  exact h1
-- X10_says
theorem zb_155b {d : Nat} {σ : zS} {Q : Option zV → zS → Prop} {t p m u n e k c : Int} {y z : Option zV}
    (q1 : c < 6)
    (o1 : 0 ≤ p ∧ p < 17)
    (o2 : 0 ≤ m ∧ m < 96)
    (o3 : 0 ≤ σ.1 62 0 p.toNat ∧ σ.1 62 0 p.toNat < 7)
    (o4 : (0 : Int) ≤ n ∧ n < (200 : Int))
    (h1 : zX (d + 3) 155 23 [some (.inr (.inr (10, 0))), some (.inl t), some (.inl p), some (.inl m), some (.inl u), some (.inl (zW (n + 1))), some (.inl e), some (.inl (zW (k + 1))), some (.inl c), y, z] [] (zU σ 98 0 (n.toNat) (mNm σ p.toNat m.toNat c)) Q) :
    zX (d + 3) 155 35 [some (.inr (.inr (10, 0))), some (.inl t), some (.inl p), some (.inl m), some (.inl u), some (.inl n), some (.inl e), some (.inl k), some (.inl c), y, z] [] σ Q := by
  refine zX_run (n' := 37) (ls' := [some (.inr (.inr (10, 0))), some (.inl t), some (.inl p), some (.inl m), some (.inl u), some (.inl n), some (.inl e), some (.inl k), some (.inl c), y, z]) (st' := [.inl 100, .inl c]) (σ' := σ) 2 rfl ?_
  refine zX_c2 rfl (fun _ => ?_) (fun a1 => absurd a1 (by omega))
  refine zX_run (n' := 49) (ls' := [some (.inr (.inr (10, 0))), some (.inl t), some (.inl p), some (.inl m), some (.inl u), some (.inl n), some (.inl e), some (.inl k), some (.inl c), y, z]) (st' := [.inl 6, .inl c]) (σ' := σ) 2 rfl ?_
  refine zX_c3 rfl (fun a2 => absurd a2 (by omega)) (fun _ => ?_)
  refine zX_run (n' := 58) (ls' := [some (.inr (.inr (10, 0))), some (.inl t), some (.inl p), some (.inl m), some (.inl u), some (.inl (zW (n + 1))), some (.inl e), some (.inl k), some (.inl c), y, z]) (st' := [.inl m, .inl p, .inl c, .inr (.inr (10, 0)), .inl n, .inr (.inr (98, 0))]) (σ' := σ) 8 rfl ?_
  refine zX_call rfl rfl ?_
  refine zs_154 o1 o2 o3 ?_
  · skip
    refine zX_ast1 (L := 200) rfl (by decide) rfl o4 ?_
    refine zX_run (n' := 23) (ls' := [some (.inr (.inr (10, 0))), some (.inl t), some (.inl p), some (.inl m), some (.inl u), some (.inl (zW (n + 1))), some (.inl e), some (.inl (zW (k + 1))), some (.inl c), y, z]) (st' := []) (σ' := (zU σ 98 0 (n.toNat) (mNm σ p.toNat m.toNat c))) 3 rfl ?_
    exact h1
-- X10_says
theorem zb_155c {d : Nat} {σ : zS} {Q : Option zV → zS → Prop} {t p m u n e k c : Int} {y z : Option zV}
    (q1 : c = 12)
    (o1 : (0 : Int) ≤ zW (n - 1) ∧ zW (n - 1) < (200 : Int))
    (h1 : ¬ σ.1 98 0 ((zW (n - 1)).toNat) = 0 → zX (d + 3) 155 23 [some (.inr (.inr (10, 0))), some (.inl t), some (.inl p), some (.inl m), some (.inl u), some (.inl n), some (.inl e), some (.inl (zW (k + 1))), some (.inl c), y, z] [] (zU σ 98 0 ((zW (n - 1)).toNat) 0) Q)
    (h2 : σ.1 98 0 ((zW (n - 1)).toNat) = 0 → zX (d + 3) 155 23 [some (.inr (.inr (10, 0))), some (.inl t), some (.inl p), some (.inl m), some (.inl u), some (.inl n), some (.inl e), some (.inl (zW (k + 1))), some (.inl c), y, z] [] (zU σ 98 0 ((zW (n - 1)).toNat) 1) Q) :
    zX (d + 3) 155 35 [some (.inr (.inr (10, 0))), some (.inl t), some (.inl p), some (.inl m), some (.inl u), some (.inl n), some (.inl e), some (.inl k), some (.inl c), y, z] [] σ Q := by
  refine zX_run (n' := 37) (ls' := [some (.inr (.inr (10, 0))), some (.inl t), some (.inl p), some (.inl m), some (.inl u), some (.inl n), some (.inl e), some (.inl k), some (.inl c), y, z]) (st' := [.inl 100, .inl c]) (σ' := σ) 2 rfl ?_
  refine zX_c2 rfl (fun _ => ?_) (fun a1 => absurd a1 (by omega))
  refine zX_run (n' := 49) (ls' := [some (.inr (.inr (10, 0))), some (.inl t), some (.inl p), some (.inl m), some (.inl u), some (.inl n), some (.inl e), some (.inl k), some (.inl c), y, z]) (st' := [.inl 6, .inl c]) (σ' := σ) 2 rfl ?_
  refine zX_c3 rfl (fun _ => ?_) (fun a2 => absurd a2 (by omega))
  refine zX_run (n' := 63) (ls' := [some (.inr (.inr (10, 0))), some (.inl t), some (.inl p), some (.inl m), some (.inl u), some (.inl n), some (.inl e), some (.inl k), some (.inl c), y, z]) (st' := [.inl 12, .inl c]) (σ' := σ) 2 rfl ?_
  refine zX_c1 rfl (fun a3 => absurd a3 (by omega)) (fun _ => ?_)
  refine zX_run (n' := 74) (ls' := [some (.inr (.inr (10, 0))), some (.inl t), some (.inl p), some (.inl m), some (.inl u), some (.inl n), some (.inl e), some (.inl k), some (.inl c), y, z]) (st' := [.inl (zW (n - 1)), .inr (.inr (98, 0)), .inl (zW (n - 1)), .inr (.inr (98, 0))]) (σ' := σ) 10 rfl ?_
  refine zX_ald1 (L := 200) rfl (by decide) rfl o1 ?_
  refine zX_i1 rfl (fun a4 => ?_) (fun a4 => ?_)
  · skip
    refine zX_run (n' := 79) (ls' := [some (.inr (.inr (10, 0))), some (.inl t), some (.inl p), some (.inl m), some (.inl u), some (.inl n), some (.inl e), some (.inl k), some (.inl c), y, z]) (st' := [.inl 0, .inl (zW (n - 1)), .inr (.inr (98, 0))]) (σ' := σ) 1 rfl ?_
    refine zX_ast1 (L := 200) rfl (by decide) rfl o1 ?_
    refine zX_run (n' := 23) (ls' := [some (.inr (.inr (10, 0))), some (.inl t), some (.inl p), some (.inl m), some (.inl u), some (.inl n), some (.inl e), some (.inl (zW (k + 1))), some (.inl c), y, z]) (st' := []) (σ' := (zU σ 98 0 ((zW (n - 1)).toNat) 0)) 3 rfl ?_
    exact h1 a4
  · skip
    refine zX_run (n' := 79) (ls' := [some (.inr (.inr (10, 0))), some (.inl t), some (.inl p), some (.inl m), some (.inl u), some (.inl n), some (.inl e), some (.inl k), some (.inl c), y, z]) (st' := [.inl 1, .inl (zW (n - 1)), .inr (.inr (98, 0))]) (σ' := σ) 2 rfl ?_
    refine zX_ast1 (L := 200) rfl (by decide) rfl o1 ?_
    refine zX_run (n' := 23) (ls' := [some (.inr (.inr (10, 0))), some (.inl t), some (.inl p), some (.inl m), some (.inl u), some (.inl n), some (.inl e), some (.inl (zW (k + 1))), some (.inl c), y, z]) (st' := []) (σ' := (zU σ 98 0 ((zW (n - 1)).toNat) 1)) 3 rfl ?_
    exact h2 a4
-- X10_says
theorem zb_155d {d : Nat} {σ : zS} {Q : Option zV → zS → Prop} {t p m u n e k c : Int} {y z : Option zV}
    (q1 : c = 18)
    (o1 : (0 : Int) ≤ zW (n - 1) ∧ zW (n - 1) < (200 : Int))
    (h1 : zX (d + 3) 155 23 [some (.inr (.inr (10, 0))), some (.inl t), some (.inl p), some (.inl m), some (.inl u), some (.inl n), some (.inl e), some (.inl (zW (k + 1))), some (.inl c), y, z] [] (zU σ 98 0 ((zW (n - 1)).toNat) (zW (-(σ.1 98 0 ((zW (n - 1)).toNat))))) Q) :
    zX (d + 3) 155 35 [some (.inr (.inr (10, 0))), some (.inl t), some (.inl p), some (.inl m), some (.inl u), some (.inl n), some (.inl e), some (.inl k), some (.inl c), y, z] [] σ Q := by
  refine zX_run (n' := 37) (ls' := [some (.inr (.inr (10, 0))), some (.inl t), some (.inl p), some (.inl m), some (.inl u), some (.inl n), some (.inl e), some (.inl k), some (.inl c), y, z]) (st' := [.inl 100, .inl c]) (σ' := σ) 2 rfl ?_
  refine zX_c2 rfl (fun _ => ?_) (fun a1 => absurd a1 (by omega))
  refine zX_run (n' := 49) (ls' := [some (.inr (.inr (10, 0))), some (.inl t), some (.inl p), some (.inl m), some (.inl u), some (.inl n), some (.inl e), some (.inl k), some (.inl c), y, z]) (st' := [.inl 6, .inl c]) (σ' := σ) 2 rfl ?_
  refine zX_c3 rfl (fun _ => ?_) (fun a2 => absurd a2 (by omega))
  refine zX_run (n' := 63) (ls' := [some (.inr (.inr (10, 0))), some (.inl t), some (.inl p), some (.inl m), some (.inl u), some (.inl n), some (.inl e), some (.inl k), some (.inl c), y, z]) (st' := [.inl 12, .inl c]) (σ' := σ) 2 rfl ?_
  refine zX_c1 rfl (fun _ => ?_) (fun a3 => absurd a3 (by omega))
  refine zX_run (n' := 83) (ls' := [some (.inr (.inr (10, 0))), some (.inl t), some (.inl p), some (.inl m), some (.inl u), some (.inl n), some (.inl e), some (.inl k), some (.inl c), y, z]) (st' := [.inl 18, .inl c]) (σ' := σ) 2 rfl ?_
  refine zX_c1 rfl (fun a4 => absurd a4 (by omega)) (fun _ => ?_)
  refine zX_run (n' := 94) (ls' := [some (.inr (.inr (10, 0))), some (.inl t), some (.inl p), some (.inl m), some (.inl u), some (.inl n), some (.inl e), some (.inl k), some (.inl c), y, z]) (st' := [.inl (zW (n - 1)), .inr (.inr (98, 0)), .inl (zW (n - 1)), .inr (.inr (98, 0))]) (σ' := σ) 10 rfl ?_
  refine zX_ald1 (L := 200) rfl (by decide) rfl o1 ?_
  refine zX_run (n' := 96) (ls' := [some (.inr (.inr (10, 0))), some (.inl t), some (.inl p), some (.inl m), some (.inl u), some (.inl n), some (.inl e), some (.inl k), some (.inl c), y, z]) (st' := [.inl (zW (-(σ.1 98 0 ((zW (n - 1)).toNat)))), .inl (zW (n - 1)), .inr (.inr (98, 0))]) (σ' := σ) 1 rfl ?_
  refine zX_ast1 (L := 200) rfl (by decide) rfl o1 ?_
  refine zX_run (n' := 23) (ls' := [some (.inr (.inr (10, 0))), some (.inl t), some (.inl p), some (.inl m), some (.inl u), some (.inl n), some (.inl e), some (.inl (zW (k + 1))), some (.inl c), y, z]) (st' := []) (σ' := (zU σ 98 0 ((zW (n - 1)).toNat) (zW (-(σ.1 98 0 ((zW (n - 1)).toNat)))))) 3 rfl ?_
  exact h1
-- X10_says
theorem zb_155e {d : Nat} {σ : zS} {Q : Option zV → zS → Prop} {t p m u n e k c : Int} {y z : Option zV}
    (q1 : 6 ≤ c ∧ c < 100 ∧ ¬ c = 12 ∧ ¬ c = 18)
    (o1 : (0 : Int) ≤ zW ((zW (n + (-1))) - 1) ∧ zW ((zW (n + (-1))) - 1) < (200 : Int))
    (o2 : (0 : Int) ≤ zW (n + (-1)) ∧ zW (n + (-1)) < (200 : Int))
    (h1 : ¬ c = 10 → ¬ c = 11 → ¬ c = 13 → ¬ c = 14 → ¬ c = 15 → ¬ c = 16 → zX (d + 3) 155 23 [some (.inr (.inr (10, 0))), some (.inl t), some (.inl p), some (.inl m), some (.inl u), some (.inl (zW (n + (-1)))), some (.inl e), some (.inl (zW (k + 1))), some (.inl c), some (.inl (σ.1 98 0 ((zW ((zW (n + (-1))) - 1)).toNat))), some (.inl (σ.1 98 0 ((zW (n + (-1))).toNat)))] [] (zU σ 98 0 ((zW ((zW (n + (-1))) - 1)).toNat) (zW ((σ.1 98 0 ((zW ((zW (n + (-1))) - 1)).toNat)) * (σ.1 98 0 ((zW (n + (-1))).toNat))))) Q)
    (h2 : ¬ c = 10 → ¬ c = 11 → ¬ c = 13 → ¬ c = 14 → ¬ c = 15 → c = 16 → zX (d + 3) 155 23 [some (.inr (.inr (10, 0))), some (.inl t), some (.inl p), some (.inl m), some (.inl u), some (.inl (zW (n + (-1)))), some (.inl e), some (.inl (zW (k + 1))), some (.inl c), some (.inl (σ.1 98 0 ((zW ((zW (n + (-1))) - 1)).toNat))), some (.inl (σ.1 98 0 ((zW (n + (-1))).toNat)))] [] (zU σ 98 0 ((zW ((zW (n + (-1))) - 1)).toNat) (zW ((σ.1 98 0 ((zW ((zW (n + (-1))) - 1)).toNat)) - (σ.1 98 0 ((zW (n + (-1))).toNat))))) Q)
    (h3 : ¬ c = 10 → ¬ c = 11 → ¬ c = 13 → ¬ c = 14 → c = 15 → zX (d + 3) 155 23 [some (.inr (.inr (10, 0))), some (.inl t), some (.inl p), some (.inl m), some (.inl u), some (.inl (zW (n + (-1)))), some (.inl e), some (.inl (zW (k + 1))), some (.inl c), some (.inl (σ.1 98 0 ((zW ((zW (n + (-1))) - 1)).toNat))), some (.inl (σ.1 98 0 ((zW (n + (-1))).toNat)))] [] (zU σ 98 0 ((zW ((zW (n + (-1))) - 1)).toNat) (zW ((σ.1 98 0 ((zW ((zW (n + (-1))) - 1)).toNat)) + (σ.1 98 0 ((zW (n + (-1))).toNat))))) Q)
    (h4 : ¬ c = 10 → ¬ c = 11 → ¬ c = 13 → c = 14 → ¬ σ.1 98 0 ((zW ((zW (n + (-1))) - 1)).toNat) = σ.1 98 0 ((zW (n + (-1))).toNat) → zX (d + 3) 155 23 [some (.inr (.inr (10, 0))), some (.inl t), some (.inl p), some (.inl m), some (.inl u), some (.inl (zW (n + (-1)))), some (.inl e), some (.inl (zW (k + 1))), some (.inl c), some (.inl (σ.1 98 0 ((zW ((zW (n + (-1))) - 1)).toNat))), some (.inl (σ.1 98 0 ((zW (n + (-1))).toNat)))] [] (zU σ 98 0 ((zW ((zW (n + (-1))) - 1)).toNat) 0) Q)
    (h5 : ¬ c = 10 → ¬ c = 11 → ¬ c = 13 → c = 14 → σ.1 98 0 ((zW ((zW (n + (-1))) - 1)).toNat) = σ.1 98 0 ((zW (n + (-1))).toNat) → zX (d + 3) 155 23 [some (.inr (.inr (10, 0))), some (.inl t), some (.inl p), some (.inl m), some (.inl u), some (.inl (zW (n + (-1)))), some (.inl e), some (.inl (zW (k + 1))), some (.inl c), some (.inl (σ.1 98 0 ((zW ((zW (n + (-1))) - 1)).toNat))), some (.inl (σ.1 98 0 ((zW (n + (-1))).toNat)))] [] (zU σ 98 0 ((zW ((zW (n + (-1))) - 1)).toNat) 1) Q)
    (h6 : ¬ c = 10 → ¬ c = 11 → c = 13 → σ.1 98 0 ((zW (n + (-1))).toNat) ≤ σ.1 98 0 ((zW ((zW (n + (-1))) - 1)).toNat) → zX (d + 3) 155 23 [some (.inr (.inr (10, 0))), some (.inl t), some (.inl p), some (.inl m), some (.inl u), some (.inl (zW (n + (-1)))), some (.inl e), some (.inl (zW (k + 1))), some (.inl c), some (.inl (σ.1 98 0 ((zW ((zW (n + (-1))) - 1)).toNat))), some (.inl (σ.1 98 0 ((zW (n + (-1))).toNat)))] [] (zU σ 98 0 ((zW ((zW (n + (-1))) - 1)).toNat) 0) Q)
    (h7 : ¬ c = 10 → ¬ c = 11 → c = 13 → ¬ σ.1 98 0 ((zW (n + (-1))).toNat) ≤ σ.1 98 0 ((zW ((zW (n + (-1))) - 1)).toNat) → zX (d + 3) 155 23 [some (.inr (.inr (10, 0))), some (.inl t), some (.inl p), some (.inl m), some (.inl u), some (.inl (zW (n + (-1)))), some (.inl e), some (.inl (zW (k + 1))), some (.inl c), some (.inl (σ.1 98 0 ((zW ((zW (n + (-1))) - 1)).toNat))), some (.inl (σ.1 98 0 ((zW (n + (-1))).toNat)))] [] (zU σ 98 0 ((zW ((zW (n + (-1))) - 1)).toNat) 1) Q)
    (h8 : ¬ c = 10 → c = 11 → σ.1 98 0 ((zW ((zW (n + (-1))) - 1)).toNat) = 0 → zX (d + 3) 155 23 [some (.inr (.inr (10, 0))), some (.inl t), some (.inl p), some (.inl m), some (.inl u), some (.inl (zW (n + (-1)))), some (.inl e), some (.inl (zW (k + 1))), some (.inl c), some (.inl (σ.1 98 0 ((zW ((zW (n + (-1))) - 1)).toNat))), some (.inl (σ.1 98 0 ((zW (n + (-1))).toNat)))] [] (zU σ 98 0 ((zW ((zW (n + (-1))) - 1)).toNat) 0) Q)
    (h9 : ¬ c = 10 → c = 11 → ¬ σ.1 98 0 ((zW ((zW (n + (-1))) - 1)).toNat) = 0 → σ.1 98 0 ((zW (n + (-1))).toNat) = 0 → zX (d + 3) 155 23 [some (.inr (.inr (10, 0))), some (.inl t), some (.inl p), some (.inl m), some (.inl u), some (.inl (zW (n + (-1)))), some (.inl e), some (.inl (zW (k + 1))), some (.inl c), some (.inl (σ.1 98 0 ((zW ((zW (n + (-1))) - 1)).toNat))), some (.inl (σ.1 98 0 ((zW (n + (-1))).toNat)))] [] (zU σ 98 0 ((zW ((zW (n + (-1))) - 1)).toNat) 0) Q)
    (h10 : ¬ c = 10 → c = 11 → ¬ σ.1 98 0 ((zW ((zW (n + (-1))) - 1)).toNat) = 0 → ¬ σ.1 98 0 ((zW (n + (-1))).toNat) = 0 → zX (d + 3) 155 23 [some (.inr (.inr (10, 0))), some (.inl t), some (.inl p), some (.inl m), some (.inl u), some (.inl (zW (n + (-1)))), some (.inl e), some (.inl (zW (k + 1))), some (.inl c), some (.inl (σ.1 98 0 ((zW ((zW (n + (-1))) - 1)).toNat))), some (.inl (σ.1 98 0 ((zW (n + (-1))).toNat)))] [] (zU σ 98 0 ((zW ((zW (n + (-1))) - 1)).toNat) 1) Q)
    (h11 : c = 10 → ¬ σ.1 98 0 ((zW ((zW (n + (-1))) - 1)).toNat) = 0 → zX (d + 3) 155 23 [some (.inr (.inr (10, 0))), some (.inl t), some (.inl p), some (.inl m), some (.inl u), some (.inl (zW (n + (-1)))), some (.inl e), some (.inl (zW (k + 1))), some (.inl c), some (.inl (σ.1 98 0 ((zW ((zW (n + (-1))) - 1)).toNat))), some (.inl (σ.1 98 0 ((zW (n + (-1))).toNat)))] [] (zU σ 98 0 ((zW ((zW (n + (-1))) - 1)).toNat) 1) Q)
    (h12 : c = 10 → σ.1 98 0 ((zW ((zW (n + (-1))) - 1)).toNat) = 0 → σ.1 98 0 ((zW (n + (-1))).toNat) = 0 → zX (d + 3) 155 23 [some (.inr (.inr (10, 0))), some (.inl t), some (.inl p), some (.inl m), some (.inl u), some (.inl (zW (n + (-1)))), some (.inl e), some (.inl (zW (k + 1))), some (.inl c), some (.inl (σ.1 98 0 ((zW ((zW (n + (-1))) - 1)).toNat))), some (.inl (σ.1 98 0 ((zW (n + (-1))).toNat)))] [] (zU σ 98 0 ((zW ((zW (n + (-1))) - 1)).toNat) 0) Q)
    (h13 : c = 10 → σ.1 98 0 ((zW ((zW (n + (-1))) - 1)).toNat) = 0 → ¬ σ.1 98 0 ((zW (n + (-1))).toNat) = 0 → zX (d + 3) 155 23 [some (.inr (.inr (10, 0))), some (.inl t), some (.inl p), some (.inl m), some (.inl u), some (.inl (zW (n + (-1)))), some (.inl e), some (.inl (zW (k + 1))), some (.inl c), some (.inl (σ.1 98 0 ((zW ((zW (n + (-1))) - 1)).toNat))), some (.inl (σ.1 98 0 ((zW (n + (-1))).toNat)))] [] (zU σ 98 0 ((zW ((zW (n + (-1))) - 1)).toNat) 1) Q) :
    zX (d + 3) 155 35 [some (.inr (.inr (10, 0))), some (.inl t), some (.inl p), some (.inl m), some (.inl u), some (.inl n), some (.inl e), some (.inl k), some (.inl c), y, z] [] σ Q := by
  refine zX_run (n' := 37) (ls' := [some (.inr (.inr (10, 0))), some (.inl t), some (.inl p), some (.inl m), some (.inl u), some (.inl n), some (.inl e), some (.inl k), some (.inl c), y, z]) (st' := [.inl 100, .inl c]) (σ' := σ) 2 rfl ?_
  refine zX_c2 rfl (fun _ => ?_) (fun a1 => absurd a1 (by clear h1 h2 h3 h4 h5 h6 h7 h8 h9 h10 h11 h12 h13 o1 o2; omega))
  refine zX_run (n' := 49) (ls' := [some (.inr (.inr (10, 0))), some (.inl t), some (.inl p), some (.inl m), some (.inl u), some (.inl n), some (.inl e), some (.inl k), some (.inl c), y, z]) (st' := [.inl 6, .inl c]) (σ' := σ) 2 rfl ?_
  refine zX_c3 rfl (fun _ => ?_) (fun a2 => absurd a2 (by clear h1 h2 h3 h4 h5 h6 h7 h8 h9 h10 h11 h12 h13 o1 o2; omega))
  refine zX_run (n' := 63) (ls' := [some (.inr (.inr (10, 0))), some (.inl t), some (.inl p), some (.inl m), some (.inl u), some (.inl n), some (.inl e), some (.inl k), some (.inl c), y, z]) (st' := [.inl 12, .inl c]) (σ' := σ) 2 rfl ?_
  refine zX_c1 rfl (fun _ => ?_) (fun a3 => absurd a3 (by clear h1 h2 h3 h4 h5 h6 h7 h8 h9 h10 h11 h12 h13 o1 o2; omega))
  refine zX_run (n' := 83) (ls' := [some (.inr (.inr (10, 0))), some (.inl t), some (.inl p), some (.inl m), some (.inl u), some (.inl n), some (.inl e), some (.inl k), some (.inl c), y, z]) (st' := [.inl 18, .inl c]) (σ' := σ) 2 rfl ?_
  refine zX_c1 rfl (fun _ => ?_) (fun a4 => absurd a4 (by clear h1 h2 h3 h4 h5 h6 h7 h8 h9 h10 h11 h12 h13 o1 o2; omega))
  refine zX_run (n' := 104) (ls' := [some (.inr (.inr (10, 0))), some (.inl t), some (.inl p), some (.inl m), some (.inl u), some (.inl (zW (n + (-1)))), some (.inl e), some (.inl k), some (.inl c), y, z]) (st' := [.inl (zW ((zW (n + (-1))) - 1)), .inr (.inr (98, 0))]) (σ' := σ) 6 rfl ?_
  refine zX_ald1 (L := 200) rfl (by decide) rfl o1 ?_
  refine zX_run (n' := 109) (ls' := [some (.inr (.inr (10, 0))), some (.inl t), some (.inl p), some (.inl m), some (.inl u), some (.inl (zW (n + (-1)))), some (.inl e), some (.inl k), some (.inl c), some (.inl (σ.1 98 0 ((zW ((zW (n + (-1))) - 1)).toNat))), z]) (st' := [.inl (zW (n + (-1))), .inr (.inr (98, 0))]) (σ' := σ) 4 rfl ?_
  refine zX_ald1 (L := 200) rfl (by decide) rfl o2 ?_
  refine zX_run (n' := 118) (ls' := [some (.inr (.inr (10, 0))), some (.inl t), some (.inl p), some (.inl m), some (.inl u), some (.inl (zW (n + (-1)))), some (.inl e), some (.inl k), some (.inl c), some (.inl (σ.1 98 0 ((zW ((zW (n + (-1))) - 1)).toNat))), some (.inl (σ.1 98 0 ((zW (n + (-1))).toNat)))]) (st' := [.inl 10, .inl c, .inl (zW ((zW (n + (-1))) - 1)), .inr (.inr (98, 0))]) (σ' := σ) 8 rfl ?_
  refine zX_c1 rfl (fun a5 => ?_) (fun a5 => ?_)
  · skip
    refine zX_run (n' := 129) (ls' := [some (.inr (.inr (10, 0))), some (.inl t), some (.inl p), some (.inl m), some (.inl u), some (.inl (zW (n + (-1)))), some (.inl e), some (.inl k), some (.inl c), some (.inl (σ.1 98 0 ((zW ((zW (n + (-1))) - 1)).toNat))), some (.inl (σ.1 98 0 ((zW (n + (-1))).toNat)))]) (st' := [.inl 11, .inl c, .inl (zW ((zW (n + (-1))) - 1)), .inr (.inr (98, 0))]) (σ' := σ) 2 rfl ?_
    refine zX_c1 rfl (fun a6 => ?_) (fun a6 => ?_)
    · skip
      refine zX_run (n' := 140) (ls' := [some (.inr (.inr (10, 0))), some (.inl t), some (.inl p), some (.inl m), some (.inl u), some (.inl (zW (n + (-1)))), some (.inl e), some (.inl k), some (.inl c), some (.inl (σ.1 98 0 ((zW ((zW (n + (-1))) - 1)).toNat))), some (.inl (σ.1 98 0 ((zW (n + (-1))).toNat)))]) (st' := [.inl 13, .inl c, .inl (zW ((zW (n + (-1))) - 1)), .inr (.inr (98, 0))]) (σ' := σ) 2 rfl ?_
      refine zX_c1 rfl (fun a7 => ?_) (fun a7 => ?_)
      · skip
        refine zX_run (n' := 150) (ls' := [some (.inr (.inr (10, 0))), some (.inl t), some (.inl p), some (.inl m), some (.inl u), some (.inl (zW (n + (-1)))), some (.inl e), some (.inl k), some (.inl c), some (.inl (σ.1 98 0 ((zW ((zW (n + (-1))) - 1)).toNat))), some (.inl (σ.1 98 0 ((zW (n + (-1))).toNat)))]) (st' := [.inl 14, .inl c, .inl (zW ((zW (n + (-1))) - 1)), .inr (.inr (98, 0))]) (σ' := σ) 2 rfl ?_
        refine zX_c1 rfl (fun a8 => ?_) (fun a8 => ?_)
        · skip
          refine zX_run (n' := 160) (ls' := [some (.inr (.inr (10, 0))), some (.inl t), some (.inl p), some (.inl m), some (.inl u), some (.inl (zW (n + (-1)))), some (.inl e), some (.inl k), some (.inl c), some (.inl (σ.1 98 0 ((zW ((zW (n + (-1))) - 1)).toNat))), some (.inl (σ.1 98 0 ((zW (n + (-1))).toNat)))]) (st' := [.inl 15, .inl c, .inl (zW ((zW (n + (-1))) - 1)), .inr (.inr (98, 0))]) (σ' := σ) 2 rfl ?_
          refine zX_c1 rfl (fun a9 => ?_) (fun a9 => ?_)
          · skip
            refine zX_run (n' := 167) (ls' := [some (.inr (.inr (10, 0))), some (.inl t), some (.inl p), some (.inl m), some (.inl u), some (.inl (zW (n + (-1)))), some (.inl e), some (.inl k), some (.inl c), some (.inl (σ.1 98 0 ((zW ((zW (n + (-1))) - 1)).toNat))), some (.inl (σ.1 98 0 ((zW (n + (-1))).toNat)))]) (st' := [.inl 16, .inl c, .inl (zW ((zW (n + (-1))) - 1)), .inr (.inr (98, 0))]) (σ' := σ) 2 rfl ?_
            refine zX_c1 rfl (fun a10 => ?_) (fun a10 => ?_)
            · skip
              refine zX_run (n' := 175) (ls' := [some (.inr (.inr (10, 0))), some (.inl t), some (.inl p), some (.inl m), some (.inl u), some (.inl (zW (n + (-1)))), some (.inl e), some (.inl k), some (.inl c), some (.inl (σ.1 98 0 ((zW ((zW (n + (-1))) - 1)).toNat))), some (.inl (σ.1 98 0 ((zW (n + (-1))).toNat)))]) (st' := [.inl (zW ((σ.1 98 0 ((zW ((zW (n + (-1))) - 1)).toNat)) * (σ.1 98 0 ((zW (n + (-1))).toNat)))), .inl (zW ((zW (n + (-1))) - 1)), .inr (.inr (98, 0))]) (σ' := σ) 3 rfl ?_
              refine zX_ast1 (L := 200) rfl (by decide) rfl o1 ?_
              refine zX_run (n' := 23) (ls' := [some (.inr (.inr (10, 0))), some (.inl t), some (.inl p), some (.inl m), some (.inl u), some (.inl (zW (n + (-1)))), some (.inl e), some (.inl (zW (k + 1))), some (.inl c), some (.inl (σ.1 98 0 ((zW ((zW (n + (-1))) - 1)).toNat))), some (.inl (σ.1 98 0 ((zW (n + (-1))).toNat)))]) (st' := []) (σ' := (zU σ 98 0 ((zW ((zW (n + (-1))) - 1)).toNat) (zW ((σ.1 98 0 ((zW ((zW (n + (-1))) - 1)).toNat)) * (σ.1 98 0 ((zW (n + (-1))).toNat)))))) 2 rfl ?_
              exact h1 a5 a6 a7 a8 a9 a10
            · skip
              refine zX_run (n' := 175) (ls' := [some (.inr (.inr (10, 0))), some (.inl t), some (.inl p), some (.inl m), some (.inl u), some (.inl (zW (n + (-1)))), some (.inl e), some (.inl k), some (.inl c), some (.inl (σ.1 98 0 ((zW ((zW (n + (-1))) - 1)).toNat))), some (.inl (σ.1 98 0 ((zW (n + (-1))).toNat)))]) (st' := [.inl (zW ((σ.1 98 0 ((zW ((zW (n + (-1))) - 1)).toNat)) - (σ.1 98 0 ((zW (n + (-1))).toNat)))), .inl (zW ((zW (n + (-1))) - 1)), .inr (.inr (98, 0))]) (σ' := σ) 4 rfl ?_
              refine zX_ast1 (L := 200) rfl (by decide) rfl o1 ?_
              refine zX_run (n' := 23) (ls' := [some (.inr (.inr (10, 0))), some (.inl t), some (.inl p), some (.inl m), some (.inl u), some (.inl (zW (n + (-1)))), some (.inl e), some (.inl (zW (k + 1))), some (.inl c), some (.inl (σ.1 98 0 ((zW ((zW (n + (-1))) - 1)).toNat))), some (.inl (σ.1 98 0 ((zW (n + (-1))).toNat)))]) (st' := []) (σ' := (zU σ 98 0 ((zW ((zW (n + (-1))) - 1)).toNat) (zW ((σ.1 98 0 ((zW ((zW (n + (-1))) - 1)).toNat)) - (σ.1 98 0 ((zW (n + (-1))).toNat)))))) 2 rfl ?_
              exact h2 a5 a6 a7 a8 a9 a10
          · skip
            refine zX_run (n' := 175) (ls' := [some (.inr (.inr (10, 0))), some (.inl t), some (.inl p), some (.inl m), some (.inl u), some (.inl (zW (n + (-1)))), some (.inl e), some (.inl k), some (.inl c), some (.inl (σ.1 98 0 ((zW ((zW (n + (-1))) - 1)).toNat))), some (.inl (σ.1 98 0 ((zW (n + (-1))).toNat)))]) (st' := [.inl (zW ((σ.1 98 0 ((zW ((zW (n + (-1))) - 1)).toNat)) + (σ.1 98 0 ((zW (n + (-1))).toNat)))), .inl (zW ((zW (n + (-1))) - 1)), .inr (.inr (98, 0))]) (σ' := σ) 4 rfl ?_
            refine zX_ast1 (L := 200) rfl (by decide) rfl o1 ?_
            refine zX_run (n' := 23) (ls' := [some (.inr (.inr (10, 0))), some (.inl t), some (.inl p), some (.inl m), some (.inl u), some (.inl (zW (n + (-1)))), some (.inl e), some (.inl (zW (k + 1))), some (.inl c), some (.inl (σ.1 98 0 ((zW ((zW (n + (-1))) - 1)).toNat))), some (.inl (σ.1 98 0 ((zW (n + (-1))).toNat)))]) (st' := []) (σ' := (zU σ 98 0 ((zW ((zW (n + (-1))) - 1)).toNat) (zW ((σ.1 98 0 ((zW ((zW (n + (-1))) - 1)).toNat)) + (σ.1 98 0 ((zW (n + (-1))).toNat)))))) 2 rfl ?_
            exact h3 a5 a6 a7 a8 a9
        · skip
          refine zX_run (n' := 153) (ls' := [some (.inr (.inr (10, 0))), some (.inl t), some (.inl p), some (.inl m), some (.inl u), some (.inl (zW (n + (-1)))), some (.inl e), some (.inl k), some (.inl c), some (.inl (σ.1 98 0 ((zW ((zW (n + (-1))) - 1)).toNat))), some (.inl (σ.1 98 0 ((zW (n + (-1))).toNat)))]) (st' := [.inl (σ.1 98 0 ((zW (n + (-1))).toNat)), .inl (σ.1 98 0 ((zW ((zW (n + (-1))) - 1)).toNat)), .inl (zW ((zW (n + (-1))) - 1)), .inr (.inr (98, 0))]) (σ' := σ) 2 rfl ?_
          refine zX_c1 rfl (fun a11 => ?_) (fun a11 => ?_)
          · skip
            refine zX_run (n' := 175) (ls' := [some (.inr (.inr (10, 0))), some (.inl t), some (.inl p), some (.inl m), some (.inl u), some (.inl (zW (n + (-1)))), some (.inl e), some (.inl k), some (.inl c), some (.inl (σ.1 98 0 ((zW ((zW (n + (-1))) - 1)).toNat))), some (.inl (σ.1 98 0 ((zW (n + (-1))).toNat)))]) (st' := [.inl 0, .inl (zW ((zW (n + (-1))) - 1)), .inr (.inr (98, 0))]) (σ' := σ) 2 rfl ?_
            refine zX_ast1 (L := 200) rfl (by decide) rfl o1 ?_
            refine zX_run (n' := 23) (ls' := [some (.inr (.inr (10, 0))), some (.inl t), some (.inl p), some (.inl m), some (.inl u), some (.inl (zW (n + (-1)))), some (.inl e), some (.inl (zW (k + 1))), some (.inl c), some (.inl (σ.1 98 0 ((zW ((zW (n + (-1))) - 1)).toNat))), some (.inl (σ.1 98 0 ((zW (n + (-1))).toNat)))]) (st' := []) (σ' := (zU σ 98 0 ((zW ((zW (n + (-1))) - 1)).toNat) 0)) 2 rfl ?_
            exact h4 a5 a6 a7 a8 a11
          · skip
            refine zX_run (n' := 175) (ls' := [some (.inr (.inr (10, 0))), some (.inl t), some (.inl p), some (.inl m), some (.inl u), some (.inl (zW (n + (-1)))), some (.inl e), some (.inl k), some (.inl c), some (.inl (σ.1 98 0 ((zW ((zW (n + (-1))) - 1)).toNat))), some (.inl (σ.1 98 0 ((zW (n + (-1))).toNat)))]) (st' := [.inl 1, .inl (zW ((zW (n + (-1))) - 1)), .inr (.inr (98, 0))]) (σ' := σ) 2 rfl ?_
            refine zX_ast1 (L := 200) rfl (by decide) rfl o1 ?_
            refine zX_run (n' := 23) (ls' := [some (.inr (.inr (10, 0))), some (.inl t), some (.inl p), some (.inl m), some (.inl u), some (.inl (zW (n + (-1)))), some (.inl e), some (.inl (zW (k + 1))), some (.inl c), some (.inl (σ.1 98 0 ((zW ((zW (n + (-1))) - 1)).toNat))), some (.inl (σ.1 98 0 ((zW (n + (-1))).toNat)))]) (st' := []) (σ' := (zU σ 98 0 ((zW ((zW (n + (-1))) - 1)).toNat) 1)) 2 rfl ?_
            exact h5 a5 a6 a7 a8 a11
      · skip
        refine zX_run (n' := 143) (ls' := [some (.inr (.inr (10, 0))), some (.inl t), some (.inl p), some (.inl m), some (.inl u), some (.inl (zW (n + (-1)))), some (.inl e), some (.inl k), some (.inl c), some (.inl (σ.1 98 0 ((zW ((zW (n + (-1))) - 1)).toNat))), some (.inl (σ.1 98 0 ((zW (n + (-1))).toNat)))]) (st' := [.inl (σ.1 98 0 ((zW (n + (-1))).toNat)), .inl (σ.1 98 0 ((zW ((zW (n + (-1))) - 1)).toNat)), .inl (zW ((zW (n + (-1))) - 1)), .inr (.inr (98, 0))]) (σ' := σ) 2 rfl ?_
        refine zX_c3 rfl (fun a12 => ?_) (fun a12 => ?_)
        · skip
          refine zX_run (n' := 175) (ls' := [some (.inr (.inr (10, 0))), some (.inl t), some (.inl p), some (.inl m), some (.inl u), some (.inl (zW (n + (-1)))), some (.inl e), some (.inl k), some (.inl c), some (.inl (σ.1 98 0 ((zW ((zW (n + (-1))) - 1)).toNat))), some (.inl (σ.1 98 0 ((zW (n + (-1))).toNat)))]) (st' := [.inl 0, .inl (zW ((zW (n + (-1))) - 1)), .inr (.inr (98, 0))]) (σ' := σ) 2 rfl ?_
          refine zX_ast1 (L := 200) rfl (by decide) rfl o1 ?_
          refine zX_run (n' := 23) (ls' := [some (.inr (.inr (10, 0))), some (.inl t), some (.inl p), some (.inl m), some (.inl u), some (.inl (zW (n + (-1)))), some (.inl e), some (.inl (zW (k + 1))), some (.inl c), some (.inl (σ.1 98 0 ((zW ((zW (n + (-1))) - 1)).toNat))), some (.inl (σ.1 98 0 ((zW (n + (-1))).toNat)))]) (st' := []) (σ' := (zU σ 98 0 ((zW ((zW (n + (-1))) - 1)).toNat) 0)) 2 rfl ?_
          exact h6 a5 a6 a7 a12
        · skip
          refine zX_run (n' := 175) (ls' := [some (.inr (.inr (10, 0))), some (.inl t), some (.inl p), some (.inl m), some (.inl u), some (.inl (zW (n + (-1)))), some (.inl e), some (.inl k), some (.inl c), some (.inl (σ.1 98 0 ((zW ((zW (n + (-1))) - 1)).toNat))), some (.inl (σ.1 98 0 ((zW (n + (-1))).toNat)))]) (st' := [.inl 1, .inl (zW ((zW (n + (-1))) - 1)), .inr (.inr (98, 0))]) (σ' := σ) 2 rfl ?_
          refine zX_ast1 (L := 200) rfl (by decide) rfl o1 ?_
          refine zX_run (n' := 23) (ls' := [some (.inr (.inr (10, 0))), some (.inl t), some (.inl p), some (.inl m), some (.inl u), some (.inl (zW (n + (-1)))), some (.inl e), some (.inl (zW (k + 1))), some (.inl c), some (.inl (σ.1 98 0 ((zW ((zW (n + (-1))) - 1)).toNat))), some (.inl (σ.1 98 0 ((zW (n + (-1))).toNat)))]) (st' := []) (σ' := (zU σ 98 0 ((zW ((zW (n + (-1))) - 1)).toNat) 1)) 2 rfl ?_
          exact h7 a5 a6 a7 a12
    · skip
      refine zX_run (n' := 131) (ls' := [some (.inr (.inr (10, 0))), some (.inl t), some (.inl p), some (.inl m), some (.inl u), some (.inl (zW (n + (-1)))), some (.inl e), some (.inl k), some (.inl c), some (.inl (σ.1 98 0 ((zW ((zW (n + (-1))) - 1)).toNat))), some (.inl (σ.1 98 0 ((zW (n + (-1))).toNat)))]) (st' := [.inl (σ.1 98 0 ((zW ((zW (n + (-1))) - 1)).toNat)), .inl (zW ((zW (n + (-1))) - 1)), .inr (.inr (98, 0))]) (σ' := σ) 1 rfl ?_
      refine zX_i0 rfl (fun a13 => ?_) (fun a13 => ?_)
      · skip
        refine zX_run (n' := 175) (ls' := [some (.inr (.inr (10, 0))), some (.inl t), some (.inl p), some (.inl m), some (.inl u), some (.inl (zW (n + (-1)))), some (.inl e), some (.inl k), some (.inl c), some (.inl (σ.1 98 0 ((zW ((zW (n + (-1))) - 1)).toNat))), some (.inl (σ.1 98 0 ((zW (n + (-1))).toNat)))]) (st' := [.inl 0, .inl (zW ((zW (n + (-1))) - 1)), .inr (.inr (98, 0))]) (σ' := σ) 2 rfl ?_
        refine zX_ast1 (L := 200) rfl (by decide) rfl o1 ?_
        refine zX_run (n' := 23) (ls' := [some (.inr (.inr (10, 0))), some (.inl t), some (.inl p), some (.inl m), some (.inl u), some (.inl (zW (n + (-1)))), some (.inl e), some (.inl (zW (k + 1))), some (.inl c), some (.inl (σ.1 98 0 ((zW ((zW (n + (-1))) - 1)).toNat))), some (.inl (σ.1 98 0 ((zW (n + (-1))).toNat)))]) (st' := []) (σ' := (zU σ 98 0 ((zW ((zW (n + (-1))) - 1)).toNat) 0)) 2 rfl ?_
        exact h8 a5 a6 a13
      · skip
        refine zX_run (n' := 133) (ls' := [some (.inr (.inr (10, 0))), some (.inl t), some (.inl p), some (.inl m), some (.inl u), some (.inl (zW (n + (-1)))), some (.inl e), some (.inl k), some (.inl c), some (.inl (σ.1 98 0 ((zW ((zW (n + (-1))) - 1)).toNat))), some (.inl (σ.1 98 0 ((zW (n + (-1))).toNat)))]) (st' := [.inl (σ.1 98 0 ((zW (n + (-1))).toNat)), .inl (zW ((zW (n + (-1))) - 1)), .inr (.inr (98, 0))]) (σ' := σ) 1 rfl ?_
        refine zX_i0 rfl (fun a14 => ?_) (fun a14 => ?_)
        · skip
          refine zX_run (n' := 175) (ls' := [some (.inr (.inr (10, 0))), some (.inl t), some (.inl p), some (.inl m), some (.inl u), some (.inl (zW (n + (-1)))), some (.inl e), some (.inl k), some (.inl c), some (.inl (σ.1 98 0 ((zW ((zW (n + (-1))) - 1)).toNat))), some (.inl (σ.1 98 0 ((zW (n + (-1))).toNat)))]) (st' := [.inl 0, .inl (zW ((zW (n + (-1))) - 1)), .inr (.inr (98, 0))]) (σ' := σ) 2 rfl ?_
          refine zX_ast1 (L := 200) rfl (by decide) rfl o1 ?_
          refine zX_run (n' := 23) (ls' := [some (.inr (.inr (10, 0))), some (.inl t), some (.inl p), some (.inl m), some (.inl u), some (.inl (zW (n + (-1)))), some (.inl e), some (.inl (zW (k + 1))), some (.inl c), some (.inl (σ.1 98 0 ((zW ((zW (n + (-1))) - 1)).toNat))), some (.inl (σ.1 98 0 ((zW (n + (-1))).toNat)))]) (st' := []) (σ' := (zU σ 98 0 ((zW ((zW (n + (-1))) - 1)).toNat) 0)) 2 rfl ?_
          exact h9 a5 a6 a13 a14
        · skip
          refine zX_run (n' := 175) (ls' := [some (.inr (.inr (10, 0))), some (.inl t), some (.inl p), some (.inl m), some (.inl u), some (.inl (zW (n + (-1)))), some (.inl e), some (.inl k), some (.inl c), some (.inl (σ.1 98 0 ((zW ((zW (n + (-1))) - 1)).toNat))), some (.inl (σ.1 98 0 ((zW (n + (-1))).toNat)))]) (st' := [.inl 1, .inl (zW ((zW (n + (-1))) - 1)), .inr (.inr (98, 0))]) (σ' := σ) 2 rfl ?_
          refine zX_ast1 (L := 200) rfl (by decide) rfl o1 ?_
          refine zX_run (n' := 23) (ls' := [some (.inr (.inr (10, 0))), some (.inl t), some (.inl p), some (.inl m), some (.inl u), some (.inl (zW (n + (-1)))), some (.inl e), some (.inl (zW (k + 1))), some (.inl c), some (.inl (σ.1 98 0 ((zW ((zW (n + (-1))) - 1)).toNat))), some (.inl (σ.1 98 0 ((zW (n + (-1))).toNat)))]) (st' := []) (σ' := (zU σ 98 0 ((zW ((zW (n + (-1))) - 1)).toNat) 1)) 2 rfl ?_
          exact h10 a5 a6 a13 a14
  · skip
    refine zX_run (n' := 120) (ls' := [some (.inr (.inr (10, 0))), some (.inl t), some (.inl p), some (.inl m), some (.inl u), some (.inl (zW (n + (-1)))), some (.inl e), some (.inl k), some (.inl c), some (.inl (σ.1 98 0 ((zW ((zW (n + (-1))) - 1)).toNat))), some (.inl (σ.1 98 0 ((zW (n + (-1))).toNat)))]) (st' := [.inl (σ.1 98 0 ((zW ((zW (n + (-1))) - 1)).toNat)), .inl (zW ((zW (n + (-1))) - 1)), .inr (.inr (98, 0))]) (σ' := σ) 1 rfl ?_
    refine zX_i1 rfl (fun a15 => ?_) (fun a15 => ?_)
    · skip
      refine zX_run (n' := 175) (ls' := [some (.inr (.inr (10, 0))), some (.inl t), some (.inl p), some (.inl m), some (.inl u), some (.inl (zW (n + (-1)))), some (.inl e), some (.inl k), some (.inl c), some (.inl (σ.1 98 0 ((zW ((zW (n + (-1))) - 1)).toNat))), some (.inl (σ.1 98 0 ((zW (n + (-1))).toNat)))]) (st' := [.inl 1, .inl (zW ((zW (n + (-1))) - 1)), .inr (.inr (98, 0))]) (σ' := σ) 2 rfl ?_
      refine zX_ast1 (L := 200) rfl (by decide) rfl o1 ?_
      refine zX_run (n' := 23) (ls' := [some (.inr (.inr (10, 0))), some (.inl t), some (.inl p), some (.inl m), some (.inl u), some (.inl (zW (n + (-1)))), some (.inl e), some (.inl (zW (k + 1))), some (.inl c), some (.inl (σ.1 98 0 ((zW ((zW (n + (-1))) - 1)).toNat))), some (.inl (σ.1 98 0 ((zW (n + (-1))).toNat)))]) (st' := []) (σ' := (zU σ 98 0 ((zW ((zW (n + (-1))) - 1)).toNat) 1)) 2 rfl ?_
      exact h11 a5 a15
    · skip
      refine zX_run (n' := 122) (ls' := [some (.inr (.inr (10, 0))), some (.inl t), some (.inl p), some (.inl m), some (.inl u), some (.inl (zW (n + (-1)))), some (.inl e), some (.inl k), some (.inl c), some (.inl (σ.1 98 0 ((zW ((zW (n + (-1))) - 1)).toNat))), some (.inl (σ.1 98 0 ((zW (n + (-1))).toNat)))]) (st' := [.inl (σ.1 98 0 ((zW (n + (-1))).toNat)), .inl (zW ((zW (n + (-1))) - 1)), .inr (.inr (98, 0))]) (σ' := σ) 1 rfl ?_
      refine zX_i0 rfl (fun a16 => ?_) (fun a16 => ?_)
      · skip
        refine zX_run (n' := 175) (ls' := [some (.inr (.inr (10, 0))), some (.inl t), some (.inl p), some (.inl m), some (.inl u), some (.inl (zW (n + (-1)))), some (.inl e), some (.inl k), some (.inl c), some (.inl (σ.1 98 0 ((zW ((zW (n + (-1))) - 1)).toNat))), some (.inl (σ.1 98 0 ((zW (n + (-1))).toNat)))]) (st' := [.inl 0, .inl (zW ((zW (n + (-1))) - 1)), .inr (.inr (98, 0))]) (σ' := σ) 2 rfl ?_
        refine zX_ast1 (L := 200) rfl (by decide) rfl o1 ?_
        refine zX_run (n' := 23) (ls' := [some (.inr (.inr (10, 0))), some (.inl t), some (.inl p), some (.inl m), some (.inl u), some (.inl (zW (n + (-1)))), some (.inl e), some (.inl (zW (k + 1))), some (.inl c), some (.inl (σ.1 98 0 ((zW ((zW (n + (-1))) - 1)).toNat))), some (.inl (σ.1 98 0 ((zW (n + (-1))).toNat)))]) (st' := []) (σ' := (zU σ 98 0 ((zW ((zW (n + (-1))) - 1)).toNat) 0)) 2 rfl ?_
        exact h12 a5 a15 a16
      · skip
        refine zX_run (n' := 175) (ls' := [some (.inr (.inr (10, 0))), some (.inl t), some (.inl p), some (.inl m), some (.inl u), some (.inl (zW (n + (-1)))), some (.inl e), some (.inl k), some (.inl c), some (.inl (σ.1 98 0 ((zW ((zW (n + (-1))) - 1)).toNat))), some (.inl (σ.1 98 0 ((zW (n + (-1))).toNat)))]) (st' := [.inl 1, .inl (zW ((zW (n + (-1))) - 1)), .inr (.inr (98, 0))]) (σ' := σ) 2 rfl ?_
        refine zX_ast1 (L := 200) rfl (by decide) rfl o1 ?_
        refine zX_run (n' := 23) (ls' := [some (.inr (.inr (10, 0))), some (.inl t), some (.inl p), some (.inl m), some (.inl u), some (.inl (zW (n + (-1)))), some (.inl e), some (.inl (zW (k + 1))), some (.inl c), some (.inl (σ.1 98 0 ((zW ((zW (n + (-1))) - 1)).toNat))), some (.inl (σ.1 98 0 ((zW (n + (-1))).toNat)))]) (st' := []) (σ' := (zU σ 98 0 ((zW ((zW (n + (-1))) - 1)).toNat) 1)) 2 rfl ?_
        exact h13 a5 a15 a16
-- X10_says
theorem zb_155n {d : Nat} {σ : zS} {Q : Option zV → zS → Prop} {t : Int} {p : Int} {m : Int} {u : Int}
    (o1 : u = 0 → (0 : Int) ≤ t ∧ t < (6 : Int))
    (o2 : ¬ u = 0 → (0 : Int) ≤ t ∧ t < (6 : Int))
    (h1 : u = 0 → zX (d + 3) 155 23 [some (.inr (.inr (10, 0))), some (.inl t), some (.inl p), some (.inl m), some (.inl u), some (.inl 0), some (.inl (σ.1 73 0 (t.toNat))), some (.inl 0), none, none, none] [] σ Q)
    (h2 : ¬ u = 0 → zX (d + 3) 155 23 [some (.inr (.inr (10, 0))), some (.inl t), some (.inl p), some (.inl m), some (.inl u), some (.inl 0), some (.inl (σ.1 72 0 (t.toNat))), some (.inl (σ.1 73 0 (t.toNat))), none, none, none] [] σ Q) :
    zM (d + 3) 155 [.inr (.inr (10, 0)), .inl t, .inl p, .inl m, .inl u] σ Q := by
  refine zX_run (n' := 3) (ls' := [some (.inr (.inr (10, 0))), some (.inl t), some (.inl p), some (.inl m), some (.inl u), some (.inl 0), none, none, none, none, none]) (st' := [.inl u]) (σ' := σ) 3 rfl ?_
  refine zX_i0 rfl (fun a1 => ?_) (fun a1 => ?_)
  · skip
    refine zX_run (n' := 12) (ls' := [some (.inr (.inr (10, 0))), some (.inl t), some (.inl p), some (.inl m), some (.inl u), some (.inl 0), none, none, none, none, none]) (st' := [.inl t, .inr (.inr (73, 0))]) (σ' := σ) 3 rfl ?_
    refine zX_ald1 (L := 6) rfl (by decide) rfl (o1 a1) ?_
    refine zX_run (n' := 15) (ls' := [some (.inr (.inr (10, 0))), some (.inl t), some (.inl p), some (.inl m), some (.inl u), some (.inl 0), some (.inl (σ.1 73 0 (t.toNat))), none, none, none, none]) (st' := [.inl u]) (σ' := σ) 2 rfl ?_
    refine zX_i0 rfl (fun _ => ?_) (fun a2 => absurd a2 (by omega))
    refine zX_run (n' := 23) (ls' := [some (.inr (.inr (10, 0))), some (.inl t), some (.inl p), some (.inl m), some (.inl u), some (.inl 0), some (.inl (σ.1 73 0 (t.toNat))), some (.inl 0), none, none, none]) (st' := []) (σ' := σ) 2 rfl ?_
    exact h1 a1
  · skip
    refine zX_run (n' := 7) (ls' := [some (.inr (.inr (10, 0))), some (.inl t), some (.inl p), some (.inl m), some (.inl u), some (.inl 0), none, none, none, none, none]) (st' := [.inl t, .inr (.inr (72, 0))]) (σ' := σ) 3 rfl ?_
    refine zX_ald1 (L := 6) rfl (by decide) rfl (o2 a1) ?_
    refine zX_run (n' := 15) (ls' := [some (.inr (.inr (10, 0))), some (.inl t), some (.inl p), some (.inl m), some (.inl u), some (.inl 0), some (.inl (σ.1 72 0 (t.toNat))), none, none, none, none]) (st' := [.inl u]) (σ' := σ) 3 rfl ?_
    refine zX_i0 rfl (fun a3 => absurd a3 (by omega)) (fun _ => ?_)
    refine zX_run (n' := 19) (ls' := [some (.inr (.inr (10, 0))), some (.inl t), some (.inl p), some (.inl m), some (.inl u), some (.inl 0), some (.inl (σ.1 72 0 (t.toNat))), none, none, none, none]) (st' := [.inl t, .inr (.inr (73, 0))]) (σ' := σ) 3 rfl ?_
    refine zX_ald1 (L := 6) rfl (by decide) rfl (o2 a1) ?_
    refine zX_run (n' := 23) (ls' := [some (.inr (.inr (10, 0))), some (.inl t), some (.inl p), some (.inl m), some (.inl u), some (.inl 0), some (.inl (σ.1 72 0 (t.toNat))), some (.inl (σ.1 73 0 (t.toNat))), none, none, none]) (st' := []) (σ' := σ) 2 rfl ?_
    exact h2 a1
/-- the state with one kind being anything -/
def zK (σ : zS) (k : Nat) (g : Nat → Nat → Int) : zS := (fun k' => if k' = k then g else σ.1 k', σ.2)
theorem zK_U {σ : zS} {k n j : Nat} {v : Int} {g : Nat → Nat → Int} : zU (zK σ k g) k n j v = zK σ k (fun n' j' => if j' = j ∧ n' = n then v else g n' j') := by
  refine Prod.ext (funext fun k' => funext fun n' => funext fun j' => ?_) rfl
  show (if k' = k ∧ j' = j ∧ n' = n then v else (if k' = k then g else σ.1 k') n' j') = (if k' = k then _ else σ.1 k') n' j'
  by_cases a : k' = k
  · subst a; rw [if_pos rfl, if_pos rfl]
    by_cases e : j' = j ∧ n' = n
    · rw [if_pos ⟨rfl, e⟩]; exact (if_pos e).symm
    · rw [if_neg (fun q => e q.2)]; exact (if_neg e).symm
  · rw [if_neg a, if_neg a, if_neg (fun q => a q.1)]
theorem zK_self {σ : zS} {k : Nat} : σ = zK σ k (σ.1 k) := by
  refine Prod.ext (funext fun k' => ?_) rfl
  show σ.1 k' = if k' = k then σ.1 k else σ.1 k'
  split
  · rename_i e; rw [e]
  · rfl
def uStk (g : Nat → Int) (s : List Int) : Prop := ∀ j, j < s.length → g j = s.getD (s.length - 1 - j) 0
theorem uStk_push {g g' : Nat → Int} {s : List Int} {v : Int} (h : uStk g s) (e : ∀ j, g' j = if j = s.length then v else g j) : uStk g' (v :: s) := by
  intro j hj
  rw [e]
  by_cases e : j = s.length
  · subst e; simp
  · rw [if_neg e, h j (by simp at hj; omega)]
    rw [show (v :: s).length - 1 - j = (s.length - 1 - j) + 1 by simp at hj ⊢; omega, List.getD_cons_succ]
theorem uStk_pop {g : Nat → Int} {a : Int} {s : List Int} (h : uStk g (a :: s)) : uStk g s := by
  intro j hj
  rw [h j (by simp; omega), show (a :: s).length - 1 - j = (s.length - 1 - j) + 1 by simp; omega, List.getD_cons_succ]
theorem uStk_hd {g : Nat → Int} {a : Int} {s : List Int} (h : uStk g (a :: s)) : g s.length = a := by
  rw [h s.length (by simp)]; simp
theorem zI_200 {t i : Nat} (ht : t < 6) (hi : i < 200) : zW ((zW (200 * (t : Int))) + (i : Int)) = ((200 * t + i : Nat) : Int) := by
  rw [zW_id (z := 200 * (t : Int)) (by omega), zW_id (by omega)]; omega
def mCode (σ : zS) (t a n : Nat) : List Int := uSeq (fun k => σ.1 71 0 (200 * t + k)) a n
set_option maxHeartbeats 1000000 in
theorem zs_155l {d : Nat} {σ : zS} {Q : Option zV → zS → Prop} {t p m : Nat} {u : Int} {e : Nat} (ht : t < 6) (hp : p < 17) (hm : m < 96) (hr : 0 ≤ σ.1 62 0 p ∧ σ.1 62 0 p < 7) (he : e ≤ 160) (hlo : ∀ j, j < e → 0 ≤ σ.1 71 0 (200 * t + j) ∧ σ.1 71 0 (200 * t + j) ≤ 1000000) :
    ∀ (k : Nat) {i : Nat} {s : List Int} {g : Nat → Nat → Int} {x y z : Option zV}, i + k = e → uHt (mCode σ t i k) s.length = some 1 → s.length ≤ i → uStk (g 0) s →
    (∀ g' : Nat → Nat → Int, Q (some (.inl ((uEv (mNm σ p m) (mCode σ t i k) s).headD 0))) (zK σ 98 g')) →
    zX (d + 3) 155 23 [some (.inr (.inr (10, 0))), some (.inl (t : Int)), some (.inl (p : Int)), some (.inl (m : Int)), some (.inl u), some (.inl (s.length : Int)), some (.inl (e : Int)), some (.inl (i : Int)), x, y, z] [] (zK σ 98 g) Q
  | 0, i, s, g, x, y, z, hi, hh, hs, hk, h => by
    refine zb_155x (by omega) ?_
    have : s.length = 1 := by simpa [mCode, uSeq, uHt] using hh
    match s, this with
    | [a], _ => exact zQ_i (h g) (uStk_hd hk)
  | k + 1, i, s, g, x, y, z, hi, hh, hs, hk, h => by
    have eC : mCode σ t i (k + 1) = σ.1 71 0 (200 * t + i) :: mCode σ t (i + 1) k := rfl
    rw [eC] at hh h
    have eV : ∀ nm s, uEv nm (σ.1 71 0 (200 * t + i) :: mCode σ t (i + 1) k) s = uEv nm (mCode σ t (i + 1) k) (uOp nm (σ.1 71 0 (200 * t + i)) s) := fun _ _ => rfl
    rw [eV] at h
    unfold uHt at hh
    have lo := hlo i (by omega)
    have ix := zI_200 (i := i) ht (by omega)
    refine zb_155h (by omega) (by rw [ix]; omega) ?_
    rw [ix, show (zK σ 98 g).1 71 0 ((200 * t + i : Nat) : Int).toNat = σ.1 71 0 (200 * t + i) from rfl]
    generalize hc : σ.1 71 0 (200 * t + i) = c at hh h lo
    have step : ∀ (s' : List Int) (g' : Nat → Nat → Int) (x' y' z' : Option zV), uHt (mCode σ t (i + 1) k) s'.length = some 1 → s'.length ≤ i + 1 → uStk (g' 0) s' → uOp (mNm σ p m) c s = s' → zX (d + 3) 155 23 [some (.inr (.inr (10, 0))), some (.inl (t : Int)), some (.inl (p : Int)), some (.inl (m : Int)), some (.inl u), some (.inl (s'.length : Int)), some (.inl (e : Int)), some (.inl (zW ((i : Int) + 1))), x', y', z'] [] (zK σ 98 g') Q := by
      intro s' g' x' y' z' g1 g2 g3 g5
      rw [zWs (by omega)]
      exact zs_155l ht hp hm hr he hlo k (by omega) g1 g2 g3 (fun g2 => by have := h g2; rw [g5] at this; exact this)
    clear h
    by_cases c0 : 100 ≤ c
    · rw [if_pos (by omega)] at hh
      refine zb_155a c0 (by omega) ?_
      rw [zW_id (z := c - 100) (by omega), zK_U, zWs (by omega)]
      exact step ((c - 100) :: s) _ _ _ _ (by simpa using hh) (by simp; omega) (uStk_push hk (fun j => by simp)) (by unfold uOp; rw [if_pos c0])
    · by_cases c1 : c < 6
      · rw [if_pos (by omega)] at hh
        refine zb_155b c1 (by omega) (by omega) hr (by omega) ?_
        rw [zK_U, zWs (by omega)]
        exact step (mNm σ p m c :: s) _ _ _ _ (by simpa using hh) (by simp; omega) (uStk_push hk (fun j => by simp; rfl)) (by unfold uOp; rw [if_neg c0, if_pos c1])
      · rw [if_neg (by omega)] at hh
        by_cases u0 : c = 12 ∨ c = 18
        · rw [if_pos u0] at hh
          match s, hh, hs, hk, step with
          | [], hh, _, _, _ => simp at hh
          | a :: s, hh, hs, hk, step =>
            rw [if_pos (by simp)] at hh
            have w : zW (((a :: s).length : Int) - 1) = (s.length : Int) := by rw [zW_id (by simp; simp at hs; omega)]; simp
            have hd2 : (zK σ 98 g).1 98 0 s.length = a := uStk_hd hk
            have tp : ∀ v : Int, uStk ((fun n' j' => if j' = s.length ∧ n' = 0 then v else g n' j') 0) (v :: s) := fun v => uStk_push (uStk_pop hk) (fun j => by simp)
            have sl : s.length + 1 ≤ i := by simpa using hs
            by_cases u1 : c = 12
            · subst u1
              have st : uOp (mNm σ p m) 12 (a :: s) = (if a = 0 then 1 else 0) :: s := rfl
              refine zb_155c rfl (by rw [w]; omega) ?_ ?_
              · rw [w, Int.toNat_natCast, hd2]; intro ha
                rw [zK_U]
                exact step ((if a = 0 then 1 else 0) :: s) _ _ _ _ (by simpa using hh) (by simp; omega) (by rw [if_neg ha]; exact tp 0) st
              · rw [w, Int.toNat_natCast, hd2]; intro ha
                rw [zK_U]
                exact step ((if a = 0 then 1 else 0) :: s) _ _ _ _ (by simpa using hh) (by simp; omega) (by rw [if_pos ha]; exact tp 1) st
            · have u2 : c = 18 := by omega
              subst u2
              have st : uOp (mNm σ p m) 18 (a :: s) = zW (-a) :: s := rfl
              refine zb_155d rfl (by rw [w]; omega) ?_
              rw [w, Int.toNat_natCast, hd2, zK_U]
              exact step (zW (-a) :: s) _ _ _ _ (by simpa using hh) (by simp; omega) (tp _) st
        · rw [if_neg u0] at hh
          match s, hh, hs, hk, step with
          | [], hh, _, _, _ => simp at hh
          | [a], hh, _, _, _ => simp at hh
          | b :: a :: s, hh, hs, hk, step =>
            rw [if_pos (by simp)] at hh
            have w : zW (((b :: a :: s).length : Int) + (-1)) = ((a :: s).length : Int) := by rw [zW_id (by simp; simp at hs; omega)]; simp; omega
            have w2 : zW (((a :: s).length : Int) - 1) = (s.length : Int) := by rw [zW_id (by simp; simp at hs; omega)]; simp
            have hd : (zK σ 98 g).1 98 0 (a :: s).length = b := uStk_hd hk
            have hd2 : (zK σ 98 g).1 98 0 s.length = a := uStk_hd (uStk_pop hk)
            have tp : ∀ v : Int, uStk ((fun n' j' => if j' = s.length ∧ n' = 0 then v else g n' j') 0) (v :: s) := fun v => uStk_push (uStk_pop (uStk_pop hk)) (fun j => by simp)
            have sl : s.length + 2 ≤ i := by simpa using hs
            have fin : ∀ (v : Int) (x' y' z' : Option zV), v = uBin c a b → zX (d + 3) 155 23 [some (.inr (.inr (10, 0))), some (.inl (t : Int)), some (.inl (p : Int)), some (.inl (m : Int)), some (.inl u), some (.inl ((a :: s).length : Int)), some (.inl (e : Int)), some (.inl (zW ((i : Int) + 1))), x', y', z'] [] (zU (zK σ 98 g) 98 0 s.length v) Q := by
              intro v x' y' z' hv
              rw [zK_U]
              refine step (v :: s) _ x' y' z' (by simpa using hh) (by simp; omega) (tp v) ?_
              subst hv
              unfold uOp
              rw [if_neg c0, if_neg c1, if_neg (by omega), if_neg (by omega)]
            clear step
            refine zb_155e ⟨by omega, by omega, by omega, by omega⟩ (by rw [w, w2]; simp at hs; omega) (by rw [w]; simp at hs ⊢; omega) ?_ ?_ ?_ ?_ ?_ ?_ ?_ ?_ ?_ ?_ ?_ ?_ ?_
            all_goals
              rw [w, w2]
              simp only [Int.toNat_natCast]
              rw [hd, hd2]
              intros
              refine fin _ _ _ _ ?_
              clear fin
              unfold uBin
              (repeat' split) <;> first | rfl | omega
