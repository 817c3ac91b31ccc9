-- harm (wip/whole/gen/laws54.py)
-- X9_harm
theorem zb_94 {d : Nat} {σ : zS} {Q : Option zV → zS → Prop} {h : Int} {r : Int}
    (o1 : 0 ≤ σ.1 8 0 8 ∧ σ.1 8 0 8 ≤ 1000)
    (h1 : 0 ≤ h ∧ h < σ.1 8 0 8 → 0 ≤ r ∧ r ≤ 6 → zX (d + 20) 94 12 [some (.inr (.inr (9, 0))), some (.inl h), some (.inl r), none, none, none] [.inl r, .inl h, .inr (.inr (9, 0))] σ Q)
    (h2 : 0 ≤ h ∧ h < σ.1 8 0 8 → ¬ (0 ≤ r ∧ r ≤ 6) → Q (some (.inr (.inl (-4611686018427387904)))) σ)
    (h3 : ¬ (0 ≤ h ∧ h < σ.1 8 0 8) → Q (some (.inr (.inl (-4611686018427387904)))) σ) :
    zM (d + 20) 94 [.inr (.inr (9, 0)), .inl h, .inl r] σ Q := by
  refine zX_run (n' := 2) (ls' := [some (.inr (.inr (9, 0))), some (.inl h), some (.inl r), none, none, none]) (st' := [.inl h, .inr (.inr (9, 0))]) (σ' := σ) 2 rfl ?_
  refine zX_call rfl rfl ?_
  refine zs_112 o1 (fun a1 => ?_) (fun a2 => ?_)
  · skip
    refine zX_run (n' := 5) (ls' := [some (.inr (.inr (9, 0))), some (.inl h), some (.inl r), none, none, none]) (st' := [.inl r]) (σ' := σ) 2 rfl ?_
    refine zX_call rfl rfl ?_
    refine zs_105 (fun a3 => ?_) (fun a4 => ?_)
    · skip
      refine zX_run (n' := 12) (ls' := [some (.inr (.inr (9, 0))), some (.inl h), some (.inl r), none, none, none]) (st' := [.inl r, .inl h, .inr (.inr (9, 0))]) (σ' := σ) 4 rfl ?_
      exact h1 a1 a3
    · skip
      refine zX_run (n' := 8) (ls' := [some (.inr (.inr (9, 0))), some (.inl h), some (.inl r), none, none, none]) (st' := [.inr (.inl (-4611686018427387904))]) (σ' := σ) 2 rfl ?_
      exact zX_retL rfl rfl (h2 a1 a4)
  · skip
    refine zX_run (n' := 8) (ls' := [some (.inr (.inr (9, 0))), some (.inl h), some (.inl r), none, none, none]) (st' := [.inr (.inl (-4611686018427387904))]) (σ' := σ) 2 rfl ?_
    exact zX_retL rfl rfl (h3 a2)
-- X9_harm
theorem zb_94b {d : Nat} {σ : zS} {Q : Option zV → zS → Prop} {h r : Int}
    (h1 : zX (d + 20) 94 17 [some (.inr (.inr (9, 0))), some (.inl h), some (.inl r), some (.inr (.inl 0)), none, some (.inl 0)] [] σ Q) :
    zX (d + 20) 94 13 [some (.inr (.inr (9, 0))), some (.inl h), some (.inl r), none, none, none] [] σ Q := by
  refine zX_run (n' := 17) (ls' := [some (.inr (.inr (9, 0))), some (.inl h), some (.inl r), some (.inr (.inl 0)), none, some (.inl 0)]) (st' := []) (σ' := σ) 4 rfl ?_
  exact h1
-- X9_harm
theorem zb_94l {d : Nat} {σ : zS} {Q : Option zV → zS → Prop} {h r v k : Int}
    (o1 : ¬ σ.1 8 0 8 ≤ k → ¬ k = h → 0 ≤ k ∧ k < 16)
    (o2 : ¬ σ.1 8 0 8 ≤ k → ¬ k = h → 0 ≤ (0 : Int) ∧ (0 : Int) ≤ (96 : Int) ∧ (96 : Int) ≤ 96)
    (h1 : σ.1 8 0 8 ≤ k → Q (some (.inr (.inl (uMaxL v 0)))) σ)
    (h2 : ¬ σ.1 8 0 8 ≤ k → k = h → zX (d + 20) 94 17 [some (.inr (.inr (9, 0))), some (.inl h), some (.inl r), some (.inr (.inl v)), none, some (.inl (zW (k + 1)))] [] σ Q)
    (h3 : ¬ σ.1 8 0 8 ≤ k → ¬ k = h → zX (d + 20) 94 17 [some (.inr (.inr (9, 0))), some (.inl h), some (.inl r), some (.inr (.inl (zWl (v + (zWl ((uSw (σ.1 18 (16 * 0 + k.toNat)) (0 : Int).toNat ((96 : Int).toNat - (0 : Int).toNat)) - (uSw (σ.1 18 (16 * 1 + k.toNat)) (0 : Int).toNat ((96 : Int).toNat - (0 : Int).toNat)))))))), none, some (.inl (zW (k + 1)))] [] σ Q) :
    zX (d + 20) 94 17 [some (.inr (.inr (9, 0))), some (.inl h), some (.inl r), some (.inr (.inl v)), none, some (.inl k)] [] σ Q := by
  refine zX_run (n' := 21) (ls' := [some (.inr (.inr (9, 0))), some (.inl h), some (.inl r), some (.inr (.inl v)), none, some (.inl k)]) (st' := [.inl (σ.1 8 0 8), .inl k]) (σ' := σ) 4 rfl ?_
  refine zX_c3 rfl (fun a1 => ?_) (fun a1 => ?_)
  · skip
    refine zX_run (n' := 45) (ls' := [some (.inr (.inr (9, 0))), some (.inl h), some (.inl r), some (.inr (.inl v)), none, some (.inl k)]) (st' := [.inr (.inl 0), .inr (.inl v)]) (σ' := σ) 2 rfl ?_
    refine zX_b2 rfl (by omega) rfl ?_
    exact zX_retL rfl rfl (h1 a1)
  · skip
    refine zX_run (n' := 24) (ls' := [some (.inr (.inr (9, 0))), some (.inl h), some (.inl r), some (.inr (.inl v)), none, some (.inl k)]) (st' := [.inl h, .inl k]) (σ' := σ) 2 rfl ?_
    refine zX_c0 rfl (fun a2 => ?_) (fun a2 => ?_)
    · skip
      refine zX_run (n' := 17) (ls' := [some (.inr (.inr (9, 0))), some (.inl h), some (.inl r), some (.inr (.inl v)), none, some (.inl (zW (k + 1)))]) (st' := []) (σ' := σ) 2 rfl ?_
      exact h2 a1 a2
    · skip
      refine zX_run (n' := 31) (ls' := [some (.inr (.inr (9, 0))), some (.inl h), some (.inl r), some (.inr (.inl v)), none, some (.inl k)]) (st' := [.inl 96, .inl 0, .inl k, .inr (.inr (0, 0)), .inr (.inl v)]) (σ' := σ) 6 rfl ?_
      refine zX_call rfl rfl ?_
      refine zs_21 (o1 a1 a2) (o2 a1 a2) ?_
      · skip
        refine zX_run (n' := 37) (ls' := [some (.inr (.inr (9, 0))), some (.inl h), some (.inl r), some (.inr (.inl v)), none, some (.inl k)]) (st' := [.inl 96, .inl 0, .inl k, .inr (.inr (0, 1)), .inr (.inl (uSw (σ.1 18 (16 * 0 + k.toNat)) (0 : Int).toNat ((96 : Int).toNat - (0 : Int).toNat))), .inr (.inl v)]) (σ' := σ) 5 rfl ?_
        refine zX_call rfl rfl ?_
        refine zs_21 (o1 a1 a2) (o2 a1 a2) ?_
        · skip
          refine zX_run (n' := 17) (ls' := [some (.inr (.inr (9, 0))), some (.inl h), some (.inl r), some (.inr (.inl (zWl (v + (zWl ((uSw (σ.1 18 (16 * 0 + k.toNat)) (0 : Int).toNat ((96 : Int).toNat - (0 : Int).toNat)) - (uSw (σ.1 18 (16 * 1 + k.toNat)) (0 : Int).toNat ((96 : Int).toNat - (0 : Int).toNat)))))))), none, some (.inl (zW (k + 1)))]) (st' := []) (σ' := σ) 5 rfl ?_
          exact h3 a1 a2
-- X10_harm
theorem zb_178 {d : Nat} {σ : zS} {Q : Option zV → zS → Prop} {h : Int} {r : Int}
    (h1 : 0 ≤ h ∧ h < σ.1 10 0 4 → 0 ≤ r ∧ r < 7 → zX (d + 10) 178 10 [some (.inr (.inr (10, 0))), some (.inl h), some (.inl r), none, none, none, none] [.inr (.inr (10, 0))] σ Q)
    (h2 : 0 ≤ h ∧ h < σ.1 10 0 4 → ¬ (0 ≤ r ∧ r < 7) → Q (some (.inr (.inl (-4611686018427387904)))) σ)
    (h3 : ¬ (0 ≤ h ∧ h < σ.1 10 0 4) → Q (some (.inr (.inl (-4611686018427387904)))) σ) :
    zM (d + 10) 178 [.inr (.inr (10, 0)), .inl h, .inl r] σ Q := by
  refine zX_run (n' := 2) (ls' := [some (.inr (.inr (10, 0))), some (.inl h), some (.inl r), none, none, none, none]) (st' := [.inl h, .inr (.inr (10, 0))]) (σ' := σ) 2 rfl ?_
  refine zX_call rfl rfl ?_
  refine zs_121 (fun a1 => ?_) (fun a2 => ?_)
  · skip
    refine zX_run (n' := 5) (ls' := [some (.inr (.inr (10, 0))), some (.inl h), some (.inl r), none, none, none, none]) (st' := [.inl r]) (σ' := σ) 2 rfl ?_
    refine zX_call rfl rfl ?_
    refine zs_119 (fun a3 => ?_) (fun a4 => ?_)
    · skip
      refine zX_run (n' := 10) (ls' := [some (.inr (.inr (10, 0))), some (.inl h), some (.inl r), none, none, none, none]) (st' := [.inr (.inr (10, 0))]) (σ' := σ) 2 rfl ?_
      exact h1 a1 a3
    · skip
      refine zX_run (n' := 8) (ls' := [some (.inr (.inr (10, 0))), some (.inl h), some (.inl r), none, none, none, none]) (st' := [.inr (.inl (-4611686018427387904))]) (σ' := σ) 2 rfl ?_
      exact zX_retL rfl rfl (h2 a1 a4)
  · skip
    refine zX_run (n' := 8) (ls' := [some (.inr (.inr (10, 0))), some (.inl h), some (.inl r), none, none, none, none]) (st' := [.inr (.inl (-4611686018427387904))]) (σ' := σ) 2 rfl ?_
    exact zX_retL rfl rfl (h3 a2)
-- X10_harm
theorem zb_178b {d : Nat} {σ : zS} {Q : Option zV → zS → Prop} {h r : Int} {x x2 x3 x4 : Option zV}
    (o1 : (0 : Int) ≤ h ∧ h < (17 : Int))
    (h1 : zX (d + 10) 178 22 [some (.inr (.inr (10, 0))), some (.inl h), some (.inl r), some (.inl (σ.1 62 0 (h.toNat))), x2, x3, x4] [.inr (.inr (10, 0))] (zU σ 62 0 (h.toNat) r) Q) :
    zX (d + 10) 178 11 [some (.inr (.inr (10, 0))), some (.inl h), some (.inl r), x, x2, x3, x4] [] σ Q := by
  refine zX_run (n' := 14) (ls' := [some (.inr (.inr (10, 0))), some (.inl h), some (.inl r), x, x2, x3, x4]) (st' := [.inl h, .inr (.inr (62, 0))]) (σ' := σ) 3 rfl ?_
  refine zX_ald1 (L := 17) rfl (by decide) rfl o1 ?_
  refine zX_run (n' := 20) (ls' := [some (.inr (.inr (10, 0))), some (.inl h), some (.inl r), some (.inl (σ.1 62 0 (h.toNat))), x2, x3, x4]) (st' := [.inl r, .inl h, .inr (.inr (62, 0))]) (σ' := σ) 5 rfl ?_
  refine zX_ast1 (L := 17) rfl (by decide) rfl o1 ?_
  refine zX_run (n' := 22) (ls' := [some (.inr (.inr (10, 0))), some (.inl h), some (.inl r), some (.inl (σ.1 62 0 (h.toNat))), x2, x3, x4]) (st' := [.inr (.inr (10, 0))]) (σ' := (zU σ 62 0 (h.toNat) r)) 1 rfl ?_
  exact h1
-- X10_harm
theorem zb_178c {d : Nat} {σ : zS} {Q : Option zV → zS → Prop} {h r w : Int} {x2 x3 x4 : Option zV}
    (o1 : (0 : Int) ≤ h ∧ h < (17 : Int))
    (h1 : zX (d + 10) 178 32 [some (.inr (.inr (10, 0))), some (.inl h), some (.inl r), some (.inl w), some (.inr (.inl 0)), none, some (.inl 0)] [] (zU σ 62 0 (h.toNat) w) Q) :
    zX (d + 10) 178 23 [some (.inr (.inr (10, 0))), some (.inl h), some (.inl r), some (.inl w), x2, x3, x4] [] σ Q := by
  refine zX_run (n' := 27) (ls' := [some (.inr (.inr (10, 0))), some (.inl h), some (.inl r), some (.inl w), x2, x3, x4]) (st' := [.inl w, .inl h, .inr (.inr (62, 0))]) (σ' := σ) 4 rfl ?_
  refine zX_ast1 (L := 17) rfl (by decide) rfl o1 ?_
  refine zX_run (n' := 32) (ls' := [some (.inr (.inr (10, 0))), some (.inl h), some (.inl r), some (.inl w), some (.inr (.inl 0)), none, some (.inl 0)]) (st' := []) (σ' := (zU σ 62 0 (h.toNat) w)) 4 rfl ?_
  exact h1
-- X10_harm
theorem zb_178l {d : Nat} {σ : zS} {Q : Option zV → zS → Prop} {h r w v k : Int}
    (o1 : ¬ σ.1 10 0 4 ≤ k → ¬ k = h → (0 : Int) ≤ k ∧ k < (17 : Int))
    (o2 : ¬ σ.1 10 0 4 ≤ k → ¬ k = h → 0 ≤ k ∧ k < 17)
    (o3 : ¬ σ.1 10 0 4 ≤ k → ¬ k = h → 0 ≤ (0 : Int) ∧ (0 : Int) ≤ (96 : Int) ∧ (96 : Int) ≤ 96)
    (h1 : σ.1 10 0 4 ≤ k → 0 < v → Q (some (.inr (.inl v))) σ)
    (h2 : σ.1 10 0 4 ≤ k → v = 0 → Q (some (.inr (.inl v))) σ)
    (h3 : σ.1 10 0 4 ≤ k → v < 0 → Q (some (.inr (.inl 0))) σ)
    (h4 : ¬ σ.1 10 0 4 ≤ k → k = h → zX (d + 10) 178 32 [some (.inr (.inr (10, 0))), some (.inl h), some (.inl r), some (.inl w), some (.inr (.inl v)), none, some (.inl (zW (k + 1)))] [] σ Q)
    (h5 : ¬ σ.1 10 0 4 ≤ k → ¬ k = h → zX (d + 10) 178 32 [some (.inr (.inr (10, 0))), some (.inl h), some (.inl r), some (.inl w), some (.inr (.inl (zWl (v + (zWl ((σ.2 101 0 (k.toNat)) - (uSw (fun m => σ.1 92 0 (17 * m + k.toNat)) (0 : Int).toNat ((96 : Int).toNat - (0 : Int).toNat)))))))), none, some (.inl (zW (k + 1)))] [] σ Q) :
    zX (d + 10) 178 32 [some (.inr (.inr (10, 0))), some (.inl h), some (.inl r), some (.inl w), some (.inr (.inl v)), none, some (.inl k)] [] σ Q := by
  refine zX_run (n' := 35) (ls' := [some (.inr (.inr (10, 0))), some (.inl h), some (.inl r), some (.inl w), some (.inr (.inl v)), none, some (.inl k)]) (st' := [.inl (σ.1 10 0 4), .inl k]) (σ' := σ) 3 rfl ?_
  refine zX_c3 rfl (fun a1 => ?_) (fun a1 => ?_)
  · skip
    refine zX_run (n' := 56) (ls' := [some (.inr (.inr (10, 0))), some (.inl h), some (.inl r), some (.inl w), some (.inr (.inl v)), none, some (.inl k)]) (st' := [.inr (.inl 0), .inr (.inl v)]) (σ' := σ) 2 rfl ?_
    refine zX_lc rfl (fun a2 => ?_) (fun a2 => ?_) (fun a2 => ?_)
    · skip
      refine zX_run (n' := 61) (ls' := [some (.inr (.inr (10, 0))), some (.inl h), some (.inl r), some (.inl w), some (.inr (.inl v)), none, some (.inl k)]) (st' := [.inr (.inl v)]) (σ' := σ) 2 rfl ?_
      exact zX_retL rfl rfl (h1 a1 a2)
    · skip
      refine zX_run (n' := 61) (ls' := [some (.inr (.inr (10, 0))), some (.inl h), some (.inl r), some (.inl w), some (.inr (.inl v)), none, some (.inl k)]) (st' := [.inr (.inl v)]) (σ' := σ) 2 rfl ?_
      exact zX_retL rfl rfl (h2 a1 a2)
    · skip
      refine zX_run (n' := 61) (ls' := [some (.inr (.inr (10, 0))), some (.inl h), some (.inl r), some (.inl w), some (.inr (.inl v)), none, some (.inl k)]) (st' := [.inr (.inl 0)]) (σ' := σ) 3 rfl ?_
      exact zX_retL rfl rfl (h3 a1 a2)
  · skip
    refine zX_run (n' := 38) (ls' := [some (.inr (.inr (10, 0))), some (.inl h), some (.inl r), some (.inl w), some (.inr (.inl v)), none, some (.inl k)]) (st' := [.inl h, .inl k]) (σ' := σ) 2 rfl ?_
    refine zX_c0 rfl (fun a3 => ?_) (fun a3 => ?_)
    · skip
      refine zX_run (n' := 32) (ls' := [some (.inr (.inr (10, 0))), some (.inl h), some (.inl r), some (.inl w), some (.inr (.inl v)), none, some (.inl (zW (k + 1)))]) (st' := []) (σ' := σ) 2 rfl ?_
      exact h4 a1 a3
    · skip
      refine zX_run (n' := 43) (ls' := [some (.inr (.inr (10, 0))), some (.inl h), some (.inl r), some (.inl w), some (.inr (.inl v)), none, some (.inl k)]) (st' := [.inl k, .inr (.inr (101, 0)), .inr (.inl v)]) (σ' := σ) 4 rfl ?_
      refine zX_ald2 (L := 17) rfl (by decide) rfl (o1 a1 a3) ?_
      refine zX_run (n' := 48) (ls' := [some (.inr (.inr (10, 0))), some (.inl h), some (.inl r), some (.inl w), some (.inr (.inl v)), none, some (.inl k)]) (st' := [.inl 96, .inl 0, .inl k, .inr (.inr (10, 0)), .inr (.inl (σ.2 101 0 (k.toNat))), .inr (.inl v)]) (σ' := σ) 4 rfl ?_
      refine zX_call rfl rfl ?_
      refine zs_160 (o2 a1 a3) (o3 a1 a3) ?_
      · skip
        refine zX_run (n' := 32) (ls' := [some (.inr (.inr (10, 0))), some (.inl h), some (.inl r), some (.inl w), some (.inr (.inl (zWl (v + (zWl ((σ.2 101 0 (k.toNat)) - (uSw (fun m => σ.1 92 0 (17 * m + k.toNat)) (0 : Int).toNat ((96 : Int).toNat - (0 : Int).toNat)))))))), none, some (.inl (zW (k + 1)))]) (st' := []) (σ' := σ) 5 rfl ?_
        exact h5 a1 a3
def uHm (g0 g1 : Nat → Int) (h : Nat) : Nat → Int
  | 0 => 0
  | n + 1 => if n = h then uHm g0 g1 h n else zWl (uHm g0 g1 h n + zWl (g0 n - g1 n))
def vHarm (σ : zS) (h r : Int) : Int := if (0 ≤ h ∧ h < mD σ 19 0) ∧ 0 ≤ r ∧ r ≤ 6 then uMaxL (uHm (vTot (mD σ)) (vTot (mD (zU σ 62 0 h.toNat r))) h.toNat (uN (mD σ))) 0 else -4611686018427387904
theorem yc_94 {d : Nat} (h r : Int) : yC (d + 60) 94 [.inl h, .inl r] (fun s => .inr (.inl (vHarm s h r))) := fun σ Q R q => by
  have q : ∀ s, yE σ s → yRel s → Q (some (.inr (.inl (vHarm σ h r)))) s := q
  obtain ⟨n8, n0, n16⟩ := yN8 R
  have oH : 0 ≤ σ.1 8 0 8 ∧ σ.1 8 0 8 ≤ 1000 := by clear q; omega
  by_cases P : (0 ≤ h ∧ h < mD σ 19 0) ∧ 0 ≤ r ∧ r ≤ 6
  case neg =>
    have q := q _ yE_r R
    rw [show vHarm σ h r = -4611686018427387904 from if_neg P] at q
    have nb : ¬ ((0 ≤ h ∧ h < σ.1 8 0 8) ∧ 0 ≤ r ∧ r ≤ 6) := by rw [n8]; exact P
    exact zb_94 (d := d + 40) oH (fun a b => absurd ⟨a, b⟩ nb) (fun _ _ => q) (fun _ => q)
  obtain ⟨h, rfl⟩ := Int.eq_ofNat_of_zero_le P.1.1
  obtain ⟨r, rfl⟩ := Int.eq_ofNat_of_zero_le P.2.1
  have hn : (h : Int) < σ.1 10 0 4 := P.1.2
  have hu : h < uN (mD σ) := (yuN R).mpr hn
  have r7 : r < 7 := by clear q; omega
  have N16 := (yOk R).2.2.2.2.1
  have P' : (0 ≤ (h : Int) ∧ (h : Int) < σ.1 8 0 8) ∧ 0 ≤ (r : Int) ∧ (r : Int) ≤ 6 := by rw [n8]; exact P
  have n4 : σ.1 8 0 8 = (uN (mD σ) : Int) := by
    rw [n8]
    show mD σ 19 0 = _
    unfold uN
    have : 0 ≤ mD σ 19 0 := n0
    clear q
    omega
  have F : vHarm σ (h : Int) (r : Int) = uMaxL (uHm (vTot (mD σ)) (vTot (mD (zU σ 62 0 h (r : Int)))) h (uN (mD σ))) 0 := if_pos P
  rw [F] at q
  refine zb_94 (d := d + 40) oH (fun _ _ => ?_) (fun _ b => absurd P'.2 b) (fun b => absurd P'.1 b)
  refine zX_call rfl rfl ?_
  refine zs_115 (d := d + 44) R hu r7 (fun s E R2 s8 x0 x1 => ?_)
  refine zb_94b (d := d + 40) ?_
  have q := q s E R2
  have s8 := s8.trans n4
  generalize vTot (mD σ) = g0 at *
  generalize vTot (mD (zU σ 62 0 h (r : Int))) = g1 at *
  generalize uN (mD σ) = N at *
  clear F E R2 R P P' hn hu n8 n0 n16 oH n4
  refine zLoop (P := fun k => zX (d + 40 + 20) 94 17 [some (.inr (.inr (9, 0))), some (.inl (h : Int)), some (.inl (r : Int)), some (.inr (.inl (uHm g0 g1 h k))), none, some (.inl (k : Int))] [] s Q) (k := 0) (N := N) (Nat.zero_le _) ?_ (fun k _ hk ih => ?_)
  · have le : s.1 8 0 8 ≤ (N : Int) := Int.le_of_eq s8
    exact zb_94l (fun a => absurd le a) (fun a => absurd le a) (fun _ => q) (fun a => absurd le a) (fun a => absurd le a)
  · have k16 : k < 16 := Nat.lt_of_lt_of_le hk N16
    have nl : ¬ s.1 8 0 8 ≤ (k : Int) := by rw [s8]; clear q ih; omega
    have hz : zW ((k : Int) + 1) = ((k + 1 : Nat) : Int) := zWs (by clear q ih; omega)
    have ik : (0 : Int) ≤ (k : Int) ∧ (k : Int) < 16 := by clear q ih; omega
    refine zb_94l (fun _ _ => ik) (fun _ _ => by decide) (fun a => absurd a nl) (fun _ c => ?_) (fun _ c => ?_)
    · have e : uHm g0 g1 h (k + 1) = uHm g0 g1 h k := if_pos (Int.ofNat.inj c)
      rw [e] at ih
      rw [hz]; exact ih
    · have e : uHm g0 g1 h (k + 1) = zWl (uHm g0 g1 h k + zWl (g0 k - g1 k)) := if_neg (fun a => c (by rw [a]))
      rw [e] at ih
      have y0 : uSw (s.1 18 (16 * 0 + (k : Int).toNat)) (0 : Int).toNat ((96 : Int).toNat - (0 : Int).toNat) = g0 k := x0 k hk
      have y1 : uSw (s.1 18 (16 * 1 + (k : Int).toNat)) (0 : Int).toNat ((96 : Int).toNat - (0 : Int).toNat) = g1 k := x1 k hk
      rw [hz, y0, y1]; exact ih
theorem ym_178 {d : Nat} (h r : Int) : yM (d + 60) 178 [.inl h, .inl r] (fun s => .inr (.inl (vHarm s h r))) := fun σ Q R q => by
  have q : ∀ s, yRel s → Q (some (.inr (.inl (vHarm σ h r)))) s := q
  obtain ⟨n8, n0, n16⟩ := yN8 R
  by_cases P : (0 ≤ h ∧ h < mD σ 19 0) ∧ 0 ≤ r ∧ r ≤ 6
  case neg =>
    have q := q _ R
    rw [show vHarm σ h r = -4611686018427387904 from if_neg P] at q
    have nb : ¬ ((0 ≤ h ∧ h < σ.1 10 0 4) ∧ 0 ≤ r ∧ r ≤ 6) := P
    exact zb_178 (d := d + 50) (fun a b => absurd (show _ from ⟨a, by clear q; omega⟩) nb) (fun _ _ => q) (fun _ => q)
  obtain ⟨h, rfl⟩ := Int.eq_ofNat_of_zero_le P.1.1
  obtain ⟨r, rfl⟩ := Int.eq_ofNat_of_zero_le P.2.1
  have hn : (h : Int) < σ.1 10 0 4 := P.1.2
  have hu : h < uN (mD σ) := (yuN R).mpr hn
  have r7 : r < 7 := by clear q; omega
  have r7' : 0 ≤ (r : Int) ∧ (r : Int) < 7 := by clear q; omega
  have N16 := (yOk R).2.2.2.2.1
  have h16 : h < 16 := Nat.lt_of_lt_of_le hu N16
  have ih : (0 : Int) ≤ (h : Int) ∧ (h : Int) < 17 := by clear q; omega
  have P' : 0 ≤ (h : Int) ∧ (h : Int) < σ.1 10 0 4 := P.1
  have n4 : σ.1 10 0 4 = (uN (mD σ) : Int) := by
    show mD σ 19 0 = _
    unfold uN
    have : 0 ≤ mD σ 19 0 := n0
    clear q
    omega
  have F : vHarm σ (h : Int) (r : Int) = uMaxL (uHm (vTot (mD σ)) (vTot (mD (zU σ 62 0 h (r : Int)))) h (uN (mD σ))) 0 := if_pos P
  rw [F] at q
  refine zb_178 (d := d + 50) (fun _ _ => ?_) (fun _ b => absurd r7' b) (fun b => absurd P' b)
  refine zX_call rfl rfl ?_
  refine zs_174 (d := d + 52) R (fun τ M R1 => ?_)
  refine zb_178b (d := d + 50) ih ?_
  obtain ⟨T, K⟩ := yTd_s R1 (h := h) r7
  have K' : mOk (zU (zFL (yR σ τ) 101 (uN (mD σ)) (vTot (mD σ))) 62 0 h (r : Int)) := K
  refine zX_call rfl rfl ?_
  refine zs_158 (d := d + 53) K' (fun τ2 M2 => ?_)
  refine zb_178c (d := d + 50) ih ?_
  have e2 : zU (yR (zU (zFL (yR σ τ) 101 (uN (mD σ)) (vTot (mD σ))) 62 0 h (r : Int)) τ2) 62 0 h (σ.1 62 0 h) = yR (zFL (yR σ τ) 101 (uN (mD σ)) (vTot (mD σ))) τ2 := by
    rw [yR_Un (by decide), zU_U]
    exact zU_self rfl
  show zX (d + 50 + 10) 178 32 [some (.inr (.inr (10, 0))), some (.inl (h : Int)), some (.inl (r : Int)), some (.inl (σ.1 62 0 h)), some (.inr (.inl 0)), none, some (.inl 0)] [] (zU (yR (zU (zFL (yR σ τ) 101 (uN (mD σ)) (vTot (mD σ))) 62 0 h (r : Int)) τ2) 62 0 h (σ.1 62 0 h)) Q
  rw [e2]
  have q := q (yR (zFL (yR σ τ) 101 (uN (mD σ)) (vTot (mD σ))) τ2) R1
  have s10 : (yR (zFL (yR σ τ) 101 (uN (mD σ)) (vTot (mD σ))) τ2).1 10 0 4 = (uN (mD σ) : Int) := n4
  have x0 : ∀ x, x < uN (mD σ) → (yR (zFL (yR σ τ) 101 (uN (mD σ)) (vTot (mD σ))) τ2).2 101 0 x = vTot (mD σ) x := fun x hx => if_pos ⟨rfl, rfl, hx⟩
  have x1 : ∀ x, x < uN (mD σ) → uSw (fun m => (yR (zFL (yR σ τ) 101 (uN (mD σ)) (vTot (mD σ))) τ2).1 92 0 (17 * m + x)) 0 96 = vTot (mD (zU σ 62 0 h (r : Int))) x := fun x hx => mr_tot M2 hx
  generalize yR (zFL (yR σ τ) 101 (uN (mD σ)) (vTot (mD σ))) τ2 = s at *
  generalize vTot (mD σ) = g0 at *
  generalize vTot (mD (zU σ 62 0 h (r : Int))) = g1 at *
  generalize uN (mD σ) = N at *
  generalize σ.1 62 0 h = w at *
  clear F e2 K' T M2 M K R1 P P' hn hu n8 n0 n16 n4 R
  refine zLoop (P := fun k => zX (d + 50 + 10) 178 32 [some (.inr (.inr (10, 0))), some (.inl (h : Int)), some (.inl (r : Int)), some (.inl w), some (.inr (.inl (uHm g0 g1 h k))), none, some (.inl (k : Int))] [] s Q) (k := 0) (N := N) (Nat.zero_le _) ?_ (fun k _ hk ih => ?_)
  · have le : s.1 10 0 4 ≤ (N : Int) := Int.le_of_eq s10
    unfold uMaxL at q
    refine zb_178l (fun a => absurd le a) (fun a => absurd le a) (fun a => absurd le a) (fun _ y => ?_) (fun _ y => ?_) (fun _ y => ?_) (fun a => absurd le a) (fun a => absurd le a)
    · rw [if_pos y] at q; exact q
    · rw [if_neg (by rw [y]; exact Int.lt_irrefl 0)] at q; rw [y]; exact q
    · rw [if_neg (Int.not_lt.mpr (Int.le_of_lt y))] at q; exact q
  · have k16 : k < 16 := Nat.lt_of_lt_of_le hk N16
    have nl : ¬ s.1 10 0 4 ≤ (k : Int) := by rw [s10]; clear q ih; omega
    have hz : zW ((k : Int) + 1) = ((k + 1 : Nat) : Int) := zWs (by clear q ih; omega)
    have ik : (0 : Int) ≤ (k : Int) ∧ (k : Int) < 17 := by clear q ih; omega
    refine zb_178l (fun _ _ => ik) (fun _ _ => ik) (fun _ _ => by decide) (fun a => absurd a nl) (fun a => absurd a nl) (fun a => absurd a nl) (fun _ c => ?_) (fun _ c => ?_)
    · have e : uHm g0 g1 h (k + 1) = uHm g0 g1 h k := if_pos (Int.ofNat.inj c)
      rw [e] at ih
      rw [hz]; exact ih
    · have e : uHm g0 g1 h (k + 1) = zWl (uHm g0 g1 h k + zWl (g0 k - g1 k)) := if_neg (fun a => c (by rw [a]))
      rw [e] at ih
      have y0 : s.2 101 0 (k : Int).toNat = g0 k := x0 k hk
      have y1 : uSw (fun m => s.1 92 0 (17 * m + (k : Int).toNat)) (0 : Int).toNat ((96 : Int).toNat - (0 : Int).toNat) = g1 k := x1 k hk
      rw [hz, y0, y1]; exact ih
theorem yp_harm {d : Nat} {σ : zS} (R : yRel σ) (h r : Int) : yPl d 94 178 [.inl h, .inl r] σ :=
  yp_ofl (f := fun s => vHarm s h r) (yc_94 h r) (ym_178 h r) (fun σ s e => by
    show vHarm s h r = vHarm σ h r
    have eL : mD (zU s 62 0 h.toNat r) = mD (zU σ 62 0 h.toNat r) := yE_mD (fun k hk => by
      show (fun n j => if k = 62 ∧ j = h.toNat ∧ n = 0 then r else s.1 k n j) = fun n j => if k = 62 ∧ j = h.toNat ∧ n = 0 then r else σ.1 k n j
      rw [e.2 k hk])
    unfold vHarm
    rw [e.1, eL]) R
