-- what the class works out of what is told (wip/whole/gen/laws4.py)
def cH (σ : zS) (h j : Nat) : Int := σ.1 1 (16 * 0 + h) j
def cRk (σ : zS) (h : Nat) : Int := uRank (cH σ h 0) (cH σ h 4)
def cSb (σ : zS) (g : Nat) (h : Nat) : Bool := decide (cH σ h 2 ≤ σ.1 1 g 2 ∧ uRank (σ.1 1 g 0) (σ.1 1 g 4) < cRk σ h)
-- X8_shutBy
theorem zb_64 {d : Nat} {σ : zS} {Q : Option zV → zS → Prop} {g : Nat} {s h : Int}
    (o1 : ¬ σ.1 8 0 8 ≤ h → (0 : Int) ≤ h ∧ h < (16 : Int))
    (h1 : σ.1 8 0 8 ≤ h → Q (some (.inl s)) σ)
    (h2 : ¬ σ.1 8 0 8 ≤ h → σ.1 1 g 2 < σ.1 1 (16 * 0 + h.toNat) 2 → zX (d + 1) 64 4 [some (.inr (.inr (8, 0))), some (.inr (.inr (1, g))), some (.inl s), some (.inl (zW (h + 1)))] [] σ Q)
    (h3 : ¬ σ.1 8 0 8 ≤ h → ¬ σ.1 1 g 2 < σ.1 1 (16 * 0 + h.toNat) 2 → uRank (σ.1 1 (16 * 0 + h.toNat) 0) (σ.1 1 (16 * 0 + h.toNat) 4) ≤ uRank (σ.1 1 g 0) (σ.1 1 g 4) → zX (d + 1) 64 4 [some (.inr (.inr (8, 0))), some (.inr (.inr (1, g))), some (.inl s), some (.inl (zW (h + 1)))] [] σ Q)
    (h4 : ¬ σ.1 8 0 8 ≤ h → ¬ σ.1 1 g 2 < σ.1 1 (16 * 0 + h.toNat) 2 → ¬ uRank (σ.1 1 (16 * 0 + h.toNat) 0) (σ.1 1 (16 * 0 + h.toNat) 4) ≤ uRank (σ.1 1 g 0) (σ.1 1 g 4) → zX (d + 1) 64 4 [some (.inr (.inr (8, 0))), some (.inr (.inr (1, g))), some (.inl (zBin 4 s (zBin 6 1 h))), some (.inl (zW (h + 1)))] [] σ Q) :
    zX (d + 1) 64 4 [some (.inr (.inr (8, 0))), some (.inr (.inr (1, g))), some (.inl s), some (.inl h)] [] σ Q := by
  refine zX_run (n' := 7) (ls' := [some (.inr (.inr (8, 0))), some (.inr (.inr (1, g))), some (.inl s), some (.inl h)]) (st' := [.inl (σ.1 8 0 8), .inl h]) (σ' := σ) 3 rfl ?_
  refine zX_c3 rfl (fun a1 => ?_) (fun a1 => ?_)
  · skip
    refine zX_run (n' := 33) (ls' := [some (.inr (.inr (8, 0))), some (.inr (.inr (1, g))), some (.inl s), some (.inl h)]) (st' := [.inl s]) (σ' := σ) 1 rfl ?_
    exact zX_ret rfl rfl (h1 a1)
  · skip
    refine zX_run (n' := 11) (ls' := [some (.inr (.inr (8, 0))), some (.inr (.inr (1, g))), some (.inl s), some (.inl h)]) (st' := [.inl h, .inr (.inr (39, 0))]) (σ' := σ) 3 rfl ?_
    refine zX_ald5 (L := 16) rfl (by decide) rfl (o1 a1) ?_
    refine zX_run (n' := 15) (ls' := [some (.inr (.inr (8, 0))), some (.inr (.inr (1, g))), some (.inl s), some (.inl h)]) (st' := [.inl (σ.1 1 g 2), .inl (σ.1 1 (16 * 0 + h.toNat) 2)]) (σ' := σ) 3 rfl ?_
    refine zX_c4 rfl (fun a2 => ?_) (fun a2 => ?_)
    · skip
      refine zX_run (n' := 4) (ls' := [some (.inr (.inr (8, 0))), some (.inr (.inr (1, g))), some (.inl s), some (.inl (zW (h + 1)))]) (st' := []) (σ' := σ) 2 rfl ?_
      exact h2 a1 a2
    · skip
      refine zX_run (n' := 19) (ls' := [some (.inr (.inr (8, 0))), some (.inr (.inr (1, g))), some (.inl s), some (.inl h)]) (st' := [.inl h, .inr (.inr (39, 0))]) (σ' := σ) 3 rfl ?_
      refine zX_ald5 (L := 16) rfl (by decide) rfl (o1 a1) ?_
      refine zX_call rfl rfl ?_
      refine zs_28 ?_
      · skip
        refine zX_run (n' := 22) (ls' := [some (.inr (.inr (8, 0))), some (.inr (.inr (1, g))), some (.inl s), some (.inl h)]) (st' := [.inr (.inr (1, g)), .inl (uRank (σ.1 1 (16 * 0 + h.toNat) 0) (σ.1 1 (16 * 0 + h.toNat) 4))]) (σ' := σ) 1 rfl ?_
        refine zX_call rfl rfl ?_
        refine zs_28 ?_
        · skip
          refine zX_c5 rfl (fun a3 => ?_) (fun a3 => ?_)
          · skip
            refine zX_run (n' := 4) (ls' := [some (.inr (.inr (8, 0))), some (.inr (.inr (1, g))), some (.inl s), some (.inl (zW (h + 1)))]) (st' := []) (σ' := σ) 2 rfl ?_
            exact h3 a1 a2 a3
          · skip
            refine zX_run (n' := 4) (ls' := [some (.inr (.inr (8, 0))), some (.inr (.inr (1, g))), some (.inl (zBin 4 s (zBin 6 1 h))), some (.inl (zW (h + 1)))]) (st' := []) (σ' := σ) 8 rfl ?_
            exact h4 a1 a2 a3
theorem zs_64 {d : Nat} {σ : zS} {Q : Option zV → zS → Prop} {g : Nat} (o1 : 0 ≤ σ.1 8 0 8 ∧ σ.1 8 0 8 ≤ 16)
    (h : Q (some (.inl (uBits (cSb σ g) (σ.1 8 0 8).toNat : Int))) σ) :
    zM (d + 1) 64 [.inr (.inr (8, 0)), .inr (.inr (1, g))] σ Q := by
  obtain ⟨n, hn⟩ := Int.eq_ofNat_of_zero_le o1.1
  rw [hn] at h o1
  refine zX_run (n' := 4) (ls' := [some (.inr (.inr (8, 0))), some (.inr (.inr (1, g))), some (.inl 0), some (.inl 0)]) (st' := []) (σ' := σ) 4 rfl ?_
  refine zLoop (P := fun k => zX (d + 1) 64 4 [some (.inr (.inr (8, 0))), some (.inr (.inr (1, g))), some (.inl (uBits (cSb σ g) k : Int)), some (.inl (k : Int))] [] σ Q) (k := 0) (N := n) (by omega) ?_ (fun k _ hk ih => ?_)
  · refine zb_64 (fun q => absurd (by omega) q) (fun _ => h) (fun q => absurd (by omega) q) (fun q => absurd (by omega) q) (fun q => absurd (by omega) q)
  · rw [← zWs (m := k) (by omega)] at ih
    have p : 2 ^ k < 2 ^ 31 := Nat.pow_lt_pow_right (by decide) (by omega)
    have b : uBits (cSb σ g) k < 2 ^ k := uBits_lt
    have no : ¬ (cH σ k 2 ≤ σ.1 1 g 2 ∧ uRank (σ.1 1 g 0) (σ.1 1 g 4) < cRk σ k) → uBits (cSb σ g) (k + 1) = uBits (cSb σ g) k := fun q => if_neg (by simpa [cSb] using q)
    refine zb_64 (fun _ => by omega) (fun q => absurd q (by omega)) (fun _ h1 => ?_) (fun _ h1 h2 => ?_) (fun _ h1 h2 => ?_)
    · rw [no (fun q => absurd q.1 (by show ¬ σ.1 1 (16 * 0 + k) 2 ≤ _; exact Int.not_le.mpr h1))] at ih; exact ih
    · rw [no (fun q => absurd q.2 (by show ¬ _ < uRank (σ.1 1 (16 * 0 + k) 0) (σ.1 1 (16 * 0 + k) 4); exact Int.not_lt.mpr h2))] at ih; exact ih
    · rw [zShl (by omega), zOr (by omega) p]
      rw [show uBits (cSb σ g) (k + 1) = uBits (cSb σ g) k ||| 2 ^ k from if_pos (decide_eq_true ⟨Int.not_lt.mp h1, Int.not_le.mp h2⟩)] at ih
      exact ih
-- X8_shutIn
theorem zb_63 {d : Nat} {σ : zS} {Q : Option zV → zS → Prop} {m l s c : Int}
    (o1 : ¬ σ.1 8 0 11 ≤ c → ¬ c = l → (0 : Int) ≤ c ∧ c < (16 : Int))
    (o2 : ¬ σ.1 8 0 11 ≤ c → ¬ c = l → σ.1 41 0 (c.toNat) = m → (0 : Int) ≤ σ.1 40 0 (c.toNat) ∧ σ.1 40 0 (c.toNat) < (16 : Int))
    (o3 : ¬ σ.1 8 0 11 ≤ c → ¬ c = l → σ.1 41 0 (c.toNat) = m → 0 ≤ σ.1 8 0 8 ∧ σ.1 8 0 8 ≤ 16)
    (h1 : σ.1 8 0 11 ≤ c → Q (some (.inl s)) σ)
    (h2 : ¬ σ.1 8 0 11 ≤ c → c = l → zX (d + 2) 63 4 [some (.inr (.inr (8, 0))), some (.inl m), some (.inl l), some (.inl s), some (.inl (zW (c + 1)))] [] σ Q)
    (h3 : ¬ σ.1 8 0 11 ≤ c → ¬ c = l → ¬ σ.1 41 0 (c.toNat) = m → zX (d + 2) 63 4 [some (.inr (.inr (8, 0))), some (.inl m), some (.inl l), some (.inl s), some (.inl (zW (c + 1)))] [] σ Q)
    (h4 : ¬ σ.1 8 0 11 ≤ c → ¬ c = l → σ.1 41 0 (c.toNat) = m → zX (d + 2) 63 4 [some (.inr (.inr (8, 0))), some (.inl m), some (.inl l), some (.inl (zBin 4 s ((uBits (cSb σ (16 * 0 + (σ.1 40 0 (c.toNat)).toNat)) (σ.1 8 0 8).toNat : Int)))), some (.inl (zW (c + 1)))] [] σ Q) :
    zX (d + 2) 63 4 [some (.inr (.inr (8, 0))), some (.inl m), some (.inl l), some (.inl s), some (.inl c)] [] σ Q := by
  refine zX_run (n' := 7) (ls' := [some (.inr (.inr (8, 0))), some (.inl m), some (.inl l), some (.inl s), some (.inl c)]) (st' := [.inl (σ.1 8 0 11), .inl c]) (σ' := σ) 3 rfl ?_
  refine zX_c3 rfl (fun a1 => ?_) (fun a1 => ?_)
  · skip
    refine zX_run (n' := 32) (ls' := [some (.inr (.inr (8, 0))), some (.inl m), some (.inl l), some (.inl s), some (.inl c)]) (st' := [.inl s]) (σ' := σ) 1 rfl ?_
    exact zX_ret rfl rfl (h1 a1)
  · skip
    refine zX_run (n' := 10) (ls' := [some (.inr (.inr (8, 0))), some (.inl m), some (.inl l), some (.inl s), some (.inl c)]) (st' := [.inl l, .inl c]) (σ' := σ) 2 rfl ?_
    refine zX_c0 rfl (fun a2 => ?_) (fun a2 => ?_)
    · skip
      refine zX_run (n' := 4) (ls' := [some (.inr (.inr (8, 0))), some (.inl m), some (.inl l), some (.inl s), some (.inl (zW (c + 1)))]) (st' := []) (σ' := σ) 2 rfl ?_
      exact h2 a1 a2
    · skip
      refine zX_run (n' := 14) (ls' := [some (.inr (.inr (8, 0))), some (.inl m), some (.inl l), some (.inl s), some (.inl c)]) (st' := [.inl c, .inr (.inr (41, 0))]) (σ' := σ) 3 rfl ?_
      refine zX_ald1 (L := 16) rfl (by decide) rfl (o1 a1 a2) ?_
      refine zX_run (n' := 16) (ls' := [some (.inr (.inr (8, 0))), some (.inl m), some (.inl l), some (.inl s), some (.inl c)]) (st' := [.inl m, .inl (σ.1 41 0 (c.toNat))]) (σ' := σ) 1 rfl ?_
      refine zX_c1 rfl (fun a3 => ?_) (fun a3 => ?_)
      · skip
        refine zX_run (n' := 4) (ls' := [some (.inr (.inr (8, 0))), some (.inl m), some (.inl l), some (.inl s), some (.inl (zW (c + 1)))]) (st' := []) (σ' := σ) 2 rfl ?_
        exact h3 a1 a2 a3
      · skip
        refine zX_run (n' := 24) (ls' := [some (.inr (.inr (8, 0))), some (.inl m), some (.inl l), some (.inl s), some (.inl c)]) (st' := [.inl c, .inr (.inr (40, 0)), .inr (.inr (39, 0)), .inr (.inr (8, 0)), .inl s]) (σ' := σ) 7 rfl ?_
        refine zX_ald1 (L := 16) rfl (by decide) rfl (o1 a1 a2) ?_
        refine zX_ald5 (L := 16) rfl (by decide) rfl (o2 a1 a2 a3) ?_
        refine zX_call rfl rfl ?_
        refine zs_64 (o3 a1 a2 a3) ?_
        · skip
          refine zX_run (n' := 4) (ls' := [some (.inr (.inr (8, 0))), some (.inl m), some (.inl l), some (.inl (zBin 4 s ((uBits (cSb σ (16 * 0 + (σ.1 40 0 (c.toNat)).toNat)) (σ.1 8 0 8).toNat : Int)))), some (.inl (zW (c + 1)))]) (st' := []) (σ' := σ) 4 rfl ?_
          exact h4 a1 a2 a3
/-- the bits of the holds that are shut in a month, one call left out -/
def cShut (σ : zS) (m l : Int) : Nat := uOrs (fun c => decide (¬ (c : Int) = l ∧ σ.1 41 0 c = m)) (fun c => uBits (cSb σ (16 * 0 + (σ.1 40 0 c).toNat)) (σ.1 8 0 8).toNat) (σ.1 8 0 11).toNat
theorem zs_63 {d : Nat} {σ : zS} {Q : Option zV → zS → Prop} {m l : Int} (o1 : 0 ≤ σ.1 8 0 8 ∧ σ.1 8 0 8 ≤ 16) (o2 : 0 ≤ σ.1 8 0 11 ∧ σ.1 8 0 11 ≤ 16) (o3 : ∀ c : Nat, (c : Int) < σ.1 8 0 11 → 0 ≤ σ.1 40 0 c ∧ σ.1 40 0 c < 16)
    (h : Q (some (.inl (cShut σ m l : Int))) σ) :
    zM (d + 2) 63 [.inr (.inr (8, 0)), .inl m, .inl l] σ Q := by
  obtain ⟨n, hn⟩ := Int.eq_ofNat_of_zero_le o1.1
  obtain ⟨k, hk⟩ := Int.eq_ofNat_of_zero_le o2.1
  unfold cShut at h
  rw [hn, hk] at h
  have o4 := o1
  rw [hn] at o1
  rw [hk] at o2 o3
  have b0 : ∀ c : Nat, uBits (cSb σ (16 * 0 + (σ.1 40 0 c).toNat)) n < 2 ^ 16 := fun c => Nat.lt_of_lt_of_le uBits_lt (Nat.pow_le_pow_right (by decide) (by omega))
  refine zX_run (n' := 4) (ls' := [some (.inr (.inr (8, 0))), some (.inl m), some (.inl l), some (.inl 0), some (.inl 0)]) (st' := []) (σ' := σ) 4 rfl ?_
  refine zLoop (P := fun c => zX (d + 2) 63 4 [some (.inr (.inr (8, 0))), some (.inl m), some (.inl l), some (.inl (uOrs (fun c => decide (¬ (c : Int) = l ∧ σ.1 41 0 c = m)) (fun c => uBits (cSb σ (16 * 0 + (σ.1 40 0 c).toNat)) n) c : Int)), some (.inl (c : Int))] [] σ Q) (k := 0) (N := k) (by omega) ?_ (fun c _ hc ih => ?_)
  · exact zb_63 (fun q => absurd (by omega) q) (fun q => absurd (by omega) q) (fun q => absurd (by omega) q) (fun _ => h) (fun q => absurd (by omega) q) (fun q => absurd (by omega) q) (fun q => absurd (by omega) q)
  · rw [← zWs (m := c) (by omega)] at ih
    have p : (2 : Nat) ^ 16 < 2 ^ 31 := by decide
    have b := uOrs_lt (q := fun c => decide (¬ (c : Int) = l ∧ σ.1 41 0 c = m)) b0 (n := c)
    have b1 := b0 c
    have no : ¬ (¬ (c : Int) = l ∧ σ.1 41 0 c = m) → uOrs (fun c => decide (¬ (c : Int) = l ∧ σ.1 41 0 c = m)) (fun c => uBits (cSb σ (16 * 0 + (σ.1 40 0 c).toNat)) n) (c + 1) = uOrs (fun c => decide (¬ (c : Int) = l ∧ σ.1 41 0 c = m)) (fun c => uBits (cSb σ (16 * 0 + (σ.1 40 0 c).toNat)) n) c := fun q => if_neg (by simpa using q)
    refine zb_63 (fun _ _ => by omega) (fun _ _ _ => o3 c (by omega)) (fun _ _ _ => o4) (fun q => absurd q (by omega)) (fun _ h1 => ?_) (fun _ h1 h2 => ?_) (fun _ h1 h2 => ?_)
    · rw [no (fun q => q.1 h1)] at ih; exact ih
    · rw [no (fun q => h2 q.2)] at ih; exact ih
    · rw [hn]
      show zX (d + 2) 63 4 [_, _, _, some (.inl (zBin 4 (_ : Int) (uBits (cSb σ (16 * 0 + (σ.1 40 0 c).toNat)) n : Int))), _] [] σ Q
      rw [zOr (by omega) (by omega)]
      rw [show uOrs (fun c => decide (¬ (c : Int) = l ∧ σ.1 41 0 c = m)) (fun c => uBits (cSb σ (16 * 0 + (σ.1 40 0 c).toNat)) n) (c + 1) = uOrs (fun c => decide (¬ (c : Int) = l ∧ σ.1 41 0 c = m)) (fun c => uBits (cSb σ (16 * 0 + (σ.1 40 0 c).toNat)) n) c ||| uBits (cSb σ (16 * 0 + (σ.1 40 0 c).toNat)) n from if_pos (decide_eq_true ⟨h1, h2⟩)] at ih
      exact ih
-- X8_isAhead
theorem zb_65 {d : Nat} {σ : zS} {Q : Option zV → zS → Prop} {x : Int} {y : Int}
    (o1 : (0 : Int) ≤ x ∧ x < (16 : Int))
    (o2 : (0 : Int) ≤ y ∧ y < (16 : Int))
    (h1 : σ.1 1 (16 * 0 + x.toNat) 2 = σ.1 1 (16 * 0 + y.toNat) 2 → uRank (σ.1 1 (16 * 0 + y.toNat) 0) (σ.1 1 (16 * 0 + y.toNat) 4) ≤ uRank (σ.1 1 (16 * 0 + x.toNat) 0) (σ.1 1 (16 * 0 + x.toNat) 4) → Q (some (.inl 0)) σ)
    (h2 : σ.1 1 (16 * 0 + x.toNat) 2 = σ.1 1 (16 * 0 + y.toNat) 2 → ¬ uRank (σ.1 1 (16 * 0 + y.toNat) 0) (σ.1 1 (16 * 0 + y.toNat) 4) ≤ uRank (σ.1 1 (16 * 0 + x.toNat) 0) (σ.1 1 (16 * 0 + x.toNat) 4) → Q (some (.inl 1)) σ)
    (h3 : ¬ σ.1 1 (16 * 0 + x.toNat) 2 = σ.1 1 (16 * 0 + y.toNat) 2 → σ.1 1 (16 * 0 + y.toNat) 2 ≤ σ.1 1 (16 * 0 + x.toNat) 2 → Q (some (.inl 0)) σ)
    (h4 : ¬ σ.1 1 (16 * 0 + x.toNat) 2 = σ.1 1 (16 * 0 + y.toNat) 2 → ¬ σ.1 1 (16 * 0 + y.toNat) 2 ≤ σ.1 1 (16 * 0 + x.toNat) 2 → Q (some (.inl 1)) σ) :
    zM (d + 1) 65 [.inr (.inr (8, 0)), .inl x, .inl y] σ Q := by
  refine zX_run (n' := 3) (ls' := [some (.inr (.inr (8, 0))), some (.inl x), some (.inl y), none, none]) (st' := [.inl x, .inr (.inr (39, 0))]) (σ' := σ) 3 rfl ?_
  refine zX_ald5 (L := 16) rfl (by decide) rfl o1 ?_
  refine zX_run (n' := 8) (ls' := [some (.inr (.inr (8, 0))), some (.inl x), some (.inl y), some (.inr (.inr (1, 16 * 0 + x.toNat))), none]) (st' := [.inl y, .inr (.inr (39, 0))]) (σ' := σ) 4 rfl ?_
  refine zX_ald5 (L := 16) rfl (by decide) rfl o2 ?_
  refine zX_run (n' := 14) (ls' := [some (.inr (.inr (8, 0))), some (.inl x), some (.inl y), some (.inr (.inr (1, 16 * 0 + x.toNat))), some (.inr (.inr (1, 16 * 0 + y.toNat)))]) (st' := [.inl (σ.1 1 (16 * 0 + y.toNat) 2), .inl (σ.1 1 (16 * 0 + x.toNat) 2)]) (σ' := σ) 5 rfl ?_
  refine zX_c0 rfl (fun a1 => ?_) (fun a1 => ?_)
  · skip
    refine zX_run (n' := 25) (ls' := [some (.inr (.inr (8, 0))), some (.inl x), some (.inl y), some (.inr (.inr (1, 16 * 0 + x.toNat))), some (.inr (.inr (1, 16 * 0 + y.toNat)))]) (st' := [.inr (.inr (1, 16 * 0 + x.toNat))]) (σ' := σ) 1 rfl ?_
    refine zX_call rfl rfl ?_
    refine zs_28 ?_
    · skip
      refine zX_run (n' := 27) (ls' := [some (.inr (.inr (8, 0))), some (.inl x), some (.inl y), some (.inr (.inr (1, 16 * 0 + x.toNat))), some (.inr (.inr (1, 16 * 0 + y.toNat)))]) (st' := [.inr (.inr (1, 16 * 0 + y.toNat)), .inl (uRank (σ.1 1 (16 * 0 + x.toNat) 0) (σ.1 1 (16 * 0 + x.toNat) 4))]) (σ' := σ) 1 rfl ?_
      refine zX_call rfl rfl ?_
      refine zs_28 ?_
      · skip
        refine zX_c3 rfl (fun a2 => ?_) (fun a2 => ?_)
        · skip
          refine zX_run (n' := 32) (ls' := [some (.inr (.inr (8, 0))), some (.inl x), some (.inl y), some (.inr (.inr (1, 16 * 0 + x.toNat))), some (.inr (.inr (1, 16 * 0 + y.toNat)))]) (st' := [.inl 0]) (σ' := σ) 1 rfl ?_
          exact zX_ret rfl rfl (h1 a1 a2)
        · skip
          refine zX_run (n' := 32) (ls' := [some (.inr (.inr (8, 0))), some (.inl x), some (.inl y), some (.inr (.inr (1, 16 * 0 + x.toNat))), some (.inr (.inr (1, 16 * 0 + y.toNat)))]) (st' := [.inl 1]) (σ' := σ) 2 rfl ?_
          exact zX_ret rfl rfl (h2 a1 a2)
  · skip
    refine zX_run (n' := 19) (ls' := [some (.inr (.inr (8, 0))), some (.inl x), some (.inl y), some (.inr (.inr (1, 16 * 0 + x.toNat))), some (.inr (.inr (1, 16 * 0 + y.toNat)))]) (st' := [.inl (σ.1 1 (16 * 0 + y.toNat) 2), .inl (σ.1 1 (16 * 0 + x.toNat) 2)]) (σ' := σ) 4 rfl ?_
    refine zX_c3 rfl (fun a3 => ?_) (fun a3 => ?_)
    · skip
      refine zX_run (n' := 32) (ls' := [some (.inr (.inr (8, 0))), some (.inl x), some (.inl y), some (.inr (.inr (1, 16 * 0 + x.toNat))), some (.inr (.inr (1, 16 * 0 + y.toNat)))]) (st' := [.inl 0]) (σ' := σ) 2 rfl ?_
      exact zX_ret rfl rfl (h3 a1 a3)
    · skip
      refine zX_run (n' := 32) (ls' := [some (.inr (.inr (8, 0))), some (.inl x), some (.inl y), some (.inr (.inr (1, 16 * 0 + x.toNat))), some (.inr (.inr (1, 16 * 0 + y.toNat)))]) (st' := [.inl 1]) (σ' := σ) 2 rfl ?_
      exact zX_ret rfl rfl (h4 a1 a3)
/-- whom the class sorts ahead of whom -/
def cAh (σ : zS) (x y : Nat) : Prop := if cH σ x 2 = cH σ y 2 then cRk σ x < cRk σ y else cH σ x 2 < cH σ y 2
