-- readings (wip/whole/gen/laws34.py)
-- X10_readOf
theorem zb_126a {d : Nat} {σ : zS} {Q : Option zV → zS → Prop} {r m k : Int} {x : Option zV}
    (h1 : k < 0 → Q (some (.inl 0)) σ)
    (h2 : ¬ k < 0 → zX (d + 0) 126 9 [some (.inr (.inr (10, 0))), some (.inl r), some (.inl m), some (.inl k), some (.inl (zW ((σ.1 10 0 3) - 1)))] [] σ Q) :
    zX (d + 0) 126 2 [some (.inr (.inr (10, 0))), some (.inl r), some (.inl m), some (.inl k), x] [] σ Q := by
  refine zX_run (n' := 3) (ls' := [some (.inr (.inr (10, 0))), some (.inl r), some (.inl m), some (.inl k), x]) (st' := [.inl k]) (σ' := σ) 1 rfl ?_
  refine zX_i2 rfl (fun a1 => ?_) (fun a1 => ?_)
  · skip
    refine zX_run (n' := 33) (ls' := [some (.inr (.inr (10, 0))), some (.inl r), some (.inl m), some (.inl k), x]) (st' := [.inl 0]) (σ' := σ) 1 rfl ?_
    exact zX_ret rfl rfl (h1 a1)
  · skip
    refine zX_run (n' := 9) (ls' := [some (.inr (.inr (10, 0))), some (.inl r), some (.inl m), some (.inl k), some (.inl (zW ((σ.1 10 0 3) - 1)))]) (st' := []) (σ' := σ) 5 rfl ?_
    exact h2 a1
-- X10_readOf
theorem zb_126b {d : Nat} {σ : zS} {Q : Option zV → zS → Prop} {r m k g : Int}
    (o1 : ¬ g < 0 → (0 : Int) ≤ g ∧ g < (40 : Int))
    (h1 : g < 0 → zX (d + 0) 126 2 [some (.inr (.inr (10, 0))), some (.inl r), some (.inl m), some (.inl (zW (k + (-1)))), some (.inl g)] [] σ Q)
    (h2 : ¬ g < 0 → ¬ σ.1 52 0 (g.toNat) = k → zX (d + 0) 126 9 [some (.inr (.inr (10, 0))), some (.inl r), some (.inl m), some (.inl k), some (.inl (zW (g + (-1))))] [] σ Q)
    (h3 : ¬ g < 0 → σ.1 52 0 (g.toNat) = k → ¬ σ.1 53 0 (g.toNat) = m → zX (d + 0) 126 9 [some (.inr (.inr (10, 0))), some (.inl r), some (.inl m), some (.inl k), some (.inl (zW (g + (-1))))] [] σ Q)
    (h4 : ¬ g < 0 → σ.1 52 0 (g.toNat) = k → σ.1 53 0 (g.toNat) = m → Q (some (.inl (σ.1 54 0 (g.toNat)))) σ) :
    zX (d + 0) 126 9 [some (.inr (.inr (10, 0))), some (.inl r), some (.inl m), some (.inl k), some (.inl g)] [] σ Q := by
  refine zX_run (n' := 10) (ls' := [some (.inr (.inr (10, 0))), some (.inl r), some (.inl m), some (.inl k), some (.inl g)]) (st' := [.inl g]) (σ' := σ) 1 rfl ?_
  refine zX_i2 rfl (fun a1 => ?_) (fun a1 => ?_)
  · skip
    refine zX_run (n' := 2) (ls' := [some (.inr (.inr (10, 0))), some (.inl r), some (.inl m), some (.inl (zW (k + (-1)))), some (.inl g)]) (st' := []) (σ' := σ) 2 rfl ?_
    exact h1 a1
  · skip
    refine zX_run (n' := 14) (ls' := [some (.inr (.inr (10, 0))), some (.inl r), some (.inl m), some (.inl k), some (.inl g)]) (st' := [.inl g, .inr (.inr (52, 0))]) (σ' := σ) 3 rfl ?_
    refine zX_ald1 (L := 40) rfl (by decide) rfl (o1 a1) ?_
    refine zX_run (n' := 16) (ls' := [some (.inr (.inr (10, 0))), some (.inl r), some (.inl m), some (.inl k), some (.inl g)]) (st' := [.inl k, .inl (σ.1 52 0 (g.toNat))]) (σ' := σ) 1 rfl ?_
    refine zX_c1 rfl (fun a2 => ?_) (fun a2 => ?_)
    · skip
      refine zX_run (n' := 9) (ls' := [some (.inr (.inr (10, 0))), some (.inl r), some (.inl m), some (.inl k), some (.inl (zW (g + (-1))))]) (st' := []) (σ' := σ) 2 rfl ?_
      exact h2 a1 a2
    · skip
      refine zX_run (n' := 20) (ls' := [some (.inr (.inr (10, 0))), some (.inl r), some (.inl m), some (.inl k), some (.inl g)]) (st' := [.inl g, .inr (.inr (53, 0))]) (σ' := σ) 3 rfl ?_
      refine zX_ald1 (L := 40) rfl (by decide) rfl (o1 a1) ?_
      refine zX_run (n' := 22) (ls' := [some (.inr (.inr (10, 0))), some (.inl r), some (.inl m), some (.inl k), some (.inl g)]) (st' := [.inl m, .inl (σ.1 53 0 (g.toNat))]) (σ' := σ) 1 rfl ?_
      refine zX_c1 rfl (fun a3 => ?_) (fun a3 => ?_)
      · skip
        refine zX_run (n' := 9) (ls' := [some (.inr (.inr (10, 0))), some (.inl r), some (.inl m), some (.inl k), some (.inl (zW (g + (-1))))]) (st' := []) (σ' := σ) 2 rfl ?_
        exact h3 a1 a2 a3
      · skip
        refine zX_run (n' := 26) (ls' := [some (.inr (.inr (10, 0))), some (.inl r), some (.inl m), some (.inl k), some (.inl g)]) (st' := [.inl g, .inr (.inr (54, 0))]) (σ' := σ) 3 rfl ?_
        refine zX_ald1 (L := 40) rfl (by decide) rfl (o1 a1) ?_
        exact zX_ret rfl rfl (h4 a1 a2 a3)
-- X10_readOf
theorem zb_126 {d : Nat} {σ : zS} {Q : Option zV → zS → Prop} {r : Int} {m : Int}
    (h1 : zX (d + 1) 126 2 [some (.inr (.inr (10, 0))), some (.inl r), some (.inl m), some (.inl r), none] [] σ Q) :
    zM (d + 1) 126 [.inr (.inr (10, 0)), .inl r, .inl m] σ Q := by
  refine zX_run (n' := 2) (ls' := [some (.inr (.inr (10, 0))), some (.inl r), some (.inl m), some (.inl r), none]) (st' := []) (σ' := σ) 2 rfl ?_
  exact h1
def mGv (σ : zS) : Prop := (0 ≤ σ.1 10 0 3 ∧ σ.1 10 0 3 ≤ 40) ∧ ∀ g : Nat, (g : Int) < σ.1 10 0 3 → 0 ≤ σ.1 54 0 g
def uRdp (g : Nat → Int) : Nat → Int
  | 0 => 0
  | t + 1 => uRd g t
theorem uRd_p {g : Nat → Int} {t : Nat} : uRd g t = if g t = -1 then uRdp g t else g t := by cases t <;> rfl
theorem zr_in {d : Nat} {σ : zS} {Q : Option zV → zS → Prop} {r : Int} {k m N : Nat} (hk : k < 7) (hN : N ≤ 40) (V : ∀ g, g < N → 0 ≤ σ.1 54 0 g) : ∀ j, j ≤ N →
    (mGl (σ.1 52 0) (σ.1 53 0) (σ.1 54 0) k m j = -1 → zX (d + 0) 126 2 [some (.inr (.inr (10, 0))), some (.inl r), some (.inl (m : Int)), some (.inl ((k : Int) - 1)), some (.inl (-1))] [] σ Q) →
    (¬ mGl (σ.1 52 0) (σ.1 53 0) (σ.1 54 0) k m j = -1 → Q (some (.inl (mGl (σ.1 52 0) (σ.1 53 0) (σ.1 54 0) k m j))) σ) →
    zX (d + 0) 126 9 [some (.inr (.inr (10, 0))), some (.inl r), some (.inl (m : Int)), some (.inl (k : Int)), some (.inl ((j : Int) - 1))] [] σ Q := by
  intro j
  induction j with
  | zero =>
    intro hj hn hf
    have q0 : (((0 : Nat) : Int) - 1) = -1 := by decide
    rw [q0]
    refine zb_126b (fun q => absurd (by decide) q) (fun _ => ?_) (fun q => absurd (by decide) q) (fun q => absurd (by decide) q) (fun q => absurd (by decide) q)
    rw [show zW ((k : Int) + (-1)) = (k : Int) - 1 by unfold zW; omega]
    exact hn rfl
  | succ j ih =>
    intro hj hn hf
    rw [show ((j + 1 : Nat) : Int) - 1 = (j : Int) by omega]
    have E : mGl (σ.1 52 0) (σ.1 53 0) (σ.1 54 0) k m (j + 1) = if σ.1 52 0 j = (k : Int) ∧ σ.1 53 0 j = (m : Int) then σ.1 54 0 j else mGl (σ.1 52 0) (σ.1 53 0) (σ.1 54 0) k m j := rfl
    have z : zW ((j : Int) + (-1)) = (j : Int) - 1 := by unfold zW; omega
    refine zb_126b (fun _ => by omega) (fun q => absurd q (by omega)) (fun _ a => ?_) (fun _ a b => ?_) (fun _ a b => ?_)
    · rw [z]; rw [if_neg (fun q => a q.1)] at E; rw [E] at hn hf; exact ih (by omega) hn hf
    · rw [z]; rw [if_neg (fun q => b q.2)] at E; rw [E] at hn hf; exact ih (by omega) hn hf
    · rw [if_pos ⟨a, b⟩] at E; rw [E] at hf
      have v := V j (by omega)
      exact hf (by omega)
theorem zr_out {d : Nat} {σ : zS} {Q : Option zV → zS → Prop} {r : Int} {m : Nat} (G : mGv σ) : ∀ t : Nat, t ≤ 7 → ∀ x : Option zV, Q (some (.inl (uRdp (mG σ m) t))) σ →
    zX (d + 0) 126 2 [some (.inr (.inr (10, 0))), some (.inl r), some (.inl (m : Int)), some (.inl ((t : Int) - 1)), x] [] σ Q := by
  intro t
  induction t with
  | zero =>
    intro ht x h
    exact zb_126a (fun _ => h) (fun q => absurd (by decide) q)
  | succ t ih =>
    intro ht x h
    rw [show ((t + 1 : Nat) : Int) - 1 = (t : Int) by omega]
    obtain ⟨⟨G1, G2⟩, G3⟩ := G
    obtain ⟨n, hn⟩ := Int.eq_ofNat_of_zero_le G1
    have hN : n ≤ 40 := by omega
    refine zb_126a (fun q => absurd q (by omega)) (fun _ => ?_)
    rw [hn, show zW ((n : Int) - 1) = (n : Int) - 1 by unfold zW; omega]
    have eM : mG σ m t = mGl (σ.1 52 0) (σ.1 53 0) (σ.1 54 0) t m n := by unfold mG; rw [hn]; rfl
    have h : Q (some (.inl (uRd (mG σ m) t))) σ := h
    rw [uRd_p, eM] at h
    refine zr_in (N := n) (by omega) hN (fun g hg => G3 g (by omega)) n (Nat.le_refl _) (fun e => ?_) (fun e => ?_)
    · rw [if_pos e] at h; exact ih (by omega) _ h
    · rw [if_neg e] at h; exact h
theorem zs_126 {d : Nat} {σ : zS} {Q : Option zV → zS → Prop} {r m : Int} (o1 : 0 ≤ r ∧ r < 7) (o2 : 0 ≤ m ∧ m < 96) (o3 : mGv σ)
    (h : Q (some (.inl (mRead σ r.toNat m.toNat))) σ) : zM (d + 1) 126 [.inr (.inr (10, 0)), .inl r, .inl m] σ Q := by
  obtain ⟨r, rfl⟩ := Int.eq_ofNat_of_zero_le o1.1
  obtain ⟨m, rfl⟩ := Int.eq_ofNat_of_zero_le o2.1
  refine zb_126 ?_
  have F := zr_out (d := d + 1) (r := (r : Int)) (m := m) o3 (r + 1) (by omega) none h
  rw [show ((r + 1 : Nat) : Int) - 1 = (r : Int) by omega] at F
  exact F
-- X10_read
theorem zb_127 {d : Nat} {σ : zS} {Q : Option zV → zS → Prop} {r : Int} {m : Int}
    (o1 : 0 ≤ r ∧ r < 7 → 0 ≤ m ∧ m < 96 → 0 ≤ r ∧ r < 7)
    (o2 : 0 ≤ r ∧ r < 7 → 0 ≤ m ∧ m < 96 → 0 ≤ m ∧ m < 96)
    (o3 : 0 ≤ r ∧ r < 7 → 0 ≤ m ∧ m < 96 → mGv σ)
    (h1 : 0 ≤ r ∧ r < 7 → 0 ≤ m ∧ m < 96 → Q (some (.inl (mRead σ r.toNat m.toNat))) σ)
    (h2 : 0 ≤ r ∧ r < 7 → ¬ (0 ≤ m ∧ m < 96) → Q (some (.inl (-2))) σ)
    (h3 : ¬ (0 ≤ r ∧ r < 7) → Q (some (.inl (-2))) σ) :
    zM (d + 4) 127 [.inr (.inr (10, 0)), .inl r, .inl m] σ Q := by
  refine zX_run (n' := 1) (ls' := [some (.inr (.inr (10, 0))), some (.inl r), some (.inl m)]) (st' := [.inl r]) (σ' := σ) 1 rfl ?_
  refine zX_call rfl rfl ?_
  refine zs_119 (fun a1 => ?_) (fun a2 => ?_)
  · skip
    refine zX_run (n' := 4) (ls' := [some (.inr (.inr (10, 0))), some (.inl r), some (.inl m)]) (st' := [.inl m]) (σ' := σ) 2 rfl ?_
    refine zX_call rfl rfl ?_
    refine zs_120 (fun a3 => ?_) (fun a4 => ?_)
    · skip
      refine zX_run (n' := 9) (ls' := [some (.inr (.inr (10, 0))), some (.inl r), some (.inl m)]) (st' := [.inl m, .inl r, .inr (.inr (10, 0))]) (σ' := σ) 4 rfl ?_
      refine zX_call rfl rfl ?_
      refine zs_126 (o1 a1 a3) (o2 a1 a3) (o3 a1 a3) ?_
      · skip
        refine zX_run (n' := 12) (ls' := [some (.inr (.inr (10, 0))), some (.inl r), some (.inl m)]) (st' := [.inl (mRead σ r.toNat m.toNat)]) (σ' := σ) 1 rfl ?_
        exact zX_ret rfl rfl (h1 a1 a3)
    · skip
      refine zX_run (n' := 12) (ls' := [some (.inr (.inr (10, 0))), some (.inl r), some (.inl m)]) (st' := [.inl (-2)]) (σ' := σ) 2 rfl ?_
      exact zX_ret rfl rfl (h2 a1 a4)
  · skip
    refine zX_run (n' := 12) (ls' := [some (.inr (.inr (10, 0))), some (.inl r), some (.inl m)]) (st' := [.inl (-2)]) (σ' := σ) 2 rfl ?_
    exact zX_ret rfl rfl (h3 a2)
theorem yp_read {d : Nat} {σ : zS} (R : yRel σ) (r m : Int) : yPi d 72 127 [.inl r, .inl m] σ := by
  obtain ⟨G1, G2, G3⟩ := R.2.1
  have V : mGv σ := ⟨G1.2, fun g hg => (G2 g hg).2.1⟩
  refine zb_72 (d := d + 57) (fun a _ => by omega) (fun _ b => by omega) (fun a b => ?_) (fun a b => ?_) (fun a => ?_)
  · have E := (rGau_eq R.2.1 (r := r.toNat) (m := m.toNat) (by omega) (by omega)).1
    rw [E]
    exact zb_127 (d := d + 56) (fun q _ => q) (fun _ q => q) (fun _ _ => V) (fun _ _ => ⟨⟨_, rfl, rfl⟩, R⟩) (fun _ n => absurd (by omega) n) (fun n => absurd (by omega) n)
  · exact zb_127 (d := d + 56) (fun q _ => q) (fun _ q => q) (fun _ _ => V) (fun _ n => absurd (by omega) b) (fun _ _ => ⟨⟨_, rfl, rfl⟩, R⟩) (fun n => absurd (by omega) n)
  · exact zb_127 (d := d + 56) (fun q _ => q) (fun _ q => q) (fun _ _ => V) (fun n _ => absurd (by omega) a) (fun n _ => absurd (by omega) a) (fun _ => ⟨⟨_, rfl, rfl⟩, R⟩)
