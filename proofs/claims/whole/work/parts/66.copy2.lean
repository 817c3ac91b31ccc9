-- copy, the whole call (wip/whole/gen/laws41.py)
theorem z2_186 {d : Nat} {σ : zS} {Q : Option zV → zS → Prop} {s i t j n : Int} (hn : -2147483648 ≤ n ∧ n ≤ 2147483647) (hi : -2147483648 ≤ i ∧ i ≤ 2147483647) (hj : -2147483648 ≤ j ∧ j ≤ 2147483647)
    (b : (0 ≤ s ∧ s ≤ 3 ∧ 0 ≤ t ∧ t ≤ 3) → (0 ≤ σ.1 75 0 s.toNat ∧ σ.1 75 0 s.toNat ≤ 40) ∧ 0 ≤ σ.1 75 0 t.toNat ∧ σ.1 75 0 t.toNat ≤ 40)
    (h0 : ¬ (0 ≤ s ∧ s ≤ 3 ∧ 0 ≤ t ∧ t ≤ 3) → Q (some (.inl (-2))) σ)
    (h1 : (0 ≤ s ∧ s ≤ 3 ∧ 0 ≤ t ∧ t ≤ 3) → σ.1 74 0 s.toNat = -1 ∨ σ.1 74 0 t.toNat = -1 → Q (some (.inl (-11))) σ)
    (h2 : (0 ≤ s ∧ s ≤ 3 ∧ 0 ≤ t ∧ t ≤ 3) → ¬ σ.1 74 0 s.toNat = -1 → ¬ σ.1 74 0 t.toNat = -1 → ¬ σ.1 74 0 s.toNat = σ.1 74 0 t.toNat → Q (some (.inl (-13))) σ)
    (h3 : (0 ≤ s ∧ s ≤ 3 ∧ 0 ≤ t ∧ t ≤ 3) → ¬ σ.1 74 0 s.toNat = -1 → ¬ σ.1 74 0 t.toNat = -1 → σ.1 74 0 s.toNat = σ.1 74 0 t.toNat → ¬ (0 ≤ n ∧ 0 ≤ i ∧ 0 ≤ j ∧ i + n ≤ σ.1 75 0 s.toNat ∧ j + n ≤ σ.1 75 0 t.toNat) → Q (some (.inl (-12))) σ)
    (h4 : (0 ≤ s ∧ s ≤ 3 ∧ 0 ≤ t ∧ t ≤ 3) → ¬ σ.1 74 0 s.toNat = -1 → ¬ σ.1 74 0 t.toNat = -1 → σ.1 74 0 s.toNat = σ.1 74 0 t.toNat → 0 ≤ n ∧ 0 ≤ i ∧ 0 ≤ j ∧ i + n ≤ σ.1 75 0 s.toNat ∧ j + n ≤ σ.1 75 0 t.toNat → zX (d + 3) 186 63 [some (.inr (.inr (10, 0))), some (.inl s), some (.inl i), some (.inl t), some (.inl j), some (.inl n), some (.inl 0)] [] σ Q) :
    zM (d + 3) 186 [.inr (.inr (10, 0)), .inl s, .inl i, .inl t, .inl j, .inl n] σ Q := by
  by_cases W : (0 ≤ s ∧ s ≤ 3 ∧ 0 ≤ t ∧ t ≤ 3)
  case neg => exact zb_186 (fun _ _ _ _ => by omega) (fun _ _ _ _ _ => by omega) (fun a0 => h0 W) (fun a0 a1 => h0 W) (fun a0 a1 a2 => h0 W) (fun a0 a1 a2 a3 a4 => absurd (by omega) W) (fun a0 a1 a2 a3 a4 a5 a6 a7 => absurd (by omega) W) (fun a0 a1 a2 a3 a4 a5 a6 a7 a8 => absurd (by omega) W) (fun a0 a1 a2 a3 a4 a5 a6 a7 a8 a9 => absurd (by omega) W) (fun a0 a1 a2 a3 a4 a5 a6 a7 a8 a9 a10 => absurd (by omega) W) (fun a0 a1 a2 a3 a4 a5 a6 a7 a8 a9 a10 a11 => absurd (by omega) W) (fun a0 a1 a2 a3 a4 a5 a6 a7 a8 a9 a10 a11 => absurd (by omega) W) (fun a0 a1 a2 a3 a4 a5 a6 => absurd (by omega) W) (fun a0 a1 a2 a3 a4 a5 => absurd (by omega) W) (fun a0 a1 a2 a3 => h0 W)
  have b1 := (b W).1
  have b2 := (b W).2
  clear b
  have z1 : n < 0 ∨ zW (σ.1 75 0 s.toNat - n) = σ.1 75 0 s.toNat - n := by unfold zW; omega
  have z2 : n < 0 ∨ zW (σ.1 75 0 t.toNat - n) = σ.1 75 0 t.toNat - n := by unfold zW; omega
  have z3 : i < 0 ∨ zW (σ.1 75 0 s.toNat - i) = σ.1 75 0 s.toNat - i := by unfold zW; omega
  have z4 : j < 0 ∨ zW (σ.1 75 0 t.toNat - j) = σ.1 75 0 t.toNat - j := by unfold zW; omega
  exact zb_186 (fun _ _ _ _ => by omega) (fun _ _ _ _ _ => by omega) (fun a0 => h0 (by omega)) (fun a0 a1 => h0 (by omega)) (fun a0 a1 a2 => h0 (by omega)) (fun a0 a1 a2 a3 a4 => h1 (by omega) (by omega)) (fun a0 a1 a2 a3 a4 a5 a6 a7 => h3 (by omega) (by omega) (by omega) (by omega) (by omega)) (fun a0 a1 a2 a3 a4 a5 a6 a7 a8 => h3 (by omega) (by omega) (by omega) (by omega) (by omega)) (fun a0 a1 a2 a3 a4 a5 a6 a7 a8 a9 => h3 (by omega) (by omega) (by omega) (by omega) (by omega)) (fun a0 a1 a2 a3 a4 a5 a6 a7 a8 a9 a10 => h3 (by omega) (by omega) (by omega) (by omega) (by omega)) (fun a0 a1 a2 a3 a4 a5 a6 a7 a8 a9 a10 a11 => h4 (by omega) (by omega) (by omega) (by omega) (by omega)) (fun a0 a1 a2 a3 a4 a5 a6 a7 a8 a9 a10 a11 => h3 (by omega) (by omega) (by omega) (by omega) (by omega)) (fun a0 a1 a2 a3 a4 a5 a6 => h2 (by omega) (by omega) (by omega) (by omega)) (fun a0 a1 a2 a3 a4 a5 => h1 (by omega) (by omega)) (fun a0 a1 a2 a3 => h0 (by omega))
theorem z2_101 {d : Nat} {σ : zS} {Q : Option zV → zS → Prop} {s i t j n : Int} (hn : -2147483648 ≤ n ∧ n ≤ 2147483647) (hi : -2147483648 ≤ i ∧ i ≤ 2147483647) (hj : -2147483648 ≤ j ∧ j ≤ 2147483647)
    (b : (0 ≤ s ∧ s ≤ 3 ∧ 0 ≤ t ∧ t ≤ 3) → (0 ≤ σ.1 6 (4 * 0 + s.toNat) 2 ∧ σ.1 6 (4 * 0 + s.toNat) 2 ≤ 40) ∧ 0 ≤ σ.1 6 (4 * 0 + t.toNat) 2 ∧ σ.1 6 (4 * 0 + t.toNat) 2 ≤ 40)
    (h0 : ¬ (0 ≤ s ∧ s ≤ 3 ∧ 0 ≤ t ∧ t ≤ 3) → Q (some (.inl (-2))) σ)
    (h1 : (0 ≤ s ∧ s ≤ 3 ∧ 0 ≤ t ∧ t ≤ 3) → σ.1 6 (4 * 0 + s.toNat) 1 = -1 ∨ σ.1 6 (4 * 0 + t.toNat) 1 = -1 → Q (some (.inl (-11))) σ)
    (h2 : (0 ≤ s ∧ s ≤ 3 ∧ 0 ≤ t ∧ t ≤ 3) → ¬ σ.1 6 (4 * 0 + s.toNat) 1 = -1 → ¬ σ.1 6 (4 * 0 + t.toNat) 1 = -1 → ¬ σ.1 6 (4 * 0 + s.toNat) 1 = σ.1 6 (4 * 0 + t.toNat) 1 → Q (some (.inl (-13))) σ)
    (h3 : (0 ≤ s ∧ s ≤ 3 ∧ 0 ≤ t ∧ t ≤ 3) → ¬ σ.1 6 (4 * 0 + s.toNat) 1 = -1 → ¬ σ.1 6 (4 * 0 + t.toNat) 1 = -1 → σ.1 6 (4 * 0 + s.toNat) 1 = σ.1 6 (4 * 0 + t.toNat) 1 → ¬ (0 ≤ n ∧ 0 ≤ i ∧ 0 ≤ j ∧ i + n ≤ σ.1 6 (4 * 0 + s.toNat) 2 ∧ j + n ≤ σ.1 6 (4 * 0 + t.toNat) 2) → Q (some (.inl (-12))) σ)
    (h4 : (0 ≤ s ∧ s ≤ 3 ∧ 0 ≤ t ∧ t ≤ 3) → ¬ σ.1 6 (4 * 0 + s.toNat) 1 = -1 → ¬ σ.1 6 (4 * 0 + t.toNat) 1 = -1 → σ.1 6 (4 * 0 + s.toNat) 1 = σ.1 6 (4 * 0 + t.toNat) 1 → 0 ≤ n ∧ 0 ≤ i ∧ 0 ≤ j ∧ i + n ≤ σ.1 6 (4 * 0 + s.toNat) 2 ∧ j + n ≤ σ.1 6 (4 * 0 + t.toNat) 2 → zX (d + 14) 101 54 [some (.inr (.inr (9, 0))), some (.inl s), some (.inl i), some (.inl t), some (.inl j), some (.inl n), some (.inr (.inr (6, 4 * 0 + s.toNat))), some (.inr (.inr (6, 4 * 0 + t.toNat)))] [.inl n, .inl j, .inr (.inr (32, 4 * 0 + t.toNat)), .inl i, .inr (.inr (32, 4 * 0 + s.toNat))] σ Q) :
    zM (d + 14) 101 [.inr (.inr (9, 0)), .inl s, .inl i, .inl t, .inl j, .inl n] σ Q := by
  by_cases W : (0 ≤ s ∧ s ≤ 3 ∧ 0 ≤ t ∧ t ≤ 3)
  case neg => exact zb_101 (fun _ _ => by omega) (fun _ _ => by omega) (fun a0 a1 a2 => absurd (by omega) W) (fun a0 a1 a2 a3 a4 a5 => absurd (by omega) W) (fun a0 a1 a2 a3 a4 a5 a6 => absurd (by omega) W) (fun a0 a1 a2 a3 a4 a5 a6 a7 => absurd (by omega) W) (fun a0 a1 a2 a3 a4 a5 a6 a7 a8 => absurd (by omega) W) (fun a0 a1 a2 a3 a4 a5 a6 a7 a8 a9 => absurd (by omega) W) (fun a0 a1 a2 a3 a4 a5 a6 a7 a8 a9 a10 => absurd (by omega) W) (fun a0 a1 a2 a3 a4 a5 a6 a7 a8 a9 a10 a11 => absurd (by omega) W) (fun a0 a1 a2 a3 a4 a5 a6 a7 a8 a9 a10 a11 a12 => absurd (by omega) W) (fun a0 a1 a2 a3 a4 a5 a6 a7 a8 a9 a10 a11 a12 => absurd (by omega) W) (fun a0 a1 a2 a3 a4 => absurd (by omega) W) (fun a0 a1 a2 a3 => absurd (by omega) W) (fun a0 a1 => h0 W) (fun a0 => h0 W)
  have b1 := (b W).1
  have b2 := (b W).2
  clear b
  have z1 : n < 0 ∨ zW (σ.1 6 (4 * 0 + s.toNat) 2 - n) = σ.1 6 (4 * 0 + s.toNat) 2 - n := by unfold zW; omega
  have z2 : n < 0 ∨ zW (σ.1 6 (4 * 0 + t.toNat) 2 - n) = σ.1 6 (4 * 0 + t.toNat) 2 - n := by unfold zW; omega
  have z3 : i < 0 ∨ zW (σ.1 6 (4 * 0 + s.toNat) 2 - i) = σ.1 6 (4 * 0 + s.toNat) 2 - i := by unfold zW; omega
  have z4 : j < 0 ∨ zW (σ.1 6 (4 * 0 + t.toNat) 2 - j) = σ.1 6 (4 * 0 + t.toNat) 2 - j := by unfold zW; omega
  exact zb_101 (fun _ _ => by omega) (fun _ _ => by omega) (fun a0 a1 a2 => h1 (by omega) (by omega)) (fun a0 a1 a2 a3 a4 a5 => h3 (by omega) (by omega) (by omega) (by omega) (by omega)) (fun a0 a1 a2 a3 a4 a5 a6 => h3 (by omega) (by omega) (by omega) (by omega) (by omega)) (fun a0 a1 a2 a3 a4 a5 a6 a7 => h3 (by omega) (by omega) (by omega) (by omega) (by omega)) (fun a0 a1 a2 a3 a4 a5 a6 a7 a8 => h3 (by omega) (by omega) (by omega) (by omega) (by omega)) (fun a0 a1 a2 a3 a4 a5 a6 a7 a8 a9 => h3 (by omega) (by omega) (by omega) (by omega) (by omega)) (fun a0 a1 a2 a3 a4 a5 a6 a7 a8 a9 a10 => h3 (by omega) (by omega) (by omega) (by omega) (by omega)) (fun a0 a1 a2 a3 a4 a5 a6 a7 a8 a9 a10 a11 => h3 (by omega) (by omega) (by omega) (by omega) (by omega)) (fun a0 a1 a2 a3 a4 a5 a6 a7 a8 a9 a10 a11 a12 => h3 (by omega) (by omega) (by omega) (by omega) (by omega)) (fun a0 a1 a2 a3 a4 a5 a6 a7 a8 a9 a10 a11 a12 => h4 (by omega) (by omega) (by omega) (by omega) (by omega)) (fun a0 a1 a2 a3 a4 => h2 (by omega) (by omega) (by omega) (by omega)) (fun a0 a1 a2 a3 => h1 (by omega) (by omega)) (fun a0 a1 => h0 (by omega)) (fun a0 => h0 (by omega))
theorem yp_copy {d : Nat} {σ : zS} (R : yRel σ) (s i t j n : Int) (hi : -2147483648 ≤ i ∧ i ≤ 2147483647) (hj : -2147483648 ≤ j ∧ j ≤ 2147483647) (hn : -2147483648 ≤ n ∧ n ≤ 2147483647) : yPi d 101 186 [.inl s, .inl i, .inl t, .inl j, .inl n] σ := by
  have Sh := R.2.2.2.2.2.2.2.2.2.1
  have E : ∀ s : Int, 0 ≤ s ∧ s ≤ 3 → σ.1 6 (4 * 0 + s.toNat) 1 = σ.1 74 0 s.toNat ∧ σ.1 6 (4 * 0 + s.toNat) 2 = σ.1 75 0 s.toNat ∧ 0 ≤ σ.1 75 0 s.toNat ∧ σ.1 75 0 s.toNat ≤ 40 := fun s q => by
    obtain ⟨h1, h2, h3, h4, h5⟩ := Sh s.toNat (by omega)
    exact ⟨h1, h3, h4⟩
  have bM : 0 ≤ s ∧ s ≤ 3 ∧ 0 ≤ t ∧ t ≤ 3 → (0 ≤ σ.1 75 0 s.toNat ∧ σ.1 75 0 s.toNat ≤ 40) ∧ 0 ≤ σ.1 75 0 t.toNat ∧ σ.1 75 0 t.toNat ≤ 40 := fun W => ⟨(E s ⟨W.1, W.2.1⟩).2.2, (E t W.2.2).2.2⟩
  refine z2_101 (d := d + 46) hn hi hj (fun W => ?_) (fun nW => ?_) (fun W a => ?_) (fun W a b c => ?_) (fun W a b c e => ?_) (fun W a b c e => ?_)
  · rw [(E s ⟨W.1, W.2.1⟩).2.1, (E t W.2.2).2.1]; exact bM W
  · exact z2_186 (d := d + 57) hn hi hj bM (fun _ => ⟨⟨_, rfl, rfl⟩, R⟩) (fun W _ => absurd W nW) (fun W _ _ _ => absurd W nW) (fun W _ _ _ _ => absurd W nW) (fun W _ _ _ _ => absurd W nW)
  · rw [(E s ⟨W.1, W.2.1⟩).1, (E t W.2.2).1] at a
    exact z2_186 (d := d + 57) hn hi hj bM (fun nW => absurd W nW) (fun _ _ => ⟨⟨_, rfl, rfl⟩, R⟩) (fun _ x y _ => (a.elim (absurd · x) (absurd · y))) (fun _ x y _ _ => (a.elim (absurd · x) (absurd · y))) (fun _ x y _ _ => (a.elim (absurd · x) (absurd · y)))
  · rw [(E s ⟨W.1, W.2.1⟩).1] at a c
    rw [(E t W.2.2).1] at b c
    exact z2_186 (d := d + 57) hn hi hj bM (fun nW => absurd W nW) (fun _ x => (x.elim (absurd · a) (absurd · b))) (fun _ _ _ _ => ⟨⟨_, rfl, rfl⟩, R⟩) (fun _ _ _ x _ => absurd x c) (fun _ _ _ x _ => absurd x c)
  · rw [(E s ⟨W.1, W.2.1⟩).1] at a c
    rw [(E t W.2.2).1] at b c
    rw [(E s ⟨W.1, W.2.1⟩).2.1, (E t W.2.2).2.1] at e
    exact z2_186 (d := d + 57) hn hi hj bM (fun nW => absurd W nW) (fun _ x => (x.elim (absurd · a) (absurd · b))) (fun _ _ _ x => absurd c x) (fun _ _ _ _ _ => ⟨⟨_, rfl, rfl⟩, R⟩) (fun _ _ _ _ x => absurd x e)
  · rw [(E s ⟨W.1, W.2.1⟩).1] at a c
    rw [(E t W.2.2).1] at b c
    rw [(E s ⟨W.1, W.2.1⟩).2.1, (E t W.2.2).2.1] at e
    have B := bM W
    clear E
    obtain ⟨s, rfl⟩ := Int.eq_ofNat_of_zero_le W.1
    obtain ⟨t, rfl⟩ := Int.eq_ofNat_of_zero_le W.2.2.1
    obtain ⟨i, rfl⟩ := Int.eq_ofNat_of_zero_le e.2.1
    obtain ⟨j, rfl⟩ := Int.eq_ofNat_of_zero_le e.2.2.1
    obtain ⟨n, rfl⟩ := Int.eq_ofNat_of_zero_le e.1
    have s4 : s < 4 := by omega
    have t4 : t < 4 := by omega
    have i4 : i + n ≤ 40 := by omega
    have j4 : j + n ≤ 40 := by omega
    have F := yr_copy R s4 t4 i4 j4
    refine zX_cpy (L := 40) (L2 := 40) rfl (by omega) rfl ⟨rfl, rfl⟩ rfl rfl ⟨by omega, by omega, by omega, by omega, by omega⟩ ?_
    refine zb_101a (d := d + 46) ?_
    refine z2_186 (d := d + 57) hn hi hj bM (fun nW => absurd W nW) (fun _ x => (x.elim (absurd · a) (absurd · b))) (fun _ _ _ x => absurd c x) (fun _ _ _ _ x => absurd e x) (fun _ _ _ _ _ => ?_)
    refine zl_186a (d := d + 57) s4 i4 ?_
    exact zl_186b (d := d + 57) t4 j4 ⟨⟨_, rfl, rfl⟩, F⟩
