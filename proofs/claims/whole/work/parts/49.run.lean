-- the reference: the law of a run (wip/whole/gen/laws29.py)
-- X10_run
theorem zb_158g {d : Nat} {σ : zS} {Q : Option zV → zS → Prop} {m : Int} {x : Option zV}
    (h1 : 96 ≤ m → Q (none) σ)
    (h2 : ¬ 96 ≤ m → zX (d + 6) 158 142 [some (.inr (.inr (10, 0))), some (.inl m), some (.inl 0)] [] σ Q) :
    zX (d + 6) 158 137 [some (.inr (.inr (10, 0))), some (.inl m), x] [] σ Q := by
  refine zX_run (n' := 139) (ls' := [some (.inr (.inr (10, 0))), some (.inl m), x]) (st' := [.inl 96, .inl m]) (σ' := σ) 2 rfl ?_
  refine zX_c3 rfl (fun a1 => ?_) (fun a1 => ?_)
  · skip
    exact zX_ret0 rfl rfl (h1 a1)
  · skip
    refine zX_run (n' := 142) (ls' := [some (.inr (.inr (10, 0))), some (.inl m), some (.inl 0)]) (st' := []) (σ' := σ) 2 rfl ?_
    exact h2 a1
-- X10_run
theorem zb_158h {d : Nat} {σ : zS} {Q : Option zV → zS → Prop} {m r : Int}
    (h1 : 7 ≤ r → zX (d + 6) 158 137 [some (.inr (.inr (10, 0))), some (.inl (zW (m + 1))), some (.inl r)] [] σ Q)
    (h2 : ¬ 7 ≤ r → zX (d + 6) 158 148 [some (.inr (.inr (10, 0))), some (.inl m), some (.inl r)] [.inl m, .inl r, .inr (.inr (10, 0))] σ Q) :
    zX (d + 6) 158 142 [some (.inr (.inr (10, 0))), some (.inl m), some (.inl r)] [] σ Q := by
  refine zX_run (n' := 144) (ls' := [some (.inr (.inr (10, 0))), some (.inl m), some (.inl r)]) (st' := [.inl 7, .inl r]) (σ' := σ) 2 rfl ?_
  refine zX_c3 rfl (fun a1 => ?_) (fun a1 => ?_)
  · skip
    refine zX_run (n' := 137) (ls' := [some (.inr (.inr (10, 0))), some (.inl (zW (m + 1))), some (.inl r)]) (st' := []) (σ' := σ) 2 rfl ?_
    exact h1 a1
  · skip
    refine zX_run (n' := 148) (ls' := [some (.inr (.inr (10, 0))), some (.inl m), some (.inl r)]) (st' := [.inl m, .inl r, .inr (.inr (10, 0))]) (σ' := σ) 3 rfl ?_
    exact h2 a1
-- X10_run
theorem zb_158i {d : Nat} {σ : zS} {Q : Option zV → zS → Prop} {m r : Int}
    (h1 : zX (d + 6) 158 142 [some (.inr (.inr (10, 0))), some (.inl m), some (.inl (zW (r + 1)))] [] σ Q) :
    zX (d + 6) 158 149 [some (.inr (.inr (10, 0))), some (.inl m), some (.inl r)] [] σ Q := by
  refine zX_run (n' := 142) (ls' := [some (.inr (.inr (10, 0))), some (.inl m), some (.inl (zW (r + 1)))]) (st' := []) (σ' := σ) 2 rfl ?_
  exact h1
def mRds (σ τ : zS) : Prop := ∀ x y, x < 7 → y < 96 → τ.1 100 0 (7 * y + x) = mRead σ x y
theorem mMod7 {k : Nat} (h : k < 672) : zW ((k : Int) - zW (zW ((k : Int).tdiv 7) * 7)) = ((k % 7 : Nat) : Int) := by
  rw [zTd (by omega)]; unfold zW; omega
theorem zs_158a {d : Nat} {σ τ : zS} {Q : Option zV → zS → Prop} (h : ∀ τ' : zS, (∀ j, j < 672 → τ'.1 100 0 j = -1) → zX (d + 6) 158 14 [some (.inr (.inr (10, 0))), some (.inl 0), none] [] (yR σ τ') Q) :
    zX (d + 6) 158 2 [some (.inr (.inr (10, 0))), some (.inl 0), none] [] (yR σ τ) Q := by
  refine zLoop (P := fun k => ∀ τ : zS, (∀ j, j < k → τ.1 100 0 j = -1) → zX (d + 6) 158 2 [some (.inr (.inr (10, 0))), some (.inl (k : Int)), none] [] (yR σ τ) Q) (k := 0) (N := 672) (by omega) (fun τ I => ?_) (fun k _ hk ih τ I => ?_) τ (fun j hj => absurd hj (by omega))
  · exact zb_158a (fun q => absurd (by decide) q) (fun _ => h τ I) (fun q => absurd (by decide) q)
  · refine zb_158a (fun _ => by omega) (fun q => absurd q (by omega)) (fun _ => ?_)
    rw [yR_U rfl, zWs (by omega)]
    refine ih _ (fun j hj => ?_)
    show (if 100 = 100 ∧ j = k ∧ 0 = 0 then -1 else τ.1 100 0 j) = -1
    by_cases e : j = k
    · rw [if_pos ⟨rfl, e, rfl⟩]
    · rw [if_neg (fun q => e q.2.1)]; exact I j (by omega)
def mGok (σ : zS) : Prop := (0 ≤ σ.1 10 0 3 ∧ σ.1 10 0 3 ≤ 40) ∧ ∀ g : Nat, (g : Int) < σ.1 10 0 3 → (0 ≤ σ.1 52 0 g ∧ σ.1 52 0 g < 7) ∧ (0 ≤ σ.1 53 0 g ∧ σ.1 53 0 g < 96)
theorem zs_158b {d : Nat} {σ τ : zS} {Q : Option zV → zS → Prop} (G : mGok σ) (h0 : ∀ j, j < 672 → τ.1 100 0 j = -1) (h : ∀ τ' : zS, (∀ x y, x < 7 → y < 96 → τ'.1 100 0 (7 * y + x) = mG σ y x) → zX (d + 6) 158 40 [some (.inr (.inr (10, 0))), some (.inl 0), none] [] (yR σ τ') Q) :
    zX (d + 6) 158 14 [some (.inr (.inr (10, 0))), some (.inl 0), none] [] (yR σ τ) Q := by
  obtain ⟨G1, G2⟩ := G
  obtain ⟨n, hn⟩ := Int.eq_ofNat_of_zero_le G1.1
  refine zLoop (P := fun k => ∀ τ : zS, (∀ x y, x < 7 → y < 96 → τ.1 100 0 (7 * y + x) = mGl (σ.1 52 0) (σ.1 53 0) (σ.1 54 0) x y k) → zX (d + 6) 158 14 [some (.inr (.inr (10, 0))), some (.inl (k : Int)), none] [] (yR σ τ) Q) (k := 0) (N := n) (by omega) (fun τ I => ?_) (fun k _ hk ih τ I => ?_) τ (fun x y hx hy => h0 _ (by omega))
  · have ge : (yR σ τ).1 10 0 3 ≤ (n : Int) := Int.le_of_eq hn
    refine zb_158b (fun q => absurd ge q) (fun q => absurd ge q) (fun _ => h τ (fun x y hx hy => ?_)) (fun q => absurd ge q)
    rw [I x y hx hy]; unfold mG; rw [hn]; rfl
  · have lt : ¬ (yR σ τ).1 10 0 3 ≤ (k : Int) := mNk hk _ hn
    have g := G2 k (by omega)
    obtain ⟨a, ha⟩ := Int.eq_ofNat_of_zero_le g.1.1
    obtain ⟨b, hb⟩ := Int.eq_ofNat_of_zero_le g.2.1
    rw [ha, hb] at g
    have ix : zW ((zW (7 * (yR σ τ).1 53 0 (k : Int).toNat)) + (yR σ τ).1 52 0 (k : Int).toNat) = ((7 * b + a : Nat) : Int) := by
      show zW ((zW (7 * σ.1 53 0 k)) + σ.1 52 0 k) = _
      rw [ha, hb]; exact zI_7 (by omega) (by omega)
    refine zb_158b (fun _ => by omega) (fun _ => by rw [ix]; omega) (fun q => absurd q lt) (fun _ => ?_)
    rw [ix, yR_U rfl, zWs (by omega)]
    refine ih _ (fun x y hx hy => ?_)
    show (if 100 = 100 ∧ 7 * y + x = 7 * b + a ∧ 0 = 0 then σ.1 54 0 k else τ.1 100 0 (7 * y + x)) = (if σ.1 52 0 k = (x : Int) ∧ σ.1 53 0 k = (y : Int) then σ.1 54 0 k else _)
    rw [ha, hb]
    by_cases e : x = a ∧ y = b
    · rw [if_pos ⟨rfl, by omega, rfl⟩, if_pos (by omega)]
    · rw [if_neg (by omega), if_neg (by omega)]; exact I x y hx hy
theorem zs_158c {d : Nat} {σ τ : zS} {Q : Option zV → zS → Prop} (h0 : ∀ x y, x < 7 → y < 96 → τ.1 100 0 (7 * y + x) = mG σ y x) (h : ∀ τ' : zS, mRds σ τ' → zX (d + 6) 158 69 [some (.inr (.inr (10, 0))), some (.inl 0), none] [] (yR σ τ') Q) :
    zX (d + 6) 158 40 [some (.inr (.inr (10, 0))), some (.inl 0), none] [] (yR σ τ) Q := by
  refine zLoop (P := fun k => ∀ τ : zS, (∀ x y, x < 7 → y < 96 → τ.1 100 0 (7 * y + x) = if 7 * y + x < k then mRead σ x y else mG σ y x) → zX (d + 6) 158 40 [some (.inr (.inr (10, 0))), some (.inl (k : Int)), none] [] (yR σ τ) Q) (k := 0) (N := 672) (by omega) (fun τ I => ?_) (fun k _ hk ih τ I => ?_) τ (fun x y hx hy => by rw [if_neg (by omega)]; exact h0 x y hx hy)
  · refine zb_158c (fun q => absurd (by decide) q) (fun q => absurd (by decide) q) (fun _ => h τ (fun x y hx hy => ?_)) (fun q => absurd (by decide) q) (fun q => absurd (by decide) q) (fun q => absurd (by decide) q)
    rw [I x y hx hy, if_pos (by omega)]
  · have m7 := mMod7 hk
    obtain ⟨y, x, hx, hkk⟩ : ∃ y x, x < 7 ∧ k = 7 * y + x := ⟨k / 7, k % 7, by omega, by omega⟩
    have hy : y < 96 := by omega
    have v := I x y hx hy
    rw [if_neg (by omega), ← hkk] at v
    have nx : ∀ τ2 : zS, (∀ j, ¬ j = k → τ2.1 100 0 j = τ.1 100 0 j) → τ2.1 100 0 k = mRead σ x y → ∀ x' y', x' < 7 → y' < 96 → τ2.1 100 0 (7 * y' + x') = if 7 * y' + x' < k + 1 then mRead σ x' y' else mG σ y' x' := by
      intro τ2 e1 e2 x' y' hx' hy'
      by_cases e : 7 * y' + x' = k
      · have e3 : x' = x ∧ y' = y := by omega
        rw [e3.1, e3.2, ← hkk, e2, if_pos (by omega)]
      · rw [e1 _ e, I x' y' hx' hy']
        by_cases l : 7 * y' + x' < k
        · rw [if_pos l, if_pos (by omega)]
        · rw [if_neg l, if_neg (by omega)]
    have up : ∀ v2, ∀ j, ¬ j = k → (zU τ 100 0 k v2).1 100 0 j = τ.1 100 0 j := fun v2 j hj => if_neg (fun q => hj q.2.1)
    have x7 : k % 7 = x := by omega
    refine zb_158c (fun _ => by omega) (fun _ _ q => ?_) (fun q => absurd q (by omega)) (fun _ q => ?_) (fun _ q q2 => ?_) (fun _ q q2 => ?_)
    · rw [m7, x7] at q; rw [zW_id (by omega)]; omega
    · rw [zWs (by omega)]
      refine ih τ (nx τ (fun _ _ => rfl) ?_)
      have q : ¬ τ.1 100 0 k = -1 := q
      rw [v] at q ⊢
      unfold mRead
      cases x with
      | zero => exact (if_neg q).symm
      | succ x => exact (if_neg q).symm
    · rw [zWs (by omega), zS1 (by omega) (by omega), yR_U rfl]
      refine ih _ (nx _ (up _) ?_)
      rw [show (zU τ 100 0 ((k : Int)).toNat _).1 100 0 k = _ from zU_same]
      have q : τ.1 100 0 k = -1 := q
      rw [v] at q
      rw [m7, x7] at q2
      cases x with
      | zero => exact absurd rfl q2
      | succ x =>
        show τ.1 100 0 (k - 1) = _
        have := I x y (by omega) hy
        rw [if_pos (by omega)] at this
        rw [show k - 1 = 7 * y + x by omega, this]
        exact (if_pos q).symm
    · rw [zWs (by omega), yR_U rfl]
      refine ih _ (nx _ (up _) ?_)
      rw [show (zU τ 100 0 ((k : Int)).toNat _).1 100 0 k = _ from zU_same]
      have q : τ.1 100 0 k = -1 := q
      rw [v] at q
      rw [m7, x7] at q2
      cases x with
      | zero => exact (if_pos q).symm
      | succ x => exact absurd q2 (by omega)
