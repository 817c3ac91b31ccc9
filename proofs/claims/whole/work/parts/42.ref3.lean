-- the reference: what a hold wants (wip/whole/gen/laws22.py)
def mPart (σ : zS) (t : Nat) (u : Int) : List Int := if u = 0 then mCode σ t 0 (σ.1 73 0 t).toNat else mCode σ t (σ.1 73 0 t).toNat ((σ.1 72 0 t).toNat - (σ.1 73 0 t).toNat)
def mTok (σ : zS) (t : Nat) : Prop := (0 ≤ σ.1 73 0 t ∧ σ.1 73 0 t ≤ σ.1 72 0 t ∧ σ.1 72 0 t ≤ 160) ∧ (∀ j : Nat, (j : Int) < σ.1 72 0 t → 0 ≤ σ.1 71 0 (200 * t + j) ∧ σ.1 71 0 (200 * t + j) ≤ 1000000) ∧ uHt (mPart σ t 0) 0 = some 1 ∧ uHt (mPart σ t 1) 0 = some 1
theorem zs_155 {d : Nat} {σ : zS} {Q : Option zV → zS → Prop} {t p m u : Int} (o1 : 0 ≤ t ∧ t < 6) (o2 : 0 ≤ p ∧ p < 17) (o3 : 0 ≤ m ∧ m < 96) (o4 : 0 ≤ σ.1 62 0 p.toNat ∧ σ.1 62 0 p.toNat < 7) (o5 : mTok σ t.toNat) (o6 : u = 0 ∨ u = 1)
    (h : ∀ g : Nat → Nat → Int, Q (some (.inl ((uEv (mNm σ p.toNat m.toNat) (mPart σ t.toNat u) []).headD 0))) (zK σ 98 g)) :
    zM (d + 3) 155 [.inr (.inr (10, 0)), .inl t, .inl p, .inl m, .inl u] σ Q := by
  obtain ⟨t, rfl⟩ := Int.eq_ofNat_of_zero_le o1.1
  obtain ⟨p, rfl⟩ := Int.eq_ofNat_of_zero_le o2.1
  obtain ⟨m, rfl⟩ := Int.eq_ofNat_of_zero_le o3.1
  simp only [Int.toNat_natCast] at o4 o5 h
  obtain ⟨⟨a1, a2, a3⟩, a4, a5, a6⟩ := o5
  obtain ⟨e1, he1⟩ := Int.eq_ofNat_of_zero_le a1
  obtain ⟨e2, he2⟩ := Int.eq_ofNat_of_zero_le (show 0 ≤ σ.1 72 0 t by omega)
  unfold mPart at a5 a6 h
  rw [he1] at a5 a6 h
  rw [he2] at a5 a6 h
  have e9 : σ = zK σ 98 (σ.1 98) := zK_self
  refine zb_155n (fun _ => by omega) (fun _ => by omega) (fun hp => ?_) (fun hp => ?_)
  · show zX (d + 3) 155 23 [_, _, _, _, _, _, some (.inl (σ.1 73 0 t)), _, _, _, _] [] σ Q
    rw [he1]
    rw [if_pos hp] at h
    rw [if_pos rfl] at a5
    have := zs_155l (d := d) (σ := σ) (Q := Q) (t := t) (p := p) (m := m) (u := u) (e := e1) (by omega) (by omega) (by omega) o4 (by omega) (fun j hj => a4 j (by omega)) e1 (i := 0) (s := []) (g := σ.1 98) (x := none) (y := none) (z := none) (by omega) a5 (by simp) (fun j hj => absurd hj (by simp)) h
    rw [← e9] at this
    exact this
  · show zX (d + 3) 155 23 [_, _, _, _, _, _, some (.inl (σ.1 72 0 t)), some (.inl (σ.1 73 0 t)), _, _, _] [] σ Q
    rw [he1, he2]
    rw [if_neg hp] at h
    rw [if_neg (by decide)] at a6
    have := zs_155l (d := d) (σ := σ) (Q := Q) (t := t) (p := p) (m := m) (u := u) (e := e2) (by omega) (by omega) (by omega) o4 (by omega) (fun j hj => a4 j (by omega)) (e2 - e1) (i := e1) (s := []) (g := σ.1 98) (x := none) (y := none) (z := none) (by omega) a6 (by simp) (fun j hj => absurd hj (by simp)) h
    rw [← e9] at this
    exact this
-- X10_wantsOf
theorem zb_156a {d : Nat} {σ : zS} {Q : Option zV → zS → Prop} {p : Int} {m : Int}
    (o1 : ¬ zBin 3 (zBin 7 (σ.1 10 0 66) p) 1 = 1 → (0 : Int) ≤ p ∧ p < (17 : Int))
    (o2 : ¬ zBin 3 (zBin 7 (σ.1 10 0 66) p) 1 = 1 → ¬ m < σ.1 65 0 (p.toNat) → ¬ σ.1 66 0 (p.toNat) ≤ m → 0 ≤ p ∧ p < 17)
    (o3 : ¬ zBin 3 (zBin 7 (σ.1 10 0 66) p) 1 = 1 → ¬ m < σ.1 65 0 (p.toNat) → ¬ σ.1 66 0 (p.toNat) ≤ m → 0 ≤ σ.1 10 0 5 ∧ σ.1 10 0 5 ≤ 16)
    (o4 : ¬ zBin 3 (zBin 7 (σ.1 10 0 66) p) 1 = 1 → ¬ m < σ.1 65 0 (p.toNat) → ¬ σ.1 66 0 (p.toNat) ≤ m → ∀ c : Nat, (c : Int) < σ.1 10 0 5 → 0 ≤ σ.1 67 0 c ∧ σ.1 67 0 c < 17)
    (h1 : zBin 3 (zBin 7 (σ.1 10 0 66) p) 1 = 1 → Q (some (.inl 0)) σ)
    (h2 : ¬ zBin 3 (zBin 7 (σ.1 10 0 66) p) 1 = 1 → m < σ.1 65 0 (p.toNat) → Q (some (.inl 0)) σ)
    (h3 : ¬ zBin 3 (zBin 7 (σ.1 10 0 66) p) 1 = 1 → ¬ m < σ.1 65 0 (p.toNat) → σ.1 66 0 (p.toNat) ≤ m → Q (some (.inl 0)) σ)
    (h4 : ¬ zBin 3 (zBin 7 (σ.1 10 0 66) p) 1 = 1 → ¬ m < σ.1 65 0 (p.toNat) → ¬ σ.1 66 0 (p.toNat) ≤ m → mSh σ p.toNat m = true → Q (some (.inl 0)) σ)
    (h5 : ¬ zBin 3 (zBin 7 (σ.1 10 0 66) p) 1 = 1 → ¬ m < σ.1 65 0 (p.toNat) → ¬ σ.1 66 0 (p.toNat) ≤ m → ¬ mSh σ p.toNat m = true → zX (d + 4) 156 27 [some (.inr (.inr (10, 0))), some (.inl p), some (.inl m), none, none, none] [] σ Q) :
    zM (d + 4) 156 [.inr (.inr (10, 0)), .inl p, .inl m] σ Q := by
  refine zX_run (n' := 7) (ls' := [some (.inr (.inr (10, 0))), some (.inl p), some (.inl m), none, none, none]) (st' := [.inl 1, .inl (zBin 3 (zBin 7 (σ.1 10 0 66) p) 1)]) (σ' := σ) 7 rfl ?_
  refine zX_c0 rfl (fun a1 => ?_) (fun a1 => ?_)
  · skip
    refine zX_run (n' := 26) (ls' := [some (.inr (.inr (10, 0))), some (.inl p), some (.inl m), none, none, none]) (st' := [.inl 0]) (σ' := σ) 1 rfl ?_
    exact zX_ret rfl rfl (h1 a1)
  · skip
    refine zX_run (n' := 12) (ls' := [some (.inr (.inr (10, 0))), some (.inl p), some (.inl m), none, none, none]) (st' := [.inl p, .inr (.inr (65, 0)), .inl m]) (σ' := σ) 4 rfl ?_
    refine zX_ald1 (L := 17) rfl (by decide) rfl (o1 a1) ?_
    refine zX_c2 rfl (fun a2 => ?_) (fun a2 => ?_)
    · skip
      refine zX_run (n' := 26) (ls' := [some (.inr (.inr (10, 0))), some (.inl p), some (.inl m), none, none, none]) (st' := [.inl 0]) (σ' := σ) 1 rfl ?_
      exact zX_ret rfl rfl (h2 a1 a2)
    · skip
      refine zX_run (n' := 18) (ls' := [some (.inr (.inr (10, 0))), some (.inl p), some (.inl m), none, none, none]) (st' := [.inl p, .inr (.inr (66, 0)), .inl m]) (σ' := σ) 4 rfl ?_
      refine zX_ald1 (L := 17) rfl (by decide) rfl (o1 a1) ?_
      refine zX_c3 rfl (fun a3 => ?_) (fun a3 => ?_)
      · skip
        refine zX_run (n' := 26) (ls' := [some (.inr (.inr (10, 0))), some (.inl p), some (.inl m), none, none, none]) (st' := [.inl 0]) (σ' := σ) 1 rfl ?_
        exact zX_ret rfl rfl (h3 a1 a2 a3)
      · skip
        refine zX_run (n' := 23) (ls' := [some (.inr (.inr (10, 0))), some (.inl p), some (.inl m), none, none, none]) (st' := [.inl m, .inl p, .inr (.inr (10, 0))]) (σ' := σ) 3 rfl ?_
        refine zX_call rfl rfl ?_
        refine zs_140 (o2 a1 a2 a3) (o3 a1 a2 a3) (o4 a1 a2 a3) (fun a4 => ?_) (fun a5 => ?_)
        · skip
          refine zX_run (n' := 26) (ls' := [some (.inr (.inr (10, 0))), some (.inl p), some (.inl m), none, none, none]) (st' := [.inl 0]) (σ' := σ) 2 rfl ?_
          exact zX_ret rfl rfl (h4 a1 a2 a3 a4)
        · skip
          refine zX_run (n' := 27) (ls' := [some (.inr (.inr (10, 0))), some (.inl p), some (.inl m), none, none, none]) (st' := []) (σ' := σ) 1 rfl ?_
          exact h5 a1 a2 a3 a5
-- X10_wantsOf
theorem zb_156b {d : Nat} {σ : zS} {Q : Option zV → zS → Prop} {p m : Int}
    (o1 : (0 : Int) ≤ p ∧ p < (17 : Int))
    (o2 : (0 : Int) ≤ σ.1 61 0 (p.toNat) ∧ σ.1 61 0 (p.toNat) < (4 : Int))
    (o3 : 0 ≤ (σ.1 70 0 ((σ.1 61 0 (p.toNat)).toNat)) ∧ (σ.1 70 0 ((σ.1 61 0 (p.toNat)).toNat)) < 6)
    (o4 : 0 ≤ p ∧ p < 17)
    (o5 : 0 ≤ m ∧ m < 96)
    (o6 : 0 ≤ σ.1 62 0 p.toNat ∧ σ.1 62 0 p.toNat < 7)
    (o7 : mTok σ (σ.1 70 0 ((σ.1 61 0 (p.toNat)).toNat)).toNat)
    (o8 : (0 : Int) = 0 ∨ (0 : Int) = 1)
    (o9 : ∀ G1 : Nat → Nat → Int, ¬ ((uEv (mNm σ p.toNat m.toNat) (mPart σ (σ.1 70 0 ((σ.1 61 0 (p.toNat)).toNat)).toNat 0) []).headD 0) = 0 → 0 ≤ (zK σ 98 G1).1 62 0 p.toNat ∧ (zK σ 98 G1).1 62 0 p.toNat < 7)
    (o10 : ∀ G1 : Nat → Nat → Int, ¬ ((uEv (mNm σ p.toNat m.toNat) (mPart σ (σ.1 70 0 ((σ.1 61 0 (p.toNat)).toNat)).toNat 0) []).headD 0) = 0 → mTok (zK σ 98 G1) (σ.1 70 0 ((σ.1 61 0 (p.toNat)).toNat)).toNat)
    (o11 : ∀ G1 : Nat → Nat → Int, ¬ ((uEv (mNm σ p.toNat m.toNat) (mPart σ (σ.1 70 0 ((σ.1 61 0 (p.toNat)).toNat)).toNat 0) []).headD 0) = 0 → (1 : Int) = 0 ∨ (1 : Int) = 1)
    (o12 : ∀ G1 : Nat → Nat → Int, ¬ ((uEv (mNm σ p.toNat m.toNat) (mPart σ (σ.1 70 0 ((σ.1 61 0 (p.toNat)).toNat)).toNat 0) []).headD 0) = 0 → ∀ G2 : Nat → Nat → Int, 0 ≤ ((uEv (mNm (zK σ 98 G1) p.toNat m.toNat) (mPart (zK σ 98 G1) (σ.1 70 0 ((σ.1 61 0 (p.toNat)).toNat)).toNat 1) []).headD 0) → ((uEv (mNm (zK σ 98 G1) p.toNat m.toNat) (mPart (zK σ 98 G1) (σ.1 70 0 ((σ.1 61 0 (p.toNat)).toNat)).toNat 1) []).headD 0) ≤ 100 → 0 ≤ (zK (zK σ 98 G1) 98 G2).1 62 0 p.toNat ∧ (zK (zK σ 98 G1) 98 G2).1 62 0 p.toNat < 7)
    (o13 : ∀ G1 : Nat → Nat → Int, ¬ ((uEv (mNm σ p.toNat m.toNat) (mPart σ (σ.1 70 0 ((σ.1 61 0 (p.toNat)).toNat)).toNat 0) []).headD 0) = 0 → ∀ G2 : Nat → Nat → Int, 0 ≤ ((uEv (mNm (zK σ 98 G1) p.toNat m.toNat) (mPart (zK σ 98 G1) (σ.1 70 0 ((σ.1 61 0 (p.toNat)).toNat)).toNat 1) []).headD 0) → ¬ ((uEv (mNm (zK σ 98 G1) p.toNat m.toNat) (mPart (zK σ 98 G1) (σ.1 70 0 ((σ.1 61 0 (p.toNat)).toNat)).toNat 1) []).headD 0) ≤ 100 → 0 ≤ (zK (zK σ 98 G1) 98 G2).1 62 0 p.toNat ∧ (zK (zK σ 98 G1) 98 G2).1 62 0 p.toNat < 7)
    (o14 : ∀ G1 : Nat → Nat → Int, ¬ ((uEv (mNm σ p.toNat m.toNat) (mPart σ (σ.1 70 0 ((σ.1 61 0 (p.toNat)).toNat)).toNat 0) []).headD 0) = 0 → ∀ G2 : Nat → Nat → Int, ¬ 0 ≤ ((uEv (mNm (zK σ 98 G1) p.toNat m.toNat) (mPart (zK σ 98 G1) (σ.1 70 0 ((σ.1 61 0 (p.toNat)).toNat)).toNat 1) []).headD 0) → 0 ≤ (zK (zK σ 98 G1) 98 G2).1 62 0 p.toNat ∧ (zK (zK σ 98 G1) 98 G2).1 62 0 p.toNat < 7)
    (h1 : ∀ G1 : Nat → Nat → Int, ¬ ((uEv (mNm σ p.toNat m.toNat) (mPart σ (σ.1 70 0 ((σ.1 61 0 (p.toNat)).toNat)).toNat 0) []).headD 0) = 0 → ∀ G2 : Nat → Nat → Int, 0 ≤ ((uEv (mNm (zK σ 98 G1) p.toNat m.toNat) (mPart (zK σ 98 G1) (σ.1 70 0 ((σ.1 61 0 (p.toNat)).toNat)).toNat 1) []).headD 0) → ((uEv (mNm (zK σ 98 G1) p.toNat m.toNat) (mPart (zK σ 98 G1) (σ.1 70 0 ((σ.1 61 0 (p.toNat)).toNat)).toNat 1) []).headD 0) ≤ 100 → Q (some (.inl (zW ((uAsk ((zK (zK σ 98 G1) 98 G2).1 60 0 p.toNat) ((zK (zK σ 98 G1) 98 G2).1 63 0 p.toNat) (zW (m - zW (zW (m.tdiv 12) * 12))) ((zK (zK σ 98 G1) 98 G2).1 100 0 (7 * m.toNat + ((zK (zK σ 98 G1) 98 G2).1 62 0 p.toNat).toNat))) - (zW ((zW ((uAsk ((zK (zK σ 98 G1) 98 G2).1 60 0 p.toNat) ((zK (zK σ 98 G1) 98 G2).1 63 0 p.toNat) (zW (m - zW (zW (m.tdiv 12) * 12))) ((zK (zK σ 98 G1) 98 G2).1 100 0 (7 * m.toNat + ((zK (zK σ 98 G1) 98 G2).1 62 0 p.toNat).toNat))) * (((uEv (mNm (zK σ 98 G1) p.toNat m.toNat) (mPart (zK σ 98 G1) (σ.1 70 0 ((σ.1 61 0 (p.toNat)).toNat)).toNat 1) []).headD 0)))).tdiv 100)))))) (zK (zK σ 98 G1) 98 G2))
    (h2 : ∀ G1 : Nat → Nat → Int, ¬ ((uEv (mNm σ p.toNat m.toNat) (mPart σ (σ.1 70 0 ((σ.1 61 0 (p.toNat)).toNat)).toNat 0) []).headD 0) = 0 → ∀ G2 : Nat → Nat → Int, 0 ≤ ((uEv (mNm (zK σ 98 G1) p.toNat m.toNat) (mPart (zK σ 98 G1) (σ.1 70 0 ((σ.1 61 0 (p.toNat)).toNat)).toNat 1) []).headD 0) → ¬ ((uEv (mNm (zK σ 98 G1) p.toNat m.toNat) (mPart (zK σ 98 G1) (σ.1 70 0 ((σ.1 61 0 (p.toNat)).toNat)).toNat 1) []).headD 0) ≤ 100 → Q (some (.inl (zW ((uAsk ((zK (zK σ 98 G1) 98 G2).1 60 0 p.toNat) ((zK (zK σ 98 G1) 98 G2).1 63 0 p.toNat) (zW (m - zW (zW (m.tdiv 12) * 12))) ((zK (zK σ 98 G1) 98 G2).1 100 0 (7 * m.toNat + ((zK (zK σ 98 G1) 98 G2).1 62 0 p.toNat).toNat))) - (zW ((zW ((uAsk ((zK (zK σ 98 G1) 98 G2).1 60 0 p.toNat) ((zK (zK σ 98 G1) 98 G2).1 63 0 p.toNat) (zW (m - zW (zW (m.tdiv 12) * 12))) ((zK (zK σ 98 G1) 98 G2).1 100 0 (7 * m.toNat + ((zK (zK σ 98 G1) 98 G2).1 62 0 p.toNat).toNat))) * 100)).tdiv 100)))))) (zK (zK σ 98 G1) 98 G2))
    (h3 : ∀ G1 : Nat → Nat → Int, ¬ ((uEv (mNm σ p.toNat m.toNat) (mPart σ (σ.1 70 0 ((σ.1 61 0 (p.toNat)).toNat)).toNat 0) []).headD 0) = 0 → ∀ G2 : Nat → Nat → Int, ¬ 0 ≤ ((uEv (mNm (zK σ 98 G1) p.toNat m.toNat) (mPart (zK σ 98 G1) (σ.1 70 0 ((σ.1 61 0 (p.toNat)).toNat)).toNat 1) []).headD 0) → Q (some (.inl (zW ((uAsk ((zK (zK σ 98 G1) 98 G2).1 60 0 p.toNat) ((zK (zK σ 98 G1) 98 G2).1 63 0 p.toNat) (zW (m - zW (zW (m.tdiv 12) * 12))) ((zK (zK σ 98 G1) 98 G2).1 100 0 (7 * m.toNat + ((zK (zK σ 98 G1) 98 G2).1 62 0 p.toNat).toNat))) - (zW ((zW ((uAsk ((zK (zK σ 98 G1) 98 G2).1 60 0 p.toNat) ((zK (zK σ 98 G1) 98 G2).1 63 0 p.toNat) (zW (m - zW (zW (m.tdiv 12) * 12))) ((zK (zK σ 98 G1) 98 G2).1 100 0 (7 * m.toNat + ((zK (zK σ 98 G1) 98 G2).1 62 0 p.toNat).toNat))) * 0)).tdiv 100)))))) (zK (zK σ 98 G1) 98 G2))
    (h4 : ∀ G1 : Nat → Nat → Int, ((uEv (mNm σ p.toNat m.toNat) (mPart σ (σ.1 70 0 ((σ.1 61 0 (p.toNat)).toNat)).toNat 0) []).headD 0) = 0 → Q (some (.inl 0)) (zK σ 98 G1)) :
    zX (d + 4) 156 27 [some (.inr (.inr (10, 0))), some (.inl p), some (.inl m), none, none, none] [] σ Q := by
  refine zX_run (n' := 32) (ls' := [some (.inr (.inr (10, 0))), some (.inl p), some (.inl m), none, none, none]) (st' := [.inl p, .inr (.inr (61, 0)), .inr (.inr (70, 0))]) (σ' := σ) 5 rfl ?_
  refine zX_ald1 (L := 17) rfl (by decide) rfl o1 ?_
  refine zX_ald1 (L := 4) rfl (by decide) rfl o2 ?_
  refine zX_run (n' := 40) (ls' := [some (.inr (.inr (10, 0))), some (.inl p), some (.inl m), some (.inl (σ.1 70 0 ((σ.1 61 0 (p.toNat)).toNat))), none, none]) (st' := [.inl 0, .inl m, .inl p, .inl (σ.1 70 0 ((σ.1 61 0 (p.toNat)).toNat)), .inr (.inr (10, 0))]) (σ' := σ) 6 rfl ?_
  refine zX_call rfl rfl ?_
  refine zs_155 o3 o4 o5 o6 o7 o8 (fun G1 => ?_)
  · skip
    refine zX_i1 rfl (fun a1 => ?_) (fun a1 => ?_)
    · skip
      refine zX_run (n' := 49) (ls' := [some (.inr (.inr (10, 0))), some (.inl p), some (.inl m), some (.inl (σ.1 70 0 ((σ.1 61 0 (p.toNat)).toNat))), none, none]) (st' := [.inl 1, .inl m, .inl p, .inl (σ.1 70 0 ((σ.1 61 0 (p.toNat)).toNat)), .inr (.inr (10, 0))]) (σ' := (zK σ 98 G1)) 5 rfl ?_
      refine zX_call rfl rfl ?_
      refine zs_155 o3 o4 o5 (o9 G1 a1) (o10 G1 a1) (o11 G1 a1) (fun G2 => ?_)
      · skip
        refine zX_run (n' := 52) (ls' := [some (.inr (.inr (10, 0))), some (.inl p), some (.inl m), some (.inl (σ.1 70 0 ((σ.1 61 0 (p.toNat)).toNat))), some (.inl (((uEv (mNm (zK σ 98 G1) p.toNat m.toNat) (mPart (zK σ 98 G1) (σ.1 70 0 ((σ.1 61 0 (p.toNat)).toNat)).toNat 1) []).headD 0))), none]) (st' := [.inl (((uEv (mNm (zK σ 98 G1) p.toNat m.toNat) (mPart (zK σ 98 G1) (σ.1 70 0 ((σ.1 61 0 (p.toNat)).toNat)).toNat 1) []).headD 0))]) (σ' := (zK (zK σ 98 G1) 98 G2)) 2 rfl ?_
        refine zX_i3 rfl (fun a2 => ?_) (fun a2 => ?_)
        · skip
          refine zX_run (n' := 57) (ls' := [some (.inr (.inr (10, 0))), some (.inl p), some (.inl m), some (.inl (σ.1 70 0 ((σ.1 61 0 (p.toNat)).toNat))), some (.inl (((uEv (mNm (zK σ 98 G1) p.toNat m.toNat) (mPart (zK σ 98 G1) (σ.1 70 0 ((σ.1 61 0 (p.toNat)).toNat)).toNat 1) []).headD 0))), none]) (st' := [.inl 100, .inl (((uEv (mNm (zK σ 98 G1) p.toNat m.toNat) (mPart (zK σ 98 G1) (σ.1 70 0 ((σ.1 61 0 (p.toNat)).toNat)).toNat 1) []).headD 0))]) (σ' := (zK (zK σ 98 G1) 98 G2)) 2 rfl ?_
          refine zX_c5 rfl (fun a3 => ?_) (fun a3 => ?_)
          · skip
            refine zX_run (n' := 65) (ls' := [some (.inr (.inr (10, 0))), some (.inl p), some (.inl m), some (.inl (σ.1 70 0 ((σ.1 61 0 (p.toNat)).toNat))), some (.inl (((uEv (mNm (zK σ 98 G1) p.toNat m.toNat) (mPart (zK σ 98 G1) (σ.1 70 0 ((σ.1 61 0 (p.toNat)).toNat)).toNat 1) []).headD 0))), none]) (st' := [.inl m, .inl p, .inr (.inr (10, 0))]) (σ' := (zK (zK σ 98 G1) 98 G2)) 5 rfl ?_
            refine zX_call rfl rfl ?_
            refine zs_138 o4 o5 (o12 G1 a1 G2 a2 a3) ?_
            · skip
              refine zX_run (n' := 74) (ls' := [some (.inr (.inr (10, 0))), some (.inl p), some (.inl m), some (.inl (σ.1 70 0 ((σ.1 61 0 (p.toNat)).toNat))), some (.inl (((uEv (mNm (zK σ 98 G1) p.toNat m.toNat) (mPart (zK σ 98 G1) (σ.1 70 0 ((σ.1 61 0 (p.toNat)).toNat)).toNat 1) []).headD 0))), some (.inl (uAsk ((zK (zK σ 98 G1) 98 G2).1 60 0 p.toNat) ((zK (zK σ 98 G1) 98 G2).1 63 0 p.toNat) (zW (m - zW (zW (m.tdiv 12) * 12))) ((zK (zK σ 98 G1) 98 G2).1 100 0 (7 * m.toNat + ((zK (zK σ 98 G1) 98 G2).1 62 0 p.toNat).toNat))))]) (st' := [.inl (zW ((uAsk ((zK (zK σ 98 G1) 98 G2).1 60 0 p.toNat) ((zK (zK σ 98 G1) 98 G2).1 63 0 p.toNat) (zW (m - zW (zW (m.tdiv 12) * 12))) ((zK (zK σ 98 G1) 98 G2).1 100 0 (7 * m.toNat + ((zK (zK σ 98 G1) 98 G2).1 62 0 p.toNat).toNat))) - (zW ((zW ((uAsk ((zK (zK σ 98 G1) 98 G2).1 60 0 p.toNat) ((zK (zK σ 98 G1) 98 G2).1 63 0 p.toNat) (zW (m - zW (zW (m.tdiv 12) * 12))) ((zK (zK σ 98 G1) 98 G2).1 100 0 (7 * m.toNat + ((zK (zK σ 98 G1) 98 G2).1 62 0 p.toNat).toNat))) * (((uEv (mNm (zK σ 98 G1) p.toNat m.toNat) (mPart (zK σ 98 G1) (σ.1 70 0 ((σ.1 61 0 (p.toNat)).toNat)).toNat 1) []).headD 0)))).tdiv 100))))]) (σ' := (zK (zK σ 98 G1) 98 G2)) 8 rfl ?_
              exact zX_ret rfl rfl (h1 G1 a1 G2 a2 a3)
          · skip
            refine zX_run (n' := 65) (ls' := [some (.inr (.inr (10, 0))), some (.inl p), some (.inl m), some (.inl (σ.1 70 0 ((σ.1 61 0 (p.toNat)).toNat))), some (.inl 100), none]) (st' := [.inl m, .inl p, .inr (.inr (10, 0))]) (σ' := (zK (zK σ 98 G1) 98 G2)) 6 rfl ?_
            refine zX_call rfl rfl ?_
            refine zs_138 o4 o5 (o13 G1 a1 G2 a2 a3) ?_
            · skip
              refine zX_run (n' := 74) (ls' := [some (.inr (.inr (10, 0))), some (.inl p), some (.inl m), some (.inl (σ.1 70 0 ((σ.1 61 0 (p.toNat)).toNat))), some (.inl 100), some (.inl (uAsk ((zK (zK σ 98 G1) 98 G2).1 60 0 p.toNat) ((zK (zK σ 98 G1) 98 G2).1 63 0 p.toNat) (zW (m - zW (zW (m.tdiv 12) * 12))) ((zK (zK σ 98 G1) 98 G2).1 100 0 (7 * m.toNat + ((zK (zK σ 98 G1) 98 G2).1 62 0 p.toNat).toNat))))]) (st' := [.inl (zW ((uAsk ((zK (zK σ 98 G1) 98 G2).1 60 0 p.toNat) ((zK (zK σ 98 G1) 98 G2).1 63 0 p.toNat) (zW (m - zW (zW (m.tdiv 12) * 12))) ((zK (zK σ 98 G1) 98 G2).1 100 0 (7 * m.toNat + ((zK (zK σ 98 G1) 98 G2).1 62 0 p.toNat).toNat))) - (zW ((zW ((uAsk ((zK (zK σ 98 G1) 98 G2).1 60 0 p.toNat) ((zK (zK σ 98 G1) 98 G2).1 63 0 p.toNat) (zW (m - zW (zW (m.tdiv 12) * 12))) ((zK (zK σ 98 G1) 98 G2).1 100 0 (7 * m.toNat + ((zK (zK σ 98 G1) 98 G2).1 62 0 p.toNat).toNat))) * 100)).tdiv 100))))]) (σ' := (zK (zK σ 98 G1) 98 G2)) 8 rfl ?_
              exact zX_ret rfl rfl (h2 G1 a1 G2 a2 a3)
        · skip
          refine zX_run (n' := 65) (ls' := [some (.inr (.inr (10, 0))), some (.inl p), some (.inl m), some (.inl (σ.1 70 0 ((σ.1 61 0 (p.toNat)).toNat))), some (.inl 0), none]) (st' := [.inl m, .inl p, .inr (.inr (10, 0))]) (σ' := (zK (zK σ 98 G1) 98 G2)) 6 rfl ?_
          refine zX_call rfl rfl ?_
          refine zs_138 o4 o5 (o14 G1 a1 G2 a2) ?_
          · skip
            refine zX_run (n' := 74) (ls' := [some (.inr (.inr (10, 0))), some (.inl p), some (.inl m), some (.inl (σ.1 70 0 ((σ.1 61 0 (p.toNat)).toNat))), some (.inl 0), some (.inl (uAsk ((zK (zK σ 98 G1) 98 G2).1 60 0 p.toNat) ((zK (zK σ 98 G1) 98 G2).1 63 0 p.toNat) (zW (m - zW (zW (m.tdiv 12) * 12))) ((zK (zK σ 98 G1) 98 G2).1 100 0 (7 * m.toNat + ((zK (zK σ 98 G1) 98 G2).1 62 0 p.toNat).toNat))))]) (st' := [.inl (zW ((uAsk ((zK (zK σ 98 G1) 98 G2).1 60 0 p.toNat) ((zK (zK σ 98 G1) 98 G2).1 63 0 p.toNat) (zW (m - zW (zW (m.tdiv 12) * 12))) ((zK (zK σ 98 G1) 98 G2).1 100 0 (7 * m.toNat + ((zK (zK σ 98 G1) 98 G2).1 62 0 p.toNat).toNat))) - (zW ((zW ((uAsk ((zK (zK σ 98 G1) 98 G2).1 60 0 p.toNat) ((zK (zK σ 98 G1) 98 G2).1 63 0 p.toNat) (zW (m - zW (zW (m.tdiv 12) * 12))) ((zK (zK σ 98 G1) 98 G2).1 100 0 (7 * m.toNat + ((zK (zK σ 98 G1) 98 G2).1 62 0 p.toNat).toNat))) * 0)).tdiv 100))))]) (σ' := (zK (zK σ 98 G1) 98 G2)) 8 rfl ?_
            exact zX_ret rfl rfl (h3 G1 a1 G2 a2)
    · skip
      refine zX_run (n' := 43) (ls' := [some (.inr (.inr (10, 0))), some (.inl p), some (.inl m), some (.inl (σ.1 70 0 ((σ.1 61 0 (p.toNat)).toNat))), none, none]) (st' := [.inl 0]) (σ' := (zK σ 98 G1)) 1 rfl ?_
      exact zX_ret rfl rfl (h4 G1 a1)
def mGl (a b c : Nat → Int) (k m : Nat) : Nat → Int
  | 0 => -1
  | g + 1 => if a g = (k : Int) ∧ b g = (m : Int) then c g else mGl a b c k m g
def mG (σ : zS) (m k : Nat) : Int := mGl (σ.1 52 0) (σ.1 53 0) (σ.1 54 0) k m (σ.1 10 0 3).toNat
def mRead (σ : zS) (r m : Nat) : Int := uRd (mG σ m) r
def mRul (σ : zS) (s : Nat) : Nat := (σ.1 70 0 s).toNat
/-- what the reference is told -/
def mD (σ : zS) : uT := fun f j => match f with
  | 0 => mSide σ (j / 96) (j % 96)
  | 1 => mRead σ (j / 96) (j % 96)
  | 2 => σ.1 48 0 j
  | 3 => σ.1 55 0 j
  | 4 => σ.1 56 0 j
  | 5 => σ.1 57 0 j
  | 6 => σ.1 58 0 j
  | 7 => σ.1 59 0 j
  | 8 => σ.1 60 0 j
  | 9 => σ.1 61 0 j
  | 10 => σ.1 62 0 j
  | 11 => σ.1 63 0 j
  | 12 => σ.1 64 0 j
  | 13 => σ.1 65 0 j
  | 14 => σ.1 66 0 j
  | 15 => if mSh σ (j / 96) ((j % 96 : Nat) : Int) = true then 1 else 0
  | 16 => σ.1 71 0 (200 * mRul σ (j / 200) + j % 200)
  | 17 => σ.1 72 0 (mRul σ j)
  | 18 => σ.1 73 0 (mRul σ j)
  | 19 => match j with
    | 0 => σ.1 10 0 4
    | _ => σ.1 10 0 66
  | _ => 0
theorem uSeq_congr {f g : Nat → Int} : ∀ {n a : Nat}, (∀ k, a ≤ k → k < a + n → f k = g k) → uSeq f a n = uSeq g a n
  | 0, _, _ => rfl
  | n + 1, a, h => by
    show f a :: uSeq f (a + 1) n = g a :: uSeq g (a + 1) n
    rw [h a (Nat.le_refl _) (by omega), uSeq_congr (fun k h1 h2 => h k (by omega) (by omega))]
theorem mD_0 {σ : zS} {r m : Nat} (hm : m < 96) : mD σ 0 (96 * r + m) = mSide σ r m := by
  show mSide σ ((96 * r + m) / 96) ((96 * r + m) % 96) = _
  rw [show (96 * r + m) / 96 = r by omega, show (96 * r + m) % 96 = m by omega]
theorem mD_1 {σ : zS} {r m : Nat} (hm : m < 96) : mD σ 1 (96 * r + m) = mRead σ r m := by
  show mRead σ ((96 * r + m) / 96) ((96 * r + m) % 96) = _
  rw [show (96 * r + m) / 96 = r by omega, show (96 * r + m) % 96 = m by omega]
theorem mD_15 {σ : zS} {h m : Nat} (hm : m < 96) : mD σ 15 (96 * h + m) = if mSh σ h (m : Int) = true then 1 else 0 := by
  show (if mSh σ ((96 * h + m) / 96) (((96 * h + m) % 96 : Nat) : Int) = true then (1 : Int) else 0) = _
  rw [show (96 * h + m) / 96 = h by omega, show (96 * h + m) % 96 = m by omega]
theorem mPart_eq {σ : zS} {p : Nat} (T : mTok σ (mRul σ (σ.1 61 0 p).toNat)) : mPart σ (mRul σ (σ.1 61 0 p).toNat) 0 = uPart (mD σ) p 0 ∧ mPart σ (mRul σ (σ.1 61 0 p).toNat) 1 = uPart (mD σ) p 1 := by
  obtain ⟨⟨a1, a2, a3⟩, -, -, -⟩ := T
  have e : ∀ k, k < 200 → mD σ 16 (200 * (σ.1 61 0 p).toNat + k) = σ.1 71 0 (200 * mRul σ (σ.1 61 0 p).toNat + k) := by
    intro k hk
    show σ.1 71 0 (200 * mRul σ ((200 * (σ.1 61 0 p).toNat + k) / 200) + (200 * (σ.1 61 0 p).toNat + k) % 200) = _
    rw [show (200 * (σ.1 61 0 p).toNat + k) / 200 = (σ.1 61 0 p).toNat by omega, show (200 * (σ.1 61 0 p).toNat + k) % 200 = k by omega]
  constructor
  · exact uSeq_congr (fun k h1 h2 => (e k (by omega)).symm)
  · exact uSeq_congr (fun k h1 h2 => (e k (by omega)).symm)
theorem mEv_eq {σ : zS} {p m : Nat} {lev : Int} (hm : m < 96) (T : mTok σ (mRul σ (σ.1 61 0 p).toNat)) (hl : uLvs (σ.1 55 0) (fun r => σ.1 87 0 (7 * m + r)) 7 = lev) (hr : σ.1 100 0 (7 * m + (σ.1 62 0 p).toNat) = mRead σ (σ.1 62 0 p).toNat m) :
    (uEv (mNm σ p m) (mPart σ (mRul σ (σ.1 61 0 p).toNat) 0) []).headD 0 = uSays (mD σ) p m lev 0 ∧ (uEv (mNm σ p m) (mPart σ (mRul σ (σ.1 61 0 p).toNat) 1) []).headD 0 = uSays (mD σ) p m lev 1 := by
  have en : mNm σ p m = uNm (mD σ) p m lev := by
    funext c
    unfold mNm uNm
    rw [hl, hr]
    rw [show mD σ 1 (96 * (mD σ 10 p).toNat + m) = mRead σ (σ.1 62 0 p).toNat m from mD_1 hm]
    rfl
  have ep := mPart_eq T
  unfold uSays
  rw [en, ep.1, ep.2]
  exact ⟨rfl, rfl⟩
/-- what the reference needs of a hold for what it wants -/
def mHok (σ : zS) (p : Nat) : Prop := (0 ≤ σ.1 61 0 p ∧ σ.1 61 0 p < 4) ∧ (0 ≤ σ.1 62 0 p ∧ σ.1 62 0 p < 7) ∧ (0 ≤ σ.1 70 0 (σ.1 61 0 p).toNat ∧ σ.1 70 0 (σ.1 61 0 p).toNat < 6) ∧ mTok σ (mRul σ (σ.1 61 0 p).toNat)
def mCok (σ : zS) : Prop := (0 ≤ σ.1 10 0 5 ∧ σ.1 10 0 5 ≤ 16) ∧ (∀ c : Nat, (c : Int) < σ.1 10 0 5 → 0 ≤ σ.1 67 0 c ∧ σ.1 67 0 c < 17) ∧ 0 ≤ σ.1 10 0 66 ∧ σ.1 10 0 66 < 65536
theorem zs_156 {d : Nat} {σ : zS} {Q : Option zV → zS → Prop} {p m : Nat} {lev : Int} (hp : p < 16) (hm : m < 96) (H : mHok σ p) (C : mCok σ) (hl : uLvs (σ.1 55 0) (fun r => σ.1 87 0 (7 * m + r)) 7 = lev) (hr : σ.1 100 0 (7 * m + (σ.1 62 0 p).toNat) = mRead σ (σ.1 62 0 p).toNat m)
    (h : ∀ g : Nat → Nat → Int, Q (some (.inl (uWants (mD σ) p m lev))) (zK σ 98 g)) :
    zM (d + 4) 156 [.inr (.inr (10, 0)), .inl (p : Int), .inl (m : Int)] σ Q := by
  obtain ⟨H1, H2, H3, H4⟩ := H
  obtain ⟨C1, C2, C3⟩ := C
  have E := mEv_eq hm H4 hl hr
  have bt : zBin 3 (zBin 7 (σ.1 10 0 66) (p : Int)) 1 = uBit (mD σ 19 1) p := uBitn C3 hp
  have z0 : (uBit (mD σ 19 1) p = 1 ∨ ¬ (mD σ 13 p ≤ (m : Int) ∧ (m : Int) < mD σ 14 p ∧ mD σ 15 (96 * p + m) = 0)) → Q (some (.inl 0)) σ := by
    intro q
    have := h (σ.1 98)
    rw [← zK_self, show uWants (mD σ) p m lev = 0 from if_pos q] at this
    exact this
  refine zb_156a (fun _ => by omega) (fun _ _ _ => by omega) (fun _ _ _ => C1) (fun _ _ _ => C2) (fun a => z0 (Or.inl (bt.symm.trans a))) (fun _ a => z0 (Or.inr (fun q => absurd q.1 (Int.not_le.mpr a)))) (fun _ _ a => z0 (Or.inr (fun q => absurd q.2.1 (Int.not_lt.mpr a)))) (fun _ _ _ a => z0 (Or.inr (fun q => ?_))) (fun a b c e => ?_)
  · have := q.2.2
    rw [mD_15 hm, if_pos (show mSh σ p (m : Int) = true from a)] at this
    exact absurd this (by decide)
  · have hw : uWants (mD σ) p m lev = uWb (mD σ) p m lev := if_neg (fun q => q.elim (fun q => a (bt.trans q)) (fun q => q ⟨Int.not_lt.mp b, Int.not_le.mp c, by rw [mD_15 hm, if_neg (show ¬ mSh σ p (m : Int) = true from e)]⟩))
    rw [hw] at h
    have ea : ∀ g, uAsk ((zK σ 98 g).1 60 0 (p : Int).toNat) ((zK σ 98 g).1 63 0 (p : Int).toNat) (zW ((m : Int) - zW (zW ((m : Int).tdiv 12) * 12))) ((zK σ 98 g).1 100 0 (7 * (m : Int).toNat + ((zK σ 98 g).1 62 0 (p : Int).toNat).toNat)) = uAsks (mD σ) p m := by
      intro g
      rw [zMod12 (by omega)]
      show uAsk (σ.1 60 0 p) (σ.1 63 0 p) _ (σ.1 100 0 (7 * m + (σ.1 62 0 p).toNat)) = _
      rw [hr]
      unfold uAsks
      rw [show mD σ 1 (96 * (mD σ 10 p).toNat + m) = mRead σ (σ.1 62 0 p).toNat m from mD_1 hm]
      rfl
    have e0 : (uEv (mNm σ (p : Int).toNat (m : Int).toNat) (mPart σ (σ.1 70 0 (σ.1 61 0 (p : Int).toNat).toNat).toNat 0) []).headD 0 = uSays (mD σ) p m lev 0 := E.1
    have e1 : ∀ g, (uEv (mNm (zK σ 98 g) (p : Int).toNat (m : Int).toNat) (mPart (zK σ 98 g) (σ.1 70 0 (σ.1 61 0 (p : Int).toNat).toNat).toNat 1) []).headD 0 = uSays (mD σ) p m lev 1 := fun g => E.2
    have fin : ∀ g1 g2 (v c2 : Int), ¬ uSays (mD σ) p m lev 0 = 0 → c2 = uClamp (uSays (mD σ) p m lev 1) → v = uCut (uAsks (mD σ) p m) c2 → Q (some (.inl v)) (zK (zK σ 98 g1) 98 g2) := by
      intro g1 g2 v c2 hz hc hv
      have ek : zK (zK σ 98 g1) 98 g2 = zK σ 98 g2 := by
        refine Prod.ext (funext fun k => ?_) rfl
        show (if k = 98 then g2 else if k = 98 then g1 else σ.1 k) = if k = 98 then g2 else σ.1 k
        split
        · rfl
        · rfl
      rw [ek]
      refine zQ_i (h g2) ?_
      unfold uWb
      rw [if_neg hz, hv, hc]
    have fin0 : uSays (mD σ) p m lev 0 = 0 → ∀ g, Q (some (.inl 0)) (zK σ 98 g) := fun hz g => zQ_i (h g) (by unfold uWb; rw [if_pos hz])
    clear h
    refine zb_156b (by omega) H1 H3 (by omega) (by omega) H2 H4 (Or.inl rfl) (fun _ _ => H2) (fun _ _ => H4) (fun _ _ => Or.inr rfl) (fun _ _ _ _ _ => H2) (fun _ _ _ _ _ => H2) (fun _ _ _ _ => H2) (fun g1 hz g2 u1 u2 => ?_) (fun g1 hz g2 u1 u2 => ?_) (fun g1 hz g2 u1 => ?_) (fun g1 hz => ?_)
    · rw [e0] at hz
      rw [e1] at u1 u2 ⊢
      have ea' := ea g2
      refine fin g1 g2 _ (uSays (mD σ) p m lev 1) hz ?_ ?_
      · unfold uClamp; rw [if_neg (by omega), if_neg (by omega)]
      · rw [show uAsk ((zK (zK σ 98 g1) 98 g2).1 60 0 (p : Int).toNat) ((zK (zK σ 98 g1) 98 g2).1 63 0 (p : Int).toNat) (zW ((m : Int) - zW (zW ((m : Int).tdiv 12) * 12))) ((zK (zK σ 98 g1) 98 g2).1 100 0 (7 * (m : Int).toNat + ((zK (zK σ 98 g1) 98 g2).1 62 0 (p : Int).toNat).toNat)) = uAsks (mD σ) p m from ea']
        rfl
    · rw [e0] at hz
      rw [e1] at u1 u2
      have ea' := ea g2
      refine fin g1 g2 _ 100 hz ?_ ?_
      · unfold uClamp; rw [if_neg (by omega), if_pos (by omega)]
      · rw [show uAsk ((zK (zK σ 98 g1) 98 g2).1 60 0 (p : Int).toNat) ((zK (zK σ 98 g1) 98 g2).1 63 0 (p : Int).toNat) (zW ((m : Int) - zW (zW ((m : Int).tdiv 12) * 12))) ((zK (zK σ 98 g1) 98 g2).1 100 0 (7 * (m : Int).toNat + ((zK (zK σ 98 g1) 98 g2).1 62 0 (p : Int).toNat).toNat)) = uAsks (mD σ) p m from ea']
        rfl
    · rw [e0] at hz
      rw [e1] at u1
      have ea' := ea g2
      refine fin g1 g2 _ 0 hz ?_ ?_
      · unfold uClamp; rw [if_pos (by omega)]
      · rw [show uAsk ((zK (zK σ 98 g1) 98 g2).1 60 0 (p : Int).toNat) ((zK (zK σ 98 g1) 98 g2).1 63 0 (p : Int).toNat) (zW ((m : Int) - zW (zW ((m : Int).tdiv 12) * 12))) ((zK (zK σ 98 g1) 98 g2).1 100 0 (7 * (m : Int).toNat + ((zK (zK σ 98 g1) 98 g2).1 62 0 (p : Int).toNat).toNat)) = uAsks (mD σ) p m from ea']
        rfl
    · rw [e0] at hz
      exact fin0 hz g1
