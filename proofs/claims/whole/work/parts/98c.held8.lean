-- held, the call (wip/whole/gen/laws72.py)
/-- the releases given back for the lakes below r -/
def hB (th o : Nat → Int) (r : Nat) (g : Nat → Int) : Nat → Int := fun i => if i < r ∧ ¬ th i = 0 then o i else g i
theorem hB_0 {th o g : Nat → Int} : hB th o 0 g = g := funext fun i => if_neg (fun q => absurd q.1 (Nat.not_lt_zero _))
theorem hB_n {th o g : Nat → Int} {r : Nat} (h : th r = 0) : hB th o (r + 1) g = hB th o r g := by
  refine funext fun i => ?_
  unfold hB
  by_cases c : i < r ∧ ¬ th i = 0
  · rw [if_pos c, if_pos ⟨Nat.lt_succ_of_lt c.1, c.2⟩]
  · rw [if_neg c, if_neg (fun q => c ⟨?_, q.2⟩)]
    have ne : ¬ i = r := fun x => q.2 (by rw [x]; exact h)
    omega
theorem hB_s {th o g : Nat → Int} {r : Nat} (h : ¬ th r = 0) : (fun i => if i = r then o r else hB th o r g i) = hB th o (r + 1) g := by
  refine funext fun i => ?_
  unfold hB
  by_cases e : i = r
  · subst e
    rw [if_pos rfl, if_pos ⟨Nat.lt_succ_self _, h⟩]
  · rw [if_neg e]
    by_cases c : i < r ∧ ¬ th i = 0
    · rw [if_pos c, if_pos ⟨Nat.lt_succ_of_lt c.1, c.2⟩]
    · rw [if_neg c, if_neg (fun q => c ⟨by omega, q.2⟩)]
theorem zH_n {d : Nat} {σ τ : zS} {Q : Option zV → zS → Prop} {A L : Nat → Nat → Int} {g : Nat → Int} {p u a best least n : Int} {x9 x10 x11 x12 x13 x14 x15 : Option zV} (hA : ∀ j, j < 7 → A 0 j = σ.1 59 0 j) (hL : ∀ j, j < 7 → ¬ σ.1 55 0 j = 0 → L 0 (uCnt (σ.1 55 0) j) = (j : Int)) (hn : n = (uCnt (σ.1 55 0) 7 : Int))
    (q : ∀ w : Int, zX (d + 10) 181 210 [some (.inr (.inr (10, 0))), some (.inl p), some (.inl u), some (.inl n), some (.inl a), some (.inl best), some (.inr (.inl least)), none, some (.inl w), x9, x10, x11, x12, x13, x14, x15] [] (yR (zR59 (zAL σ A L) (hB (σ.1 55 0) (σ.1 59 0) 7 g)) τ) Q) :
    zX (d + 10) 181 191 [some (.inr (.inr (10, 0))), some (.inl p), some (.inl u), some (.inl n), some (.inl a), some (.inl best), some (.inr (.inl least)), none, some (.inl 0), x9, x10, x11, x12, x13, x14, x15] [] (yR (zR59 (zAL σ A L) g) τ) Q := by
  have K := zLoop (P := fun r => zX (d + 10) 181 191 [some (.inr (.inr (10, 0))), some (.inl p), some (.inl u), some (.inl n), some (.inl a), some (.inl best), some (.inr (.inl least)), none, some (.inl (uCnt (σ.1 55 0) r : Int)), x9, x10, x11, x12, x13, x14, x15] [] (yR (zR59 (zAL σ A L) (hB (σ.1 55 0) (σ.1 59 0) r g)) τ) Q) (k := 0) (N := 7) (Nat.zero_le _) ?_ (fun r _ hr ih => ?_)
  · rw [hB_0] at K; exact K
  · have le : n ≤ (uCnt (σ.1 55 0) 7 : Int) := Int.le_of_eq hn
    exact zb_181n (fun c => absurd le c) (fun c => absurd le c) (fun _ => q _) (fun c => absurd le c)
  · by_cases c : σ.1 55 0 r = 0
    · have e : uCnt (σ.1 55 0) (r + 1) = uCnt (σ.1 55 0) r := if_pos c
      rw [e, hB_n c] at ih
      exact ih
    · have e : uCnt (σ.1 55 0) (r + 1) = uCnt (σ.1 55 0) r + 1 := if_neg c
      have lt := uCnt_lt (th := σ.1 55 0) hr c
      have c7 : uCnt (σ.1 55 0) r < 7 := Nat.lt_of_le_of_lt uCnt_le hr
      have nl : ¬ n ≤ (uCnt (σ.1 55 0) r : Int) := by rw [hn]; exact Int.not_le.mpr (Int.ofNat_lt.mpr lt)
      have cz : zW ((uCnt (σ.1 55 0) r : Int) + 1) = ((uCnt (σ.1 55 0) r + 1 : Nat) : Int) := zWs (Nat.lt_trans c7 (by decide))
      have lk : (yR (zR59 (zAL σ A L) (hB (σ.1 55 0) (σ.1 59 0) r g)) τ).1 103 0 (uCnt (σ.1 55 0) r : Int).toNat = (r : Int) := hL r hr c
      have ak : (yR (zR59 (zAL σ A L) (hB (σ.1 55 0) (σ.1 59 0) r g)) τ).1 104 0 r = σ.1 59 0 r := hA r hr
      refine zb_181n (fun _ => (hc1 c7).2.2.1) (fun _ => by rw [lk]; exact (hc1 hr).2.2.1) (fun z => absurd z nl) (fun _ => ?_)
      rw [lk, Int.toNat_natCast, ak, cz, zR59_U, hB_s c]
      rw [e] at ih
      exact ih
theorem mD_hel {σ τ : zS} {A L : Nat → Nat → Int} {g : Nat → Int} {w : Nat} (h : ∀ j, g j = uHel (mD σ) w 7 j) : mD (yR (zR59 (zAL σ A L) g) τ) = uHel (mD σ) w := by
  refine funext fun f => ?_
  by_cases e : f = 7
  · subst e
    exact funext fun j => h j
  · rw [uHel_f e]
    match f, e with
    | 0, _ => rfl
    | 1, _ => rfl
    | 2, _ => rfl
    | 3, _ => rfl
    | 4, _ => rfl
    | 5, _ => rfl
    | 6, _ => rfl
    | 7, h => exact absurd rfl h
    | 8, _ => rfl
    | 9, _ => rfl
    | 10, _ => rfl
    | 11, _ => rfl
    | 12, _ => rfl
    | 13, _ => rfl
    | 14, _ => rfl
    | 15, _ => rfl
    | 16, _ => rfl
    | 17, _ => rfl
    | 18, _ => rfl
    | 19, _ => rfl
    | f + 20, _ => rfl
theorem zn1 {n : Nat} (h : n ≤ 3) : zW ((n : Int) - 1) = (n : Int) - 1 := by unfold zW; omega
theorem hG_u {σ : zS} {w : Nat} {g : Nat → Int} (h : ∀ j, ¬ (j < 7 ∧ ¬ mD σ 3 j = 0) → g j = σ.1 59 0 j) (j : Nat) : hG (mD σ) w 0 g j = uHel (mD σ) w 7 j := by
  unfold hG uHel
  by_cases c : j < 7 ∧ ¬ mD σ 3 j = 0
  · rw [if_pos ⟨⟨Nat.zero_le _, c.1⟩, c.2⟩, if_pos ⟨rfl, c.1, c.2⟩]
  · rw [if_neg (fun q => c ⟨q.1.2, q.2⟩), if_neg (fun q => c ⟨q.2.1, q.2.2⟩)]
    exact h j c
