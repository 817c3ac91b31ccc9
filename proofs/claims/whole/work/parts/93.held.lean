-- releases by digits, the class (wip/whole/gen/laws65.py)
-- X0_setReleases
theorem zb_3 {d : Nat} {σ : zS} {Q : Option zV → zS → Prop} {f : Nat} {w : Int}
    (h1 : zX (d + 2) 3 4 [some (.inr (.inr (0, f))), some (.inl w), some (.inl w), some (.inl 6), none] [] σ Q) :
    zM (d + 2) 3 [.inr (.inr (0, f)), .inl w] σ Q := by
  refine zX_run (n' := 4) (ls' := [some (.inr (.inr (0, f))), some (.inl w), some (.inl w), some (.inl 6), none]) (st' := []) (σ' := σ) 4 rfl ?_
  exact h1
-- X0_setReleases
theorem zb_3l {d : Nat} {σ : zS} {Q : Option zV → zS → Prop} {f : Nat} {w q r : Int} {x : Option zV}
    (o1 : ¬ r < 0 → (0 : Int) ≤ r ∧ r < (7 : Int))
    (h1 : r < 0 → Q (none) σ)
    (h2 : ¬ r < 0 → σ.1 3 (7 * 0 + r.toNat) 0 = 0 → zX (d + 2) 3 4 [some (.inr (.inr (0, f))), some (.inl w), some (.inl q), some (.inl (zW (r + (-1)))), some (.inr (.inr (3, 7 * 0 + r.toNat)))] [] σ Q)
    (h3 : ¬ r < 0 → ¬ σ.1 3 (7 * 0 + r.toNat) 0 = 0 → zX (d + 2) 3 4 [some (.inr (.inr (0, f))), some (.inl w), some (.inl (zBin 7 q 2)), some (.inl (zW (r + (-1)))), some (.inr (.inr (3, 7 * 0 + r.toNat)))] [] (zU σ 15 f (r.toNat) (cRel (zBin 3 q 3) (σ.1 3 (7 * 0 + r.toNat) 4))) Q) :
    zX (d + 2) 3 4 [some (.inr (.inr (0, f))), some (.inl w), some (.inl q), some (.inl r), x] [] σ Q := by
  refine zX_run (n' := 5) (ls' := [some (.inr (.inr (0, f))), some (.inl w), some (.inl q), some (.inl r), x]) (st' := [.inl r]) (σ' := σ) 1 rfl ?_
  refine zX_i2 rfl (fun a1 => ?_) (fun a1 => ?_)
  · skip
    exact zX_ret0 rfl rfl (h1 a1)
  · skip
    refine zX_run (n' := 10) (ls' := [some (.inr (.inr (0, f))), some (.inl w), some (.inl q), some (.inl r), x]) (st' := [.inl r, .inr (.inr (38, 0))]) (σ' := σ) 4 rfl ?_
    refine zX_ald5 (L := 7) rfl (by decide) rfl (o1 a1) ?_
    refine zX_run (n' := 14) (ls' := [some (.inr (.inr (0, f))), some (.inl w), some (.inl q), some (.inl r), some (.inr (.inr (3, 7 * 0 + r.toNat)))]) (st' := [.inl (σ.1 3 (7 * 0 + r.toNat) 0)]) (σ' := σ) 3 rfl ?_
    refine zX_i0 rfl (fun a2 => ?_) (fun a2 => ?_)
    · skip
      refine zX_run (n' := 4) (ls' := [some (.inr (.inr (0, f))), some (.inl w), some (.inl q), some (.inl (zW (r + (-1)))), some (.inr (.inr (3, 7 * 0 + r.toNat)))]) (st' := []) (σ' := σ) 2 rfl ?_
      exact h2 a1 a2
    · skip
      refine zX_run (n' := 23) (ls' := [some (.inr (.inr (0, f))), some (.inl w), some (.inl q), some (.inl r), some (.inr (.inr (3, 7 * 0 + r.toNat)))]) (st' := [.inl (σ.1 3 (7 * 0 + r.toNat) 4), .inl (zBin 3 q 3), .inl r, .inr (.inr (15, f))]) (σ' := σ) 8 rfl ?_
      refine zX_call rfl rfl ?_
      refine zs_4 ?_
      · skip
        refine zX_ast1 (L := 7) rfl (by decide) rfl (o1 a1) ?_
        refine zX_run (n' := 4) (ls' := [some (.inr (.inr (0, f))), some (.inl w), some (.inl (zBin 7 q 2)), some (.inl (zW (r + (-1)))), some (.inr (.inr (3, 7 * 0 + r.toNat)))]) (st' := []) (σ' := (zU σ 15 f (r.toNat) (cRel (zBin 3 q 3) (σ.1 3 (7 * 0 + r.toNat) 4)))) 6 rfl ?_
        exact h3 a1 a2
/-- lakes at the reaches from r on -/
def uCa (th : Nat → Int) (r : Nat) : Nat := uCnt th 7 - uCnt th r
def hDig (th : Nat → Int) (w r : Nat) : Nat := w / 4 ^ uCa th (r + 1) % 4
theorem uCnt_m {th : Nat → Int} {a : Nat} : ∀ (k : Nat), uCnt th a ≤ uCnt th (a + k)
  | 0 => Nat.le_refl _
  | k + 1 => by
    have I := uCnt_m (th := th) (a := a) k
    show uCnt th a ≤ if th (a + k) = 0 then uCnt th (a + k) else uCnt th (a + k) + 1
    split <;> omega
theorem uCa_s {th : Nat → Int} {r : Nat} (hr : r < 7) : uCa th r = if th r = 0 then uCa th (r + 1) else uCa th (r + 1) + 1 := by
  have m := uCnt_m (th := th) (a := r + 1) (6 - r)
  rw [show r + 1 + (6 - r) = 7 by omega] at m
  unfold uCa
  have e : uCnt th (r + 1) = if th r = 0 then uCnt th r else uCnt th r + 1 := rfl
  by_cases c : th r = 0
  · rw [if_pos c] at e ⊢; rw [e]
  · rw [if_neg c] at e ⊢; omega
theorem uCa_7 {th : Nat → Int} : uCa th 7 = 0 := Nat.sub_self _
/-- a flow's releases from reach j on, by digits -/
def hRel (t : zS) (f w j : Nat) : Nat → Nat → Nat → Int := fun k n i => if k = 15 ∧ n = f ∧ (j ≤ i ∧ i < 7) ∧ ¬ cTh t i = 0 then cRel ((hDig (cTh t) w i : Nat) : Int) (t.1 3 (7 * 0 + i) 4) else t.1 k n i
theorem hRel_7 {t : zS} {f w : Nat} : zG t (hRel t f w 7) = t := by
  refine Prod.ext (funext fun k => funext fun n => funext fun i => ?_) rfl
  show (if fk k = true then hRel t f w 7 k else t.1 k) n i = t.1 k n i
  by_cases h : fk k = true
  · rw [if_pos h]; exact if_neg (fun q => by omega)
  · rw [if_neg h]
theorem hRel_0 {t : zS} {f w j : Nat} (h : cTh t j = 0) : zG t (hRel t f w (j + 1)) = zG t (hRel t f w j) := by
  refine Prod.ext (funext fun k => funext fun n => funext fun i => ?_) rfl
  show (if fk k = true then hRel t f w (j + 1) k else t.1 k) n i = (if fk k = true then hRel t f w j k else t.1 k) n i
  by_cases e : fk k = true
  · rw [if_pos e, if_pos e]
    unfold hRel
    by_cases c : k = 15 ∧ n = f ∧ (j + 1 ≤ i ∧ i < 7) ∧ ¬ cTh t i = 0
    · rw [if_pos c, if_pos ⟨c.1, c.2.1, ⟨by omega, c.2.2.1.2⟩, c.2.2.2⟩]
    · rw [if_neg c, if_neg (fun q => c ⟨q.1, q.2.1, ⟨?_, q.2.2.1.2⟩, q.2.2.2⟩)]
      have ne : ¬ i = j := fun x => q.2.2.2 (by rw [x]; exact h)
      omega
  · rw [if_neg e, if_neg e]
theorem hRel_s {t : zS} {f w j : Nat} (hj : j < 7) (h : ¬ cTh t j = 0) : zU (zG t (hRel t f w (j + 1))) 15 f j (cRel ((hDig (cTh t) w j : Nat) : Int) (t.1 3 (7 * 0 + j) 4)) = zG t (hRel t f w j) := by
  refine Prod.ext (funext fun k => funext fun n => funext fun i => ?_) rfl
  show (if k = 15 ∧ i = j ∧ n = f then cRel ((hDig (cTh t) w j : Nat) : Int) (t.1 3 (7 * 0 + j) 4) else (if fk k = true then hRel t f w (j + 1) k else t.1 k) n i) = (if fk k = true then hRel t f w j k else t.1 k) n i
  by_cases p : k = 15 ∧ i = j ∧ n = f
  · obtain ⟨rfl, rfl, rfl⟩ := p
    rw [if_pos ⟨rfl, rfl, rfl⟩]
    show _ = hRel t n w i 15 n i
    exact (if_pos ⟨rfl, rfl, ⟨Nat.le_refl _, hj⟩, h⟩).symm
  · rw [if_neg p]
    by_cases e : fk k = true
    · rw [if_pos e, if_pos e]
      unfold hRel
      by_cases c : k = 15 ∧ n = f ∧ (j + 1 ≤ i ∧ i < 7) ∧ ¬ cTh t i = 0
      · rw [if_pos c, if_pos ⟨c.1, c.2.1, ⟨by omega, c.2.2.1.2⟩, c.2.2.2⟩]
      · rw [if_neg c, if_neg (fun q => c ⟨q.1, q.2.1, ⟨?_, q.2.2.1.2⟩, q.2.2.2⟩)]
        have ne : ¬ i = j := fun x => p ⟨q.1, x, q.2.1⟩
        omega
    · rw [if_neg e, if_neg e]
theorem zs_3l {d : Nat} {t : zS} {Q : Option zV → zS → Prop} {f w : Nat} (hw : w < 65536) (q : Q none (zG t (hRel t f w 0))) : ∀ (j : Nat) (x : Option zV), j ≤ 7 →
    zX (d + 2) 3 4 [some (.inr (.inr (0, f))), some (.inl (w : Int)), some (.inl ((w / 4 ^ uCa (cTh t) j : Nat) : Int)), some (.inl ((j : Int) - 1)), x] [] (zG t (hRel t f w j)) Q := by
  intro j
  induction j with
  | zero =>
    intro x _
    exact zb_3l (fun a => absurd (by decide) a) (fun _ => q) (fun a => absurd (by decide) a) (fun a => absurd (by decide) a)
  | succ j ih =>
    intro x hj
    have j7 : j < 7 := by omega
    have e1 : ((j + 1 : Nat) : Int) - 1 = (j : Int) := by omega
    have nl : ¬ (j : Int) < 0 := by omega
    have ij : (0 : Int) ≤ (j : Int) ∧ (j : Int) < 7 := by omega
    have hz : zW ((j : Int) + (-1)) = (j : Int) - 1 := by clear q ih; unfold zW; omega
    have S := uCa_s (th := cTh t) j7
    have ql : w / 4 ^ uCa (cTh t) (j + 1) < 2 ^ 31 := Nat.lt_of_le_of_lt (Nat.div_le_self _ _) (Nat.lt_trans hw (by decide))
    rw [e1]
    have there : (zG t (hRel t f w (j + 1))).1 3 (7 * 0 + (j : Int).toNat) 0 = cTh t j := rfl
    refine zb_3l (fun _ => ij) (fun a => absurd a nl) (fun _ a => ?_) (fun _ a => ?_)
    · rw [there] at a
      rw [if_pos a] at S
      rw [hz, hRel_0 a, ← S]
      exact ih _ (by omega)
    · rw [there] at a
      rw [if_neg a] at S
      have z3 : zBin 3 ((w / 4 ^ uCa (cTh t) (j + 1) : Nat) : Int) 3 = ((hDig (cTh t) w j : Nat) : Int) := zAnd3 ql
      have z2 : zBin 7 ((w / 4 ^ uCa (cTh t) (j + 1) : Nat) : Int) 2 = ((w / 4 ^ uCa (cTh t) j : Nat) : Int) := by
        rw [S, Nat.pow_succ, ← Nat.div_div_eq_div_mul]
        exact zShr (h := 2) ql (by decide)
      have R4 : (zG t (hRel t f w (j + 1))).1 3 (7 * 0 + (j : Int).toNat) 4 = t.1 3 (7 * 0 + j) 4 := rfl
      rw [hz, z3, z2, R4, Int.toNat_natCast, hRel_s j7 a]
      exact ih _ (by omega)
theorem zs_3 {d : Nat} {t : zS} {Q : Option zV → zS → Prop} {f w : Nat} (hw : w < 65536) (q : Q none (zG t (hRel t f w 0))) : zM (d + 2) 3 [.inr (.inr (0, f)), .inl (w : Int)] t Q := by
  refine zb_3 (d := d) ?_
  have L := zs_3l (d := d) hw q 7 none (Nat.le_refl _)
  rw [hRel_7, uCa_7, Nat.pow_zero, Nat.div_one] at L
  exact L
/-- what is told, with the releases by digits -/
def uHel (D : uT) (w : Nat) : uT := fun f j => if f = 7 ∧ j < 7 ∧ ¬ D 3 j = 0 then cRel ((hDig (D 3) w j : Nat) : Int) (D 7 j) else D f j
theorem uHel_f {D : uT} {w f : Nat} (h : ¬ f = 7) : uHel D w f = D f := funext fun j => if_neg (fun k => h k.1)
