-- a text worked by the class (wip/whole/gen/laws5.py)
theorem zs_65 {d : Nat} {σ : zS} {Q : Option zV → zS → Prop} {x y : Int} (o1 : 0 ≤ x ∧ x < 16) (o2 : 0 ≤ y ∧ y < 16)
    (h1 : cAh σ x.toNat y.toNat → Q (some (.inl 1)) σ) (h2 : ¬ cAh σ x.toNat y.toNat → Q (some (.inl 0)) σ) :
    zM (d + 1) 65 [.inr (.inr (8, 0)), .inl x, .inl y] σ Q := by
  refine zb_65 o1 o2 (fun a b => h2 ?_) (fun a b => h1 ?_) (fun a b => h2 ?_) (fun a b => h1 ?_)
  · unfold cAh; rw [if_pos (show cH σ x.toNat 2 = cH σ y.toNat 2 from a)]; exact Int.not_lt.mpr b
  · unfold cAh; rw [if_pos (show cH σ x.toNat 2 = cH σ y.toNat 2 from a)]; exact Int.not_le.mp b
  · unfold cAh; rw [if_neg (show ¬ cH σ x.toNat 2 = cH σ y.toNat 2 from a)]; exact Int.not_lt.mpr b
  · unfold cAh; rw [if_neg (show ¬ cH σ x.toNat 2 = cH σ y.toNat 2 from a)]; exact Int.not_le.mp b
theorem zs_59 {d : Nat} {σ : zS} {Q : Option zV → zS → Prop} {x u v : Int} 
    (h : Q (some (.inl (uBin (3 - x) u v))) σ) :
    zM d 59 [.inl x, .inl u, .inl v] σ Q := by
  refine zm_59 (fun a0 => ?_) (fun a0 => ?_) (fun a0 => ?_) (fun a0 a1 => ?_) (fun a0 a1 => ?_) (fun a0 a1 => ?_) (fun a0 a1 => ?_) (fun a0 => ?_) (fun a0 a1 => ?_) (fun a0 a1 a2 => ?_) (fun a0 a1 a2 => ?_) (fun a0 a1 => ?_) (fun a0 a1 a2 => ?_) (fun a0 a1 a2 => ?_)
  all_goals
    refine zQ_i h ?_
    unfold uBin
    repeat' split
    all_goals first | rfl | omega | (exfalso; omega)
/-- the state with the names and the stack being anything -/
def zN (σ : zS) (G : Nat → Nat → Nat → Int) : zS := (fun k => if k = 44 then G 44 else if k = 45 then G 45 else σ.1 k, σ.2)
def uG (G : Nat → Nat → Nat → Int) (k n j : Nat) (v : Int) : Nat → Nat → Nat → Int := fun k' n' j' => if k' = k ∧ j' = j ∧ n' = n then v else G k' n' j'
theorem zN_of {σ τ : zS} (h1 : ∀ k, ¬ k = 44 → ¬ k = 45 → τ.1 k = σ.1 k) (h2 : τ.2 = σ.2) : τ = zN σ τ.1 := by
  refine Prod.ext (funext fun k => ?_) h2
  show τ.1 k = if k = 44 then τ.1 44 else if k = 45 then τ.1 45 else σ.1 k
  by_cases a : k = 44
  · rw [if_pos a, a]
  · by_cases b : k = 45
    · rw [if_neg a, if_pos b, b]
    · rw [if_neg a, if_neg b]; exact h1 k a b
theorem zU_off {σ : zS} {k n j k' : Nat} {v : Int} (h : ¬ k' = k) : (zU σ k n j v).1 k' = σ.1 k' := by
  funext n' j'; exact if_neg (fun q => h q.1)
theorem zUL_off {σ : zS} {k n j k' : Nat} {v : Int} (h : ¬ k' = k) : (zUL σ k n j v).2 k' = σ.2 k' := by
  funext n' j'; exact if_neg (fun q => h q.1)
theorem zN_U45 {σ : zS} {G : Nat → Nat → Nat → Int} {n j : Nat} {v : Int} : zU (zN σ G) 45 n j v = zN σ (uG G 45 n j v) := by
  refine Prod.ext (funext fun k => funext fun n' => funext fun j' => ?_) rfl
  show (if k = 45 ∧ j' = j ∧ n' = n then v else (if k = 44 then G 44 else if k = 45 then G 45 else σ.1 k) n' j') = (if k = 44 then uG G 45 n j v 44 else if k = 45 then uG G 45 n j v 45 else σ.1 k) n' j'
  by_cases a : k = 44
  · subst a; rw [if_neg (by omega), if_pos rfl, if_pos rfl]; exact (if_neg (by omega)).symm
  · rw [if_neg a, if_neg a]
    by_cases b : k = 45
    · subst b; rw [if_pos rfl, if_pos rfl]; rfl
    · rw [if_neg (fun q => b q.1), if_neg b, if_neg b]
theorem zN_N {σ : zS} {G G' : Nat → Nat → Nat → Int} : zN (zN σ G) G' = zN σ G' := by
  refine Prod.ext (funext fun k => ?_) rfl
  show (if k = 44 then G' 44 else if k = 45 then G' 45 else if k = 44 then G 44 else if k = 45 then G 45 else σ.1 k) = _
  by_cases a : k = 44
  · subst a; rfl
  · by_cases b : k = 45
    · subst b; rfl
    · rw [if_neg a, if_neg b, if_neg a, if_neg b]; exact ((if_neg a).trans (if_neg b)).symm
def cNmv (σ : zS) (h m : Nat) (lev : Int) (j : Nat) : Int := match j with
  | 0 => ((m % 12 : Nat) : Int)
  | 1 => ((m / 12 : Nat) : Int)
  | 2 => cRk σ h
  | 3 => lev
  | 4 => cRead σ (cH σ h 2).toNat m
  | _ => cH σ h 1
-- X8_setNames
theorem zb_66 {d : Nat} {σ : zS} {Q : Option zV → zS → Prop} {h : Int} {m : Int} {l : Int}
    (o1 : (0 : Int) ≤ h ∧ h < (16 : Int))
    (o2 : 0 ≤ (σ.1 1 (16 * 0 + h.toNat) 2) ∧ (σ.1 1 (16 * 0 + h.toNat) 2) < 7)
    (o3 : 0 ≤ m ∧ m < 96)
    (h1 : Q (none) (zU (zU (zU (zU (zU (zU σ 44 0 0 (zW (m - zW (zW (m.tdiv 12) * 12)))) 44 0 1 (zW (m.tdiv 12))) 44 0 2 (uRank (σ.1 1 (16 * 0 + h.toNat) 0) (σ.1 1 (16 * 0 + h.toNat) 4))) 44 0 3 l) 44 0 4 (cRead (zU (zU (zU (zU σ 44 0 0 (zW (m - zW (zW (m.tdiv 12) * 12)))) 44 0 1 (zW (m.tdiv 12))) 44 0 2 (uRank (σ.1 1 (16 * 0 + h.toNat) 0) (σ.1 1 (16 * 0 + h.toNat) 4))) 44 0 3 l) (σ.1 1 (16 * 0 + h.toNat) 2).toNat m.toNat)) 44 0 5 (σ.1 1 (16 * 0 + h.toNat) 1))) :
    zM (d + 1) 66 [.inr (.inr (8, 0)), .inl h, .inl m, .inl l] σ Q := by
  refine zX_run (n' := 3) (ls' := [some (.inr (.inr (8, 0))), some (.inl h), some (.inl m), some (.inl l), none]) (st' := [.inl h, .inr (.inr (39, 0))]) (σ' := σ) 3 rfl ?_
  refine zX_ald5 (L := 16) rfl (by decide) rfl o1 ?_
  refine zX_run (n' := 11) (ls' := [some (.inr (.inr (8, 0))), some (.inl h), some (.inl m), some (.inl l), some (.inr (.inr (1, 16 * 0 + h.toNat)))]) (st' := [.inl (zW (m - zW (zW (m.tdiv 12) * 12))), .inl 0, .inr (.inr (44, 0))]) (σ' := σ) 7 rfl ?_
  refine zX_ast1 (L := 6) rfl (by decide) rfl (by decide) ?_
  refine zX_run (n' := 18) (ls' := [some (.inr (.inr (8, 0))), some (.inl h), some (.inl m), some (.inl l), some (.inr (.inr (1, 16 * 0 + h.toNat)))]) (st' := [.inl (zW (m.tdiv 12)), .inl 1, .inr (.inr (44, 0))]) (σ' := (zU σ 44 0 0 (zW (m - zW (zW (m.tdiv 12) * 12))))) 6 rfl ?_
  refine zX_ast1 (L := 6) rfl (by decide) rfl (by decide) ?_
  refine zX_run (n' := 23) (ls' := [some (.inr (.inr (8, 0))), some (.inl h), some (.inl m), some (.inl l), some (.inr (.inr (1, 16 * 0 + h.toNat)))]) (st' := [.inr (.inr (1, 16 * 0 + h.toNat)), .inl 2, .inr (.inr (44, 0))]) (σ' := (zU (zU σ 44 0 0 (zW (m - zW (zW (m.tdiv 12) * 12)))) 44 0 1 (zW (m.tdiv 12)))) 4 rfl ?_
  refine zX_call rfl rfl ?_
  refine zs_28 ?_
  · skip
    refine zX_ast1 (L := 6) rfl (by decide) rfl (by decide) ?_
    refine zX_run (n' := 29) (ls' := [some (.inr (.inr (8, 0))), some (.inl h), some (.inl m), some (.inl l), some (.inr (.inr (1, 16 * 0 + h.toNat)))]) (st' := [.inl l, .inl 3, .inr (.inr (44, 0))]) (σ' := (zU (zU (zU σ 44 0 0 (zW (m - zW (zW (m.tdiv 12) * 12)))) 44 0 1 (zW (m.tdiv 12))) 44 0 2 (uRank (σ.1 1 (16 * 0 + h.toNat) 0) (σ.1 1 (16 * 0 + h.toNat) 4)))) 4 rfl ?_
    refine zX_ast1 (L := 6) rfl (by decide) rfl (by decide) ?_
    refine zX_run (n' := 37) (ls' := [some (.inr (.inr (8, 0))), some (.inl h), some (.inl m), some (.inl l), some (.inr (.inr (1, 16 * 0 + h.toNat)))]) (st' := [.inl m, .inl (σ.1 1 (16 * 0 + h.toNat) 2), .inr (.inr (8, 0)), .inl 4, .inr (.inr (44, 0))]) (σ' := (zU (zU (zU (zU σ 44 0 0 (zW (m - zW (zW (m.tdiv 12) * 12)))) 44 0 1 (zW (m.tdiv 12))) 44 0 2 (uRank (σ.1 1 (16 * 0 + h.toNat) 0) (σ.1 1 (16 * 0 + h.toNat) 4))) 44 0 3 l)) 7 rfl ?_
    refine zX_call rfl rfl ?_
    refine zs_61 o2 o3 ?_
    · skip
      refine zX_ast1 (L := 6) rfl (by decide) rfl (by decide) ?_
      refine zX_run (n' := 44) (ls' := [some (.inr (.inr (8, 0))), some (.inl h), some (.inl m), some (.inl l), some (.inr (.inr (1, 16 * 0 + h.toNat)))]) (st' := [.inl (σ.1 1 (16 * 0 + h.toNat) 1), .inl 5, .inr (.inr (44, 0))]) (σ' := (zU (zU (zU (zU (zU σ 44 0 0 (zW (m - zW (zW (m.tdiv 12) * 12)))) 44 0 1 (zW (m.tdiv 12))) 44 0 2 (uRank (σ.1 1 (16 * 0 + h.toNat) 0) (σ.1 1 (16 * 0 + h.toNat) 4))) 44 0 3 l) 44 0 4 (cRead (zU (zU (zU (zU σ 44 0 0 (zW (m - zW (zW (m.tdiv 12) * 12)))) 44 0 1 (zW (m.tdiv 12))) 44 0 2 (uRank (σ.1 1 (16 * 0 + h.toNat) 0) (σ.1 1 (16 * 0 + h.toNat) 4))) 44 0 3 l) (σ.1 1 (16 * 0 + h.toNat) 2).toNat m.toNat))) 5 rfl ?_
      refine zX_ast1 (L := 6) rfl (by decide) rfl (by decide) ?_
      exact zX_ret0 rfl rfl h1
theorem zs_66 {d : Nat} {σ : zS} {Q : Option zV → zS → Prop} {h m l : Int} (o1 : 0 ≤ h ∧ h < 16) (o2 : 0 ≤ m ∧ m < 96) (o3 : 0 ≤ cH σ h.toNat 2 ∧ cH σ h.toNat 2 < 7)
    (h1 : ∀ G, (∀ j, j < 6 → G 44 0 j = cNmv σ h.toNat m.toNat l j) → Q none (zN σ G)) :
    zM (d + 1) 66 [.inr (.inr (8, 0)), .inl h, .inl m, .inl l] σ Q := by
  obtain ⟨h, rfl⟩ := Int.eq_ofNat_of_zero_le o1.1
  obtain ⟨m, rfl⟩ := Int.eq_ofNat_of_zero_le o2.1
  refine zb_66 o1 o3 (by omega) ?_
  rw [zMod12 (by omega), zDiv12 (by omega)]
  generalize hτ : zU (zU (zU (zU (zU (zU σ 44 0 0 _) 44 0 1 _) 44 0 2 _) 44 0 3 _) 44 0 4 _) 44 0 5 _ = τ
  have e : τ = zN σ τ.1 := by
    subst hτ
    refine zN_of (fun k a b => ?_) rfl
    rw [zU_off a, zU_off a, zU_off a, zU_off a, zU_off a, zU_off a]
  rw [e]
  refine h1 _ (fun j hj => ?_)
  subst hτ
  match j, hj with
  | 0, _ => rfl
  | 1, _ => rfl
  | 2, _ => rfl
  | 3, _ => rfl
  | 4, _ => rfl
  | 5, _ => rfl
-- X7_worth
theorem zb_58x {d : Nat} {σ : zS} {Q : Option zV → zS → Prop} {t : Nat} {p e n i : Int} {x : Option zV}
    (q1 : e ≤ i)
    (h1 : Q (some (.inl (σ.1 45 0 0))) σ) :
    zX (d + 1) 58 21 [some (.inr (.inr (7, t))), some (.inl p), some (.inr (.inr (44, 0))), some (.inr (.inr (45, 0))), some (.inl e), some (.inl n), some (.inl i), x] [] σ Q := by
  refine zX_run (n' := 23) (ls' := [some (.inr (.inr (7, t))), some (.inl p), some (.inr (.inr (44, 0))), some (.inr (.inr (45, 0))), some (.inl e), some (.inl n), some (.inl i), x]) (st' := [.inl e, .inl i]) (σ' := σ) 2 rfl ?_
  refine zX_c3 rfl (fun _ => ?_) (fun a1 => absurd a1 (by omega))
  refine zX_run (n' := 118) (ls' := [some (.inr (.inr (7, t))), some (.inl p), some (.inr (.inr (44, 0))), some (.inr (.inr (45, 0))), some (.inl e), some (.inl n), some (.inl i), x]) (st' := [.inl 0, .inr (.inr (45, 0))]) (σ' := σ) 2 rfl ?_
  refine zX_ald1 (L := 160) rfl (by decide) rfl (by decide) ?_
  exact zX_ret rfl rfl h1
-- X7_worth
theorem zb_58a {d : Nat} {σ : zS} {Q : Option zV → zS → Prop} {t : Nat} {p e n i : Int} {x : Option zV}
    (q1 : i < e ∧ 0 ≤ i ∧ i < 160)
    (q2 : 0 ≤ σ.1 33 t (i.toNat) ∧ n < 160)
    (o1 : (0 : Int) ≤ i ∧ i < (160 : Int))
    (o2 : (0 : Int) ≤ n ∧ n < (160 : Int))
    (h1 : zX (d + 1) 58 21 [some (.inr (.inr (7, t))), some (.inl p), some (.inr (.inr (44, 0))), some (.inr (.inr (45, 0))), some (.inl e), some (.inl (zW (n + 1))), some (.inl (zW (i + 1))), some (.inl (σ.1 33 t (i.toNat)))] [] (zU σ 45 0 (n.toNat) (σ.1 33 t (i.toNat))) Q) :
    zX (d + 1) 58 21 [some (.inr (.inr (7, t))), some (.inl p), some (.inr (.inr (44, 0))), some (.inr (.inr (45, 0))), some (.inl e), some (.inl n), some (.inl i), x] [] σ Q := by
  refine zX_run (n' := 23) (ls' := [some (.inr (.inr (7, t))), some (.inl p), some (.inr (.inr (44, 0))), some (.inr (.inr (45, 0))), some (.inl e), some (.inl n), some (.inl i), x]) (st' := [.inl e, .inl i]) (σ' := σ) 2 rfl ?_
  refine zX_c3 rfl (fun a1 => absurd a1 (by omega)) (fun _ => ?_)
  refine zX_run (n' := 27) (ls' := [some (.inr (.inr (7, t))), some (.inl p), some (.inr (.inr (44, 0))), some (.inr (.inr (45, 0))), some (.inl e), some (.inl n), some (.inl i), x]) (st' := [.inl i, .inr (.inr (33, t))]) (σ' := σ) 3 rfl ?_
  refine zX_ald1 (L := 160) rfl (by decide) rfl o1 ?_
  refine zX_run (n' := 30) (ls' := [some (.inr (.inr (7, t))), some (.inl p), some (.inr (.inr (44, 0))), some (.inr (.inr (45, 0))), some (.inl e), some (.inl n), some (.inl i), some (.inl (σ.1 33 t (i.toNat)))]) (st' := [.inl (σ.1 33 t (i.toNat))]) (σ' := σ) 2 rfl ?_
  refine zX_i2 rfl (fun a2 => absurd a2 (by omega)) (fun _ => ?_)
  refine zX_run (n' := 33) (ls' := [some (.inr (.inr (7, t))), some (.inl p), some (.inr (.inr (44, 0))), some (.inr (.inr (45, 0))), some (.inl e), some (.inl n), some (.inl i), some (.inl (σ.1 33 t (i.toNat)))]) (st' := [.inr (.inr (45, 0)), .inl n]) (σ' := σ) 2 rfl ?_
  refine zX_len (L := 160) (v := 160) rfl (by decide) rfl (by decide) ?_
  refine zX_c3 rfl (fun a3 => absurd a3 (by omega)) (fun _ => ?_)
  refine zX_run (n' := 39) (ls' := [some (.inr (.inr (7, t))), some (.inl p), some (.inr (.inr (44, 0))), some (.inr (.inr (45, 0))), some (.inl e), some (.inl (zW (n + 1))), some (.inl i), some (.inl (σ.1 33 t (i.toNat)))]) (st' := [.inl (σ.1 33 t (i.toNat)), .inl n, .inr (.inr (45, 0))]) (σ' := σ) 4 rfl ?_
  refine zX_ast1 (L := 160) rfl (by decide) rfl o2 ?_
  refine zX_run (n' := 21) (ls' := [some (.inr (.inr (7, t))), some (.inl p), some (.inr (.inr (44, 0))), some (.inr (.inr (45, 0))), some (.inl e), some (.inl (zW (n + 1))), some (.inl (zW (i + 1))), some (.inl (σ.1 33 t (i.toNat)))]) (st' := []) (σ' := (zU σ 45 0 (n.toNat) (σ.1 33 t (i.toNat)))) 3 rfl ?_
  exact h1
-- X7_worth
theorem zb_58b {d : Nat} {σ : zS} {Q : Option zV → zS → Prop} {t : Nat} {p e n i : Int} {x : Option zV}
    (q1 : i < e ∧ 0 ≤ i ∧ i < 160)
    (q2 : -6 ≤ σ.1 33 t (i.toNat) ∧ σ.1 33 t (i.toNat) < 0 ∧ n < 160)
    (o1 : (0 : Int) ≤ i ∧ i < (160 : Int))
    (o2 : (0 : Int) ≤ zW ((-1) - (σ.1 33 t (i.toNat))) ∧ zW ((-1) - (σ.1 33 t (i.toNat))) < (6 : Int))
    (o3 : (0 : Int) ≤ n ∧ n < (160 : Int))
    (h1 : zX (d + 1) 58 21 [some (.inr (.inr (7, t))), some (.inl p), some (.inr (.inr (44, 0))), some (.inr (.inr (45, 0))), some (.inl e), some (.inl (zW (n + 1))), some (.inl (zW (i + 1))), some (.inl (σ.1 33 t (i.toNat)))] [] (zU σ 45 0 (n.toNat) (σ.1 44 0 ((zW ((-1) - (σ.1 33 t (i.toNat)))).toNat))) Q) :
    zX (d + 1) 58 21 [some (.inr (.inr (7, t))), some (.inl p), some (.inr (.inr (44, 0))), some (.inr (.inr (45, 0))), some (.inl e), some (.inl n), some (.inl i), x] [] σ Q := by
  refine zX_run (n' := 23) (ls' := [some (.inr (.inr (7, t))), some (.inl p), some (.inr (.inr (44, 0))), some (.inr (.inr (45, 0))), some (.inl e), some (.inl n), some (.inl i), x]) (st' := [.inl e, .inl i]) (σ' := σ) 2 rfl ?_
  refine zX_c3 rfl (fun a1 => absurd a1 (by omega)) (fun _ => ?_)
  refine zX_run (n' := 27) (ls' := [some (.inr (.inr (7, t))), some (.inl p), some (.inr (.inr (44, 0))), some (.inr (.inr (45, 0))), some (.inl e), some (.inl n), some (.inl i), x]) (st' := [.inl i, .inr (.inr (33, t))]) (σ' := σ) 3 rfl ?_
  refine zX_ald1 (L := 160) rfl (by decide) rfl o1 ?_
  refine zX_run (n' := 30) (ls' := [some (.inr (.inr (7, t))), some (.inl p), some (.inr (.inr (44, 0))), some (.inr (.inr (45, 0))), some (.inl e), some (.inl n), some (.inl i), some (.inl (σ.1 33 t (i.toNat)))]) (st' := [.inl (σ.1 33 t (i.toNat))]) (σ' := σ) 2 rfl ?_
  refine zX_i2 rfl (fun _ => ?_) (fun a2 => absurd a2 (by omega))
  refine zX_run (n' := 43) (ls' := [some (.inr (.inr (7, t))), some (.inl p), some (.inr (.inr (44, 0))), some (.inr (.inr (45, 0))), some (.inl e), some (.inl n), some (.inl i), some (.inl (σ.1 33 t (i.toNat)))]) (st' := [.inl (-6), .inl (σ.1 33 t (i.toNat))]) (σ' := σ) 2 rfl ?_
  refine zX_c2 rfl (fun a3 => absurd a3 (by omega)) (fun _ => ?_)
  refine zX_run (n' := 46) (ls' := [some (.inr (.inr (7, t))), some (.inl p), some (.inr (.inr (44, 0))), some (.inr (.inr (45, 0))), some (.inl e), some (.inl n), some (.inl i), some (.inl (σ.1 33 t (i.toNat)))]) (st' := [.inr (.inr (45, 0)), .inl n]) (σ' := σ) 2 rfl ?_
  refine zX_len (L := 160) (v := 160) rfl (by decide) rfl (by decide) ?_
  refine zX_c3 rfl (fun a4 => absurd a4 (by omega)) (fun _ => ?_)
  refine zX_run (n' := 55) (ls' := [some (.inr (.inr (7, t))), some (.inl p), some (.inr (.inr (44, 0))), some (.inr (.inr (45, 0))), some (.inl e), some (.inl (zW (n + 1))), some (.inl i), some (.inl (σ.1 33 t (i.toNat)))]) (st' := [.inl (zW ((-1) - (σ.1 33 t (i.toNat)))), .inr (.inr (44, 0)), .inl n, .inr (.inr (45, 0))]) (σ' := σ) 7 rfl ?_
  refine zX_ald1 (L := 6) rfl (by decide) rfl o2 ?_
  refine zX_ast1 (L := 160) rfl (by decide) rfl o3 ?_
  refine zX_run (n' := 21) (ls' := [some (.inr (.inr (7, t))), some (.inl p), some (.inr (.inr (44, 0))), some (.inr (.inr (45, 0))), some (.inl e), some (.inl (zW (n + 1))), some (.inl (zW (i + 1))), some (.inl (σ.1 33 t (i.toNat)))]) (st' := []) (σ' := (zU σ 45 0 (n.toNat) (σ.1 44 0 ((zW ((-1) - (σ.1 33 t (i.toNat)))).toNat)))) 3 rfl ?_
  exact h1
-- X7_worth
theorem zb_58c {d : Nat} {σ : zS} {Q : Option zV → zS → Prop} {t : Nat} {p e n i : Int} {x : Option zV}
    (q1 : i < e ∧ 0 ≤ i ∧ i < 160)
    (q2 : σ.1 33 t (i.toNat) = -9 ∧ 1 ≤ n)
    (o1 : (0 : Int) ≤ i ∧ i < (160 : Int))
    (o2 : (0 : Int) ≤ zW (n - 1) ∧ zW (n - 1) < (160 : Int))
    (h1 : ¬ σ.1 45 0 ((zW (n - 1)).toNat) = 0 → zX (d + 1) 58 21 [some (.inr (.inr (7, t))), some (.inl p), some (.inr (.inr (44, 0))), some (.inr (.inr (45, 0))), some (.inl e), some (.inl n), some (.inl (zW (i + 1))), some (.inl (σ.1 33 t (i.toNat)))] [] (zU σ 45 0 ((zW (n - 1)).toNat) 0) Q)
    (h2 : σ.1 45 0 ((zW (n - 1)).toNat) = 0 → zX (d + 1) 58 21 [some (.inr (.inr (7, t))), some (.inl p), some (.inr (.inr (44, 0))), some (.inr (.inr (45, 0))), some (.inl e), some (.inl n), some (.inl (zW (i + 1))), some (.inl (σ.1 33 t (i.toNat)))] [] (zU σ 45 0 ((zW (n - 1)).toNat) 1) Q) :
    zX (d + 1) 58 21 [some (.inr (.inr (7, t))), some (.inl p), some (.inr (.inr (44, 0))), some (.inr (.inr (45, 0))), some (.inl e), some (.inl n), some (.inl i), x] [] σ Q := by
  refine zX_run (n' := 23) (ls' := [some (.inr (.inr (7, t))), some (.inl p), some (.inr (.inr (44, 0))), some (.inr (.inr (45, 0))), some (.inl e), some (.inl n), some (.inl i), x]) (st' := [.inl e, .inl i]) (σ' := σ) 2 rfl ?_
  refine zX_c3 rfl (fun a1 => absurd a1 (by omega)) (fun _ => ?_)
  refine zX_run (n' := 27) (ls' := [some (.inr (.inr (7, t))), some (.inl p), some (.inr (.inr (44, 0))), some (.inr (.inr (45, 0))), some (.inl e), some (.inl n), some (.inl i), x]) (st' := [.inl i, .inr (.inr (33, t))]) (σ' := σ) 3 rfl ?_
  refine zX_ald1 (L := 160) rfl (by decide) rfl o1 ?_
  refine zX_run (n' := 30) (ls' := [some (.inr (.inr (7, t))), some (.inl p), some (.inr (.inr (44, 0))), some (.inr (.inr (45, 0))), some (.inl e), some (.inl n), some (.inl i), some (.inl (σ.1 33 t (i.toNat)))]) (st' := [.inl (σ.1 33 t (i.toNat))]) (σ' := σ) 2 rfl ?_
  refine zX_i2 rfl (fun _ => ?_) (fun a2 => absurd a2 (by omega))
  refine zX_run (n' := 43) (ls' := [some (.inr (.inr (7, t))), some (.inl p), some (.inr (.inr (44, 0))), some (.inr (.inr (45, 0))), some (.inl e), some (.inl n), some (.inl i), some (.inl (σ.1 33 t (i.toNat)))]) (st' := [.inl (-6), .inl (σ.1 33 t (i.toNat))]) (σ' := σ) 2 rfl ?_
  refine zX_c2 rfl (fun _ => ?_) (fun a3 => absurd a3 (by omega))
  refine zX_run (n' := 60) (ls' := [some (.inr (.inr (7, t))), some (.inl p), some (.inr (.inr (44, 0))), some (.inr (.inr (45, 0))), some (.inl e), some (.inl n), some (.inl i), some (.inl (σ.1 33 t (i.toNat)))]) (st' := [.inl (-9), .inl (σ.1 33 t (i.toNat))]) (σ' := σ) 2 rfl ?_
  refine zX_c1 rfl (fun a4 => absurd a4 (by omega)) (fun _ => ?_)
  refine zX_run (n' := 62) (ls' := [some (.inr (.inr (7, t))), some (.inl p), some (.inr (.inr (44, 0))), some (.inr (.inr (45, 0))), some (.inl e), some (.inl n), some (.inl i), some (.inl (σ.1 33 t (i.toNat)))]) (st' := [.inl n]) (σ' := σ) 1 rfl ?_
  refine zX_i5 rfl (fun a5 => absurd a5 (by omega)) (fun _ => ?_)
  refine zX_run (n' := 71) (ls' := [some (.inr (.inr (7, t))), some (.inl p), some (.inr (.inr (44, 0))), some (.inr (.inr (45, 0))), some (.inl e), some (.inl n), some (.inl i), some (.inl (σ.1 33 t (i.toNat)))]) (st' := [.inl (zW (n - 1)), .inr (.inr (45, 0)), .inl (zW (n - 1)), .inr (.inr (45, 0))]) (σ' := σ) 8 rfl ?_
  refine zX_ald1 (L := 160) rfl (by decide) rfl o2 ?_
  refine zX_i1 rfl (fun a6 => ?_) (fun a6 => ?_)
  · skip
    refine zX_run (n' := 76) (ls' := [some (.inr (.inr (7, t))), some (.inl p), some (.inr (.inr (44, 0))), some (.inr (.inr (45, 0))), some (.inl e), some (.inl n), some (.inl i), some (.inl (σ.1 33 t (i.toNat)))]) (st' := [.inl 0, .inl (zW (n - 1)), .inr (.inr (45, 0))]) (σ' := σ) 1 rfl ?_
    refine zX_ast1 (L := 160) rfl (by decide) rfl o2 ?_
    refine zX_run (n' := 21) (ls' := [some (.inr (.inr (7, t))), some (.inl p), some (.inr (.inr (44, 0))), some (.inr (.inr (45, 0))), some (.inl e), some (.inl n), some (.inl (zW (i + 1))), some (.inl (σ.1 33 t (i.toNat)))]) (st' := []) (σ' := (zU σ 45 0 ((zW (n - 1)).toNat) 0)) 3 rfl ?_
    exact h1 a6
  · skip
    refine zX_run (n' := 76) (ls' := [some (.inr (.inr (7, t))), some (.inl p), some (.inr (.inr (44, 0))), some (.inr (.inr (45, 0))), some (.inl e), some (.inl n), some (.inl i), some (.inl (σ.1 33 t (i.toNat)))]) (st' := [.inl 1, .inl (zW (n - 1)), .inr (.inr (45, 0))]) (σ' := σ) 2 rfl ?_
    refine zX_ast1 (L := 160) rfl (by decide) rfl o2 ?_
    refine zX_run (n' := 21) (ls' := [some (.inr (.inr (7, t))), some (.inl p), some (.inr (.inr (44, 0))), some (.inr (.inr (45, 0))), some (.inl e), some (.inl n), some (.inl (zW (i + 1))), some (.inl (σ.1 33 t (i.toNat)))]) (st' := []) (σ' := (zU σ 45 0 ((zW (n - 1)).toNat) 1)) 3 rfl ?_
    exact h2 a6
-- X7_worth
theorem zb_58d {d : Nat} {σ : zS} {Q : Option zV → zS → Prop} {t : Nat} {p e n i : Int} {x : Option zV}
    (q1 : i < e ∧ 0 ≤ i ∧ i < 160)
    (q2 : σ.1 33 t (i.toNat) = -15 ∧ 1 ≤ n)
    (o1 : (0 : Int) ≤ i ∧ i < (160 : Int))
    (o2 : (0 : Int) ≤ zW (n - 1) ∧ zW (n - 1) < (160 : Int))
    (h1 : zX (d + 1) 58 21 [some (.inr (.inr (7, t))), some (.inl p), some (.inr (.inr (44, 0))), some (.inr (.inr (45, 0))), some (.inl e), some (.inl n), some (.inl (zW (i + 1))), some (.inl (σ.1 33 t (i.toNat)))] [] (zU σ 45 0 ((zW (n - 1)).toNat) (zW (-(σ.1 45 0 ((zW (n - 1)).toNat))))) Q) :
    zX (d + 1) 58 21 [some (.inr (.inr (7, t))), some (.inl p), some (.inr (.inr (44, 0))), some (.inr (.inr (45, 0))), some (.inl e), some (.inl n), some (.inl i), x] [] σ Q := by
  refine zX_run (n' := 23) (ls' := [some (.inr (.inr (7, t))), some (.inl p), some (.inr (.inr (44, 0))), some (.inr (.inr (45, 0))), some (.inl e), some (.inl n), some (.inl i), x]) (st' := [.inl e, .inl i]) (σ' := σ) 2 rfl ?_
  refine zX_c3 rfl (fun a1 => absurd a1 (by omega)) (fun _ => ?_)
  refine zX_run (n' := 27) (ls' := [some (.inr (.inr (7, t))), some (.inl p), some (.inr (.inr (44, 0))), some (.inr (.inr (45, 0))), some (.inl e), some (.inl n), some (.inl i), x]) (st' := [.inl i, .inr (.inr (33, t))]) (σ' := σ) 3 rfl ?_
  refine zX_ald1 (L := 160) rfl (by decide) rfl o1 ?_
  refine zX_run (n' := 30) (ls' := [some (.inr (.inr (7, t))), some (.inl p), some (.inr (.inr (44, 0))), some (.inr (.inr (45, 0))), some (.inl e), some (.inl n), some (.inl i), some (.inl (σ.1 33 t (i.toNat)))]) (st' := [.inl (σ.1 33 t (i.toNat))]) (σ' := σ) 2 rfl ?_
  refine zX_i2 rfl (fun _ => ?_) (fun a2 => absurd a2 (by omega))
  refine zX_run (n' := 43) (ls' := [some (.inr (.inr (7, t))), some (.inl p), some (.inr (.inr (44, 0))), some (.inr (.inr (45, 0))), some (.inl e), some (.inl n), some (.inl i), some (.inl (σ.1 33 t (i.toNat)))]) (st' := [.inl (-6), .inl (σ.1 33 t (i.toNat))]) (σ' := σ) 2 rfl ?_
  refine zX_c2 rfl (fun _ => ?_) (fun a3 => absurd a3 (by omega))
  refine zX_run (n' := 60) (ls' := [some (.inr (.inr (7, t))), some (.inl p), some (.inr (.inr (44, 0))), some (.inr (.inr (45, 0))), some (.inl e), some (.inl n), some (.inl i), some (.inl (σ.1 33 t (i.toNat)))]) (st' := [.inl (-9), .inl (σ.1 33 t (i.toNat))]) (σ' := σ) 2 rfl ?_
  refine zX_c1 rfl (fun _ => ?_) (fun a4 => absurd a4 (by omega))
  refine zX_run (n' := 80) (ls' := [some (.inr (.inr (7, t))), some (.inl p), some (.inr (.inr (44, 0))), some (.inr (.inr (45, 0))), some (.inl e), some (.inl n), some (.inl i), some (.inl (σ.1 33 t (i.toNat)))]) (st' := [.inl (-15), .inl (σ.1 33 t (i.toNat))]) (σ' := σ) 2 rfl ?_
  refine zX_c1 rfl (fun a5 => absurd a5 (by omega)) (fun _ => ?_)
  refine zX_run (n' := 82) (ls' := [some (.inr (.inr (7, t))), some (.inl p), some (.inr (.inr (44, 0))), some (.inr (.inr (45, 0))), some (.inl e), some (.inl n), some (.inl i), some (.inl (σ.1 33 t (i.toNat)))]) (st' := [.inl n]) (σ' := σ) 1 rfl ?_
  refine zX_i5 rfl (fun a6 => absurd a6 (by omega)) (fun _ => ?_)
  refine zX_run (n' := 91) (ls' := [some (.inr (.inr (7, t))), some (.inl p), some (.inr (.inr (44, 0))), some (.inr (.inr (45, 0))), some (.inl e), some (.inl n), some (.inl i), some (.inl (σ.1 33 t (i.toNat)))]) (st' := [.inl (zW (n - 1)), .inr (.inr (45, 0)), .inl (zW (n - 1)), .inr (.inr (45, 0))]) (σ' := σ) 8 rfl ?_
  refine zX_ald1 (L := 160) rfl (by decide) rfl o2 ?_
  refine zX_run (n' := 93) (ls' := [some (.inr (.inr (7, t))), some (.inl p), some (.inr (.inr (44, 0))), some (.inr (.inr (45, 0))), some (.inl e), some (.inl n), some (.inl i), some (.inl (σ.1 33 t (i.toNat)))]) (st' := [.inl (zW (-(σ.1 45 0 ((zW (n - 1)).toNat)))), .inl (zW (n - 1)), .inr (.inr (45, 0))]) (σ' := σ) 1 rfl ?_
  refine zX_ast1 (L := 160) rfl (by decide) rfl o2 ?_
  refine zX_run (n' := 21) (ls' := [some (.inr (.inr (7, t))), some (.inl p), some (.inr (.inr (44, 0))), some (.inr (.inr (45, 0))), some (.inl e), some (.inl n), some (.inl (zW (i + 1))), some (.inl (σ.1 33 t (i.toNat)))]) (st' := []) (σ' := (zU σ 45 0 ((zW (n - 1)).toNat) (zW (-(σ.1 45 0 ((zW (n - 1)).toNat)))))) 3 rfl ?_
  exact h1
-- X7_worth
theorem zb_58e {d : Nat} {σ : zS} {Q : Option zV → zS → Prop} {t : Nat} {p e n i : Int} {x : Option zV}
    (q1 : i < e ∧ 0 ≤ i ∧ i < 160)
    (q2 : σ.1 33 t (i.toNat) < -6 ∧ ¬ σ.1 33 t (i.toNat) = -9 ∧ ¬ σ.1 33 t (i.toNat) = -15 ∧ 2 ≤ n)
    (o1 : (0 : Int) ≤ i ∧ i < (160 : Int))
    (o2 : (0 : Int) ≤ zW ((zW (n + (-1))) - 1) ∧ zW ((zW (n + (-1))) - 1) < (160 : Int))
    (o3 : (0 : Int) ≤ zW (n + (-1)) ∧ zW (n + (-1)) < (160 : Int))
    (h1 : zX (d + 1) 58 21 [some (.inr (.inr (7, t))), some (.inl p), some (.inr (.inr (44, 0))), some (.inr (.inr (45, 0))), some (.inl e), some (.inl (zW (n + (-1)))), some (.inl (zW (i + 1))), some (.inl (σ.1 33 t (i.toNat)))] [] (zU σ 45 0 ((zW ((zW (n + (-1))) - 1)).toNat) (uBin (3 - (σ.1 33 t (i.toNat))) (σ.1 45 0 ((zW ((zW (n + (-1))) - 1)).toNat)) (σ.1 45 0 ((zW (n + (-1))).toNat)))) Q) :
    zX (d + 1) 58 21 [some (.inr (.inr (7, t))), some (.inl p), some (.inr (.inr (44, 0))), some (.inr (.inr (45, 0))), some (.inl e), some (.inl n), some (.inl i), x] [] σ Q := by
  refine zX_run (n' := 23) (ls' := [some (.inr (.inr (7, t))), some (.inl p), some (.inr (.inr (44, 0))), some (.inr (.inr (45, 0))), some (.inl e), some (.inl n), some (.inl i), x]) (st' := [.inl e, .inl i]) (σ' := σ) 2 rfl ?_
  refine zX_c3 rfl (fun a1 => absurd a1 (by omega)) (fun _ => ?_)
  refine zX_run (n' := 27) (ls' := [some (.inr (.inr (7, t))), some (.inl p), some (.inr (.inr (44, 0))), some (.inr (.inr (45, 0))), some (.inl e), some (.inl n), some (.inl i), x]) (st' := [.inl i, .inr (.inr (33, t))]) (σ' := σ) 3 rfl ?_
  refine zX_ald1 (L := 160) rfl (by decide) rfl o1 ?_
  refine zX_run (n' := 30) (ls' := [some (.inr (.inr (7, t))), some (.inl p), some (.inr (.inr (44, 0))), some (.inr (.inr (45, 0))), some (.inl e), some (.inl n), some (.inl i), some (.inl (σ.1 33 t (i.toNat)))]) (st' := [.inl (σ.1 33 t (i.toNat))]) (σ' := σ) 2 rfl ?_
  refine zX_i2 rfl (fun _ => ?_) (fun a2 => absurd a2 (by omega))
  refine zX_run (n' := 43) (ls' := [some (.inr (.inr (7, t))), some (.inl p), some (.inr (.inr (44, 0))), some (.inr (.inr (45, 0))), some (.inl e), some (.inl n), some (.inl i), some (.inl (σ.1 33 t (i.toNat)))]) (st' := [.inl (-6), .inl (σ.1 33 t (i.toNat))]) (σ' := σ) 2 rfl ?_
  refine zX_c2 rfl (fun _ => ?_) (fun a3 => absurd a3 (by omega))
  refine zX_run (n' := 60) (ls' := [some (.inr (.inr (7, t))), some (.inl p), some (.inr (.inr (44, 0))), some (.inr (.inr (45, 0))), some (.inl e), some (.inl n), some (.inl i), some (.inl (σ.1 33 t (i.toNat)))]) (st' := [.inl (-9), .inl (σ.1 33 t (i.toNat))]) (σ' := σ) 2 rfl ?_
  refine zX_c1 rfl (fun _ => ?_) (fun a4 => absurd a4 (by omega))
  refine zX_run (n' := 80) (ls' := [some (.inr (.inr (7, t))), some (.inl p), some (.inr (.inr (44, 0))), some (.inr (.inr (45, 0))), some (.inl e), some (.inl n), some (.inl i), some (.inl (σ.1 33 t (i.toNat)))]) (st' := [.inl (-15), .inl (σ.1 33 t (i.toNat))]) (σ' := σ) 2 rfl ?_
  refine zX_c1 rfl (fun _ => ?_) (fun a5 => absurd a5 (by omega))
  refine zX_run (n' := 97) (ls' := [some (.inr (.inr (7, t))), some (.inl p), some (.inr (.inr (44, 0))), some (.inr (.inr (45, 0))), some (.inl e), some (.inl n), some (.inl i), some (.inl (σ.1 33 t (i.toNat)))]) (st' := [.inl 1, .inl n]) (σ' := σ) 2 rfl ?_
  refine zX_c5 rfl (fun a6 => absurd a6 (by omega)) (fun _ => ?_)
  refine zX_run (n' := 108) (ls' := [some (.inr (.inr (7, t))), some (.inl p), some (.inr (.inr (44, 0))), some (.inr (.inr (45, 0))), some (.inl e), some (.inl (zW (n + (-1)))), some (.inl i), some (.inl (σ.1 33 t (i.toNat)))]) (st' := [.inl (zW ((zW (n + (-1))) - 1)), .inr (.inr (45, 0)), .inl (σ.1 33 t (i.toNat)), .inl (zW ((zW (n + (-1))) - 1)), .inr (.inr (45, 0))]) (σ' := σ) 10 rfl ?_
  refine zX_ald1 (L := 160) rfl (by decide) rfl o2 ?_
  refine zX_run (n' := 111) (ls' := [some (.inr (.inr (7, t))), some (.inl p), some (.inr (.inr (44, 0))), some (.inr (.inr (45, 0))), some (.inl e), some (.inl (zW (n + (-1)))), some (.inl i), some (.inl (σ.1 33 t (i.toNat)))]) (st' := [.inl (zW (n + (-1))), .inr (.inr (45, 0)), .inl (σ.1 45 0 ((zW ((zW (n + (-1))) - 1)).toNat)), .inl (σ.1 33 t (i.toNat)), .inl (zW ((zW (n + (-1))) - 1)), .inr (.inr (45, 0))]) (σ' := σ) 2 rfl ?_
  refine zX_ald1 (L := 160) rfl (by decide) rfl o3 ?_
  refine zX_call rfl rfl ?_
  refine zs_59 ?_
  · skip
    refine zX_ast1 (L := 160) rfl (by decide) rfl o2 ?_
    refine zX_run (n' := 21) (ls' := [some (.inr (.inr (7, t))), some (.inl p), some (.inr (.inr (44, 0))), some (.inr (.inr (45, 0))), some (.inl e), some (.inl (zW (n + (-1)))), some (.inl (zW (i + 1))), some (.inl (σ.1 33 t (i.toNat)))]) (st' := []) (σ' := (zU σ 45 0 ((zW ((zW (n + (-1))) - 1)).toNat) (uBin (3 - (σ.1 33 t (i.toNat))) (σ.1 45 0 ((zW ((zW (n + (-1))) - 1)).toNat)) (σ.1 45 0 ((zW (n + (-1))).toNat))))) 2 rfl ?_
    exact h1
def uCan (c : Int) : Int := if 0 ≤ c then c + 100 else if -6 ≤ c then -1 - c else 3 - c
/-- the stack of a text, in the array -/
def cStk (G : Nat → Nat → Nat → Int) (s : List Int) : Prop := ∀ j, j < s.length → G 45 0 j = s.getD (s.length - 1 - j) 0
theorem cStk_push {G : Nat → Nat → Nat → Int} {s : List Int} {v : Int} (h : cStk G s) : cStk (uG G 45 0 s.length v) (v :: s) := by
  intro j hj
  show (if 45 = 45 ∧ j = s.length ∧ 0 = 0 then v else G 45 0 j) = _
  by_cases e : j = s.length
  · subst e; simp
  · rw [if_neg (by omega), h j (by simp at hj; omega)]
    rw [show (v :: s).length - 1 - j = (s.length - 1 - j) + 1 by simp at hj ⊢; omega, List.getD_cons_succ]
theorem cStk_top {G : Nat → Nat → Nat → Int} {a : Int} {s : List Int} {v : Int} (h : cStk G (a :: s)) : cStk (uG G 45 0 s.length v) (v :: s) := by
  intro j hj
  show (if 45 = 45 ∧ j = s.length ∧ 0 = 0 then v else G 45 0 j) = _
  by_cases e : j = s.length
  · subst e; simp
  · rw [if_neg (by omega), h j (by simpa using hj)]
    rw [show (v :: s).length - 1 - j = (s.length - 1 - j) + 1 by simp at hj ⊢; omega, show (a :: s).length - 1 - j = (s.length - 1 - j) + 1 by simp at hj ⊢; omega, List.getD_cons_succ, List.getD_cons_succ]
theorem cStk_pop {G : Nat → Nat → Nat → Int} {a : Int} {s : List Int} (h : cStk G (a :: s)) : cStk G s := by
  intro j hj
  rw [h j (by simp; omega), show (a :: s).length - 1 - j = (s.length - 1 - j) + 1 by simp; omega, List.getD_cons_succ]
theorem cStk_hd {G : Nat → Nat → Nat → Int} {a : Int} {s : List Int} (h : cStk G (a :: s)) : G 45 0 s.length = a := by
  rw [h s.length (by simp)]; simp
/-- the class's codes, as the reference has them -/
def cCode (σ : zS) (t a n : Nat) : List Int := uSeq (fun k => uCan (σ.1 33 t k)) a n
theorem zs_58l {d : Nat} {σ : zS} {Q : Option zV → zS → Prop} {t : Nat} {p : Int} {e : Nat} {nm : Nat → Int} (he : e ≤ 160) (hlo : ∀ j, j < e → -15 ≤ σ.1 33 t j) : ∀ (k : Nat) {i : Nat} {s : List Int} {G : Nat → Nat → Nat → Int} {x : Option zV}, i + k = e → uHt (cCode σ t i k) s.length = some 1 → s.length ≤ i → cStk G s → (∀ j, j < 6 → G 44 0 j = nm j) →
    (∀ G' : Nat → Nat → Nat → Int, G' 44 = G 44 → Q (some (.inl ((uEv (fun c => nm c.toNat) (cCode σ t i k) s).headD 0))) (zN σ G')) →
    zX (d + 1) 58 21 [some (.inr (.inr (7, t))), some (.inl p), some (.inr (.inr (44, 0))), some (.inr (.inr (45, 0))), some (.inl (e : Int)), some (.inl (s.length : Int)), some (.inl (i : Int)), x] [] (zN σ G) Q
  | 0, i, s, G, x, hi, hh, hs, hk, hn, h => by
    refine zb_58x (by omega) ?_
    have : s.length = 1 := by simpa [cCode, uSeq, uHt] using hh
    match s, this with
    | [a], _ => exact zQ_i (h G rfl) (cStk_hd hk)
  | k + 1, i, s, G, x, hi, hh, hs, hk, hn, h => by
    have eC : cCode σ t i (k + 1) = uCan (σ.1 33 t i) :: cCode σ t (i + 1) k := rfl
    rw [eC] at hh h
    have eV : ∀ nm s, uEv nm (uCan (σ.1 33 t i) :: cCode σ t (i + 1) k) s = uEv nm (cCode σ t (i + 1) k) (uOp nm (uCan (σ.1 33 t i)) s) := fun _ _ => rfl
    rw [eV] at h
    unfold uHt at hh
    have lo := hlo i (by omega)
    generalize hc : σ.1 33 t i = c at hh h lo
    have hc2 : (zN σ G).1 33 t (i : Int).toNat = c := hc
    have step : ∀ (s' : List Int) (G' : Nat → Nat → Nat → Int) (y : Option zV), uHt (cCode σ t (i + 1) k) s'.length = some 1 → s'.length ≤ i + 1 → cStk G' s' → G' 44 = G 44 → uOp (fun c => nm c.toNat) (uCan c) s = s' → zX (d + 1) 58 21 [some (.inr (.inr (7, t))), some (.inl p), some (.inr (.inr (44, 0))), some (.inr (.inr (45, 0))), some (.inl (e : Int)), some (.inl (s'.length : Int)), some (.inl (zW ((i : Int) + 1))), y] [] (zN σ G') Q := by
      intro s' G' y g1 g2 g3 g4 g5
      rw [zWs (by omega)]
      exact zs_58l (nm := nm) he hlo k (by omega) g1 g2 g3 (fun j hj => by rw [g4]; exact hn j hj) (fun G2 g => by have := h G2 (g.trans g4); rw [g5] at this; exact this)
    by_cases c0 : 0 ≤ c
    · have eU : uCan c = c + 100 := by unfold uCan; rw [if_pos c0]
      rw [eU] at hh step
      rw [if_pos (by omega)] at hh
      refine zb_58a (by omega) (by rw [hc2]; omega) (by omega) (by omega) ?_
      rw [hc2, zN_U45, zWs (by omega)]
      exact step (c :: s) _ _ (by simpa using hh) (by simp; omega) (cStk_push hk) rfl (by unfold uOp; rw [if_pos (by omega)]; congr 1; omega)
    · by_cases c1 : -6 ≤ c
      · have eU : uCan c = -1 - c := by unfold uCan; rw [if_neg c0, if_pos c1]
        rw [eU] at hh step
        rw [if_pos (by omega)] at hh
        have w : zW (-1 - c) = -1 - c := zW_id (by omega)
        refine zb_58b (by omega) (by rw [hc2]; omega) (by omega) (by rw [hc2, w]; omega) (by omega) ?_
        rw [hc2, zN_U45, zWs (by omega), w]
        refine step (nm (-1 - c).toNat :: s) _ _ (by simpa using hh) (by simp; omega) ?_ rfl (by unfold uOp; rw [if_neg (by omega), if_pos (by omega)])
        have : (zN σ G).1 44 0 (-1 - c).toNat = nm (-1 - c).toNat := hn _ (by omega)
        rw [this]
        exact cStk_push hk
      · have eU : uCan c = 3 - c := by unfold uCan; rw [if_neg c0, if_neg c1]
        rw [eU] at hh step
        rw [if_neg (by omega)] at hh
        by_cases u : 3 - c = 12 ∨ 3 - c = 18
        · rw [if_pos u] at hh
          match s, hh, hs, hk, step with
          | [], hh, _, _, _ => simp at hh
          | a :: s, hh, hs, hk, step =>
            rw [if_pos (by simp)] at hh
            have w : zW (((a :: s).length : Int) - 1) = (s.length : Int) := by rw [zW_id (by simp; simp at hs; omega)]; simp
            have hd := cStk_hd hk
            have hd2 : (zN σ G).1 45 0 s.length = a := hd
            by_cases u1 : c = -9
            · subst u1
              have st : uOp (fun c => nm c.toNat) (3 - -9) (a :: s) = (if a = 0 then 1 else 0) :: s := rfl
              refine zb_58c (by simp at hs; omega) ⟨hc2, by simp; omega⟩ (by omega) (by rw [w]; simp at hs; omega) ?_ ?_
              · rw [w, Int.toNat_natCast, hd2]; intro ha
                rw [zN_U45]
                exact step ((if a = 0 then 1 else 0) :: s) _ _ (by simpa using hh) (by simp at hs ⊢; omega) (by rw [if_neg ha]; exact cStk_top hk) rfl st
              · rw [w, Int.toNat_natCast, hd2]; intro ha
                rw [zN_U45]
                exact step ((if a = 0 then 1 else 0) :: s) _ _ (by simpa using hh) (by simp at hs ⊢; omega) (by rw [if_pos ha]; exact cStk_top hk) rfl st
            · have u2 : c = -15 := by omega
              subst u2
              have st : uOp (fun c => nm c.toNat) (3 - -15) (a :: s) = zW (-a) :: s := rfl
              refine zb_58d (by simp at hs; omega) ⟨hc2, by simp; omega⟩ (by omega) (by rw [w]; simp at hs; omega) ?_
              rw [w]
              simp only [Int.toNat_natCast]
              rw [hd2, zN_U45]
              exact step (zW (-a) :: s) _ _ (by simpa using hh) (by simp at hs ⊢; omega) (cStk_top hk) rfl st
        · rw [if_neg u] at hh
          match s, hh, hs, hk, step with
          | [], hh, _, _, _ => simp at hh
          | [a], hh, _, _, _ => simp at hh
          | b :: a :: s, hh, hs, hk, step =>
            rw [if_pos (by simp)] at hh
            have w : zW (((b :: a :: s).length : Int) + (-1)) = ((a :: s).length : Int) := by rw [zW_id (by simp; simp at hs; omega)]; simp; omega
            have w2 : zW (((a :: s).length : Int) - 1) = (s.length : Int) := by rw [zW_id (by simp; simp at hs; omega)]; simp
            have hd : (zN σ G).1 45 0 (a :: s).length = b := cStk_hd hk
            have hd2 : (zN σ G).1 45 0 s.length = a := cStk_hd (cStk_pop hk)
            refine zb_58e (by simp at hs; omega) (by rw [hc2]; exact ⟨by omega, by omega, by omega, by simp; omega⟩) (by omega) (by rw [w, w2]; simp at hs; omega) (by rw [w]; simp at hs ⊢; omega) ?_
            rw [w, w2, hc2, Int.toNat_natCast, Int.toNat_natCast, hd, hd2, zN_U45]
            refine step (uBin (3 - c) a b :: s) _ _ (by simpa using hh) (by simp at hs ⊢; omega) (cStk_top (cStk_pop hk)) rfl ?_
            unfold uOp
            rw [if_neg (by omega), if_neg (by omega), if_neg (by omega), if_neg (by omega)]
-- X7_worth
theorem zb_58n {d : Nat} {σ : zS} {Q : Option zV → zS → Prop} {t : Nat} {p : Int}
    (h1 : ¬ p = 0 → zX (d + 1) 58 21 [some (.inr (.inr (7, t))), some (.inl p), some (.inr (.inr (44, 0))), some (.inr (.inr (45, 0))), some (.inl (σ.1 7 t 2)), some (.inl 0), some (.inl (σ.1 7 t 1)), none] [] (zU σ 45 0 0 0) Q)
    (h2 : p = 0 → zX (d + 1) 58 21 [some (.inr (.inr (7, t))), some (.inl p), some (.inr (.inr (44, 0))), some (.inr (.inr (45, 0))), some (.inl (σ.1 7 t 1)), some (.inl 0), some (.inl 0), none] [] (zU σ 45 0 0 0) Q) :
    zM (d + 1) 58 [.inr (.inr (7, t)), .inl p, .inr (.inr (44, 0)), .inr (.inr (45, 0))] σ Q := by
  refine zX_run (n' := 1) (ls' := [some (.inr (.inr (7, t))), some (.inl p), some (.inr (.inr (44, 0))), some (.inr (.inr (45, 0))), none, none, none, none]) (st' := [.inl p]) (σ' := σ) 1 rfl ?_
  refine zX_i1 rfl (fun a1 => ?_) (fun a1 => ?_)
  · skip
    refine zX_run (n' := 13) (ls' := [some (.inr (.inr (7, t))), some (.inl p), some (.inr (.inr (44, 0))), some (.inr (.inr (45, 0))), some (.inl (σ.1 7 t 2)), some (.inl 0), none, none]) (st' := [.inl 0, .inl 0, .inr (.inr (45, 0))]) (σ' := σ) 8 rfl ?_
    refine zX_ast1 (L := 160) rfl (by decide) rfl (by decide) ?_
    refine zX_run (n' := 15) (ls' := [some (.inr (.inr (7, t))), some (.inl p), some (.inr (.inr (44, 0))), some (.inr (.inr (45, 0))), some (.inl (σ.1 7 t 2)), some (.inl 0), none, none]) (st' := [.inl p]) (σ' := (zU σ 45 0 0 0)) 1 rfl ?_
    refine zX_i1 rfl (fun _ => ?_) (fun a2 => absurd a2 (by omega))
    refine zX_run (n' := 21) (ls' := [some (.inr (.inr (7, t))), some (.inl p), some (.inr (.inr (44, 0))), some (.inr (.inr (45, 0))), some (.inl (σ.1 7 t 2)), some (.inl 0), some (.inl (σ.1 7 t 1)), none]) (st' := []) (σ' := (zU σ 45 0 0 0)) 3 rfl ?_
    exact h1 a1
  · skip
    refine zX_run (n' := 13) (ls' := [some (.inr (.inr (7, t))), some (.inl p), some (.inr (.inr (44, 0))), some (.inr (.inr (45, 0))), some (.inl (σ.1 7 t 1)), some (.inl 0), none, none]) (st' := [.inl 0, .inl 0, .inr (.inr (45, 0))]) (σ' := σ) 9 rfl ?_
    refine zX_ast1 (L := 160) rfl (by decide) rfl (by decide) ?_
    refine zX_run (n' := 15) (ls' := [some (.inr (.inr (7, t))), some (.inl p), some (.inr (.inr (44, 0))), some (.inr (.inr (45, 0))), some (.inl (σ.1 7 t 1)), some (.inl 0), none, none]) (st' := [.inl p]) (σ' := (zU σ 45 0 0 0)) 1 rfl ?_
    refine zX_i1 rfl (fun a3 => absurd a3 (by omega)) (fun _ => ?_)
    refine zX_run (n' := 21) (ls' := [some (.inr (.inr (7, t))), some (.inl p), some (.inr (.inr (44, 0))), some (.inr (.inr (45, 0))), some (.inl (σ.1 7 t 1)), some (.inl 0), some (.inl 0), none]) (st' := []) (σ' := (zU σ 45 0 0 0)) 3 rfl ?_
    exact h2 a1
def cPart (σ : zS) (t : Nat) (p : Int) : List Int := if p = 0 then cCode σ t 0 (σ.1 7 t 1).toNat else cCode σ t (σ.1 7 t 1).toNat ((σ.1 7 t 2).toNat - (σ.1 7 t 1).toNat)
def cTok (σ : zS) (t : Nat) : Prop := (0 ≤ σ.1 7 t 1 ∧ σ.1 7 t 1 ≤ σ.1 7 t 2 ∧ σ.1 7 t 2 ≤ 160) ∧ (∀ j : Nat, (j : Int) < σ.1 7 t 2 → -15 ≤ σ.1 33 t j) ∧ uHt (cPart σ t 0) 0 = some 1 ∧ uHt (cPart σ t 1) 0 = some 1
theorem zs_58 {d : Nat} {σ : zS} {Q : Option zV → zS → Prop} {t : Nat} {p : Int} (o1 : cTok σ t) (o2 : p = 0 ∨ p = 1)
    (h : ∀ G : Nat → Nat → Nat → Int, G 44 = σ.1 44 → Q (some (.inl ((uEv (fun c => σ.1 44 0 c.toNat) (cPart σ t p) []).headD 0))) (zN σ G)) :
    zM (d + 1) 58 [.inr (.inr (7, t)), .inl p, .inr (.inr (44, 0)), .inr (.inr (45, 0))] σ Q := by
  obtain ⟨⟨a1, a2, a3⟩, a4, a5, a6⟩ := o1
  obtain ⟨e1, he1⟩ := Int.eq_ofNat_of_zero_le a1
  obtain ⟨e2, he2⟩ := Int.eq_ofNat_of_zero_le (show 0 ≤ σ.1 7 t 2 by omega)
  unfold cPart at a5 a6 h
  rw [he1] at a5 a6 h
  rw [he2] at a5 a6 h
  have g0 : zU σ 45 0 0 0 = zN σ (uG σ.1 45 0 0 0) := by
    refine Prod.ext (funext fun k => funext fun n' => funext fun j' => ?_) rfl
    show (if k = 45 ∧ j' = 0 ∧ n' = 0 then 0 else σ.1 k n' j') = (if k = 44 then uG σ.1 45 0 0 0 44 else if k = 45 then uG σ.1 45 0 0 0 45 else σ.1 k) n' j'
    by_cases a : k = 44
    · subst a; rfl
    · by_cases b : k = 45
      · subst b; rfl
      · rw [if_neg a, if_neg b, if_neg (fun q => b q.1)]
  refine zb_58n (fun hp => ?_) (fun hp => ?_)
  · rw [g0]
    show zX (d + 1) 58 21 [_, _, _, _, some (.inl (σ.1 7 t 2)), _, some (.inl (σ.1 7 t 1)), _] [] _ Q
    rw [he1, he2]
    rw [if_neg hp] at h
    rw [if_neg (by decide)] at a6
    refine zs_58l (s := []) (i := e1) (nm := σ.1 44 0) (by omega) (fun j hj => a4 j (by omega)) (e2 - e1) (by omega) a6 (by simp) (fun j hj => absurd hj (by simp)) (fun j _ => rfl) (fun G' g => h G' g)
  · rw [g0]
    show zX (d + 1) 58 21 [_, _, _, _, some (.inl (σ.1 7 t 1)), _, _, _] [] _ Q
    rw [he1]
    rw [if_pos hp] at h
    rw [if_pos rfl] at a5
    refine zs_58l (s := []) (i := 0) (nm := σ.1 44 0) (by omega) (fun j hj => a4 j (by omega)) e1 (by omega) a5 (by simp) (fun j hj => absurd hj (by simp)) (fun j _ => rfl) (fun G' g => h G' g)
-- X8_wantsBy
theorem zb_67 {d : Nat} {σ : zS} {Q : Option zV → zS → Prop} {t : Nat} {h : Int} {m : Int} {l : Int}
    (o1 : 0 ≤ h ∧ h < 16)
    (o2 : 0 ≤ m ∧ m < 96)
    (o3 : 0 ≤ cH σ h.toNat 2 ∧ cH σ h.toNat 2 < 7)
    (o4 : ∀ G1 : Nat → Nat → Nat → Int, (∀ j, j < 6 → G1 44 0 j = cNmv σ h.toNat m.toNat l j) → cTok (zN σ G1) t)
    (o5 : ∀ G1 : Nat → Nat → Nat → Int, (∀ j, j < 6 → G1 44 0 j = cNmv σ h.toNat m.toNat l j) → (0 : Int) = 0 ∨ (0 : Int) = 1)
    (o6 : ∀ G1 : Nat → Nat → Nat → Int, (∀ j, j < 6 → G1 44 0 j = cNmv σ h.toNat m.toNat l j) → ∀ G2 : Nat → Nat → Nat → Int, G2 44 = (zN σ G1).1 44 → ¬ ((uEv (fun c => (zN σ G1).1 44 0 c.toNat) (cPart (zN σ G1) t 0) []).headD 0) = 0 → cTok (zN (zN σ G1) G2) t)
    (o7 : ∀ G1 : Nat → Nat → Nat → Int, (∀ j, j < 6 → G1 44 0 j = cNmv σ h.toNat m.toNat l j) → ∀ G2 : Nat → Nat → Nat → Int, G2 44 = (zN σ G1).1 44 → ¬ ((uEv (fun c => (zN σ G1).1 44 0 c.toNat) (cPart (zN σ G1) t 0) []).headD 0) = 0 → (1 : Int) = 0 ∨ (1 : Int) = 1)
    (o8 : ∀ G1 : Nat → Nat → Nat → Int, (∀ j, j < 6 → G1 44 0 j = cNmv σ h.toNat m.toNat l j) → ∀ G2 : Nat → Nat → Nat → Int, G2 44 = (zN σ G1).1 44 → ¬ ((uEv (fun c => (zN σ G1).1 44 0 c.toNat) (cPart (zN σ G1) t 0) []).headD 0) = 0 → ∀ G3 : Nat → Nat → Nat → Int, G3 44 = (zN (zN σ G1) G2).1 44 → (0 : Int) ≤ h ∧ h < (16 : Int))
    (h1 : ∀ G1 : Nat → Nat → Nat → Int, (∀ j, j < 6 → G1 44 0 j = cNmv σ h.toNat m.toNat l j) → ∀ G2 : Nat → Nat → Nat → Int, G2 44 = (zN σ G1).1 44 → ¬ ((uEv (fun c => (zN σ G1).1 44 0 c.toNat) (cPart (zN σ G1) t 0) []).headD 0) = 0 → ∀ G3 : Nat → Nat → Nat → Int, G3 44 = (zN (zN σ G1) G2).1 44 → Q (some (.inl (zW ((uAsk ((zN (zN (zN σ G1) G2) G3).1 1 (16 * 0 + h.toNat) 0) ((zN (zN (zN σ G1) G2) G3).1 1 (16 * 0 + h.toNat) 3) (zW (m - zW (zW (m.tdiv 12) * 12))) ((zN (zN (zN σ G1) G2) G3).1 44 0 4)) - (zW ((zW ((uAsk ((zN (zN (zN σ G1) G2) G3).1 1 (16 * 0 + h.toNat) 0) ((zN (zN (zN σ G1) G2) G3).1 1 (16 * 0 + h.toNat) 3) (zW (m - zW (zW (m.tdiv 12) * 12))) ((zN (zN (zN σ G1) G2) G3).1 44 0 4)) * (uMax 0 (uMin (((uEv (fun c => (zN (zN σ G1) G2).1 44 0 c.toNat) (cPart (zN (zN σ G1) G2) t 1) []).headD 0)) 100)))).tdiv 100)))))) (zN (zN (zN σ G1) G2) G3))
    (h2 : ∀ G1 : Nat → Nat → Nat → Int, (∀ j, j < 6 → G1 44 0 j = cNmv σ h.toNat m.toNat l j) → ∀ G2 : Nat → Nat → Nat → Int, G2 44 = (zN σ G1).1 44 → ((uEv (fun c => (zN σ G1).1 44 0 c.toNat) (cPart (zN σ G1) t 0) []).headD 0) = 0 → Q (some (.inl 0)) (zN (zN σ G1) G2)) :
    zM (d + 10) 67 [.inr (.inr (8, 0)), .inr (.inr (7, t)), .inl h, .inl m, .inl l] σ Q := by
  refine zX_run (n' := 4) (ls' := [some (.inr (.inr (8, 0))), some (.inr (.inr (7, t))), some (.inl h), some (.inl m), some (.inl l), none, none]) (st' := [.inl l, .inl m, .inl h, .inr (.inr (8, 0))]) (σ' := σ) 4 rfl ?_
  refine zX_call rfl rfl ?_
  refine zs_66 o1 o2 o3 (fun G1 a1 => ?_)
  · skip
    refine zX_run (n' := 11) (ls' := [some (.inr (.inr (8, 0))), some (.inr (.inr (7, t))), some (.inl h), some (.inl m), some (.inl l), none, none]) (st' := [.inr (.inr (45, 0)), .inr (.inr (44, 0)), .inl 0, .inr (.inr (7, t))]) (σ' := (zN σ G1)) 6 rfl ?_
    refine zX_call rfl rfl ?_
    refine zs_58 (o4 G1 a1) (o5 G1 a1) (fun G2 a2 => ?_)
    · skip
      refine zX_i1 rfl (fun a3 => ?_) (fun a3 => ?_)
      · skip
        refine zX_run (n' := 22) (ls' := [some (.inr (.inr (8, 0))), some (.inr (.inr (7, t))), some (.inl h), some (.inl m), some (.inl l), none, none]) (st' := [.inr (.inr (45, 0)), .inr (.inr (44, 0)), .inl 1, .inr (.inr (7, t)), .inl 0]) (σ' := (zN (zN σ G1) G2)) 7 rfl ?_
        refine zX_call rfl rfl ?_
        refine zs_58 (o6 G1 a1 G2 a2 a3) (o7 G1 a1 G2 a2 a3) (fun G3 a4 => ?_)
        · skip
          refine zX_run (n' := 24) (ls' := [some (.inr (.inr (8, 0))), some (.inr (.inr (7, t))), some (.inl h), some (.inl m), some (.inl l), none, none]) (st' := [.inl 100, .inl (((uEv (fun c => (zN (zN σ G1) G2).1 44 0 c.toNat) (cPart (zN (zN σ G1) G2) t 1) []).headD 0)), .inl 0]) (σ' := (zN (zN (zN σ G1) G2) G3)) 1 rfl ?_
          refine zX_b0 rfl (by omega) rfl ?_
          refine zX_b1 rfl (by omega) rfl ?_
          refine zX_run (n' := 30) (ls' := [some (.inr (.inr (8, 0))), some (.inr (.inr (7, t))), some (.inl h), some (.inl m), some (.inl l), some (.inl (uMax 0 (uMin (((uEv (fun c => (zN (zN σ G1) G2).1 44 0 c.toNat) (cPart (zN (zN σ G1) G2) t 1) []).headD 0)) 100))), none]) (st' := [.inl h, .inr (.inr (39, 0))]) (σ' := (zN (zN (zN σ G1) G2) G3)) 4 rfl ?_
          refine zX_ald5 (L := 16) rfl (by decide) rfl (o8 G1 a1 G2 a2 a3 G3 a4) ?_
          refine zX_run (n' := 35) (ls' := [some (.inr (.inr (8, 0))), some (.inr (.inr (7, t))), some (.inl h), some (.inl m), some (.inl l), some (.inl (uMax 0 (uMin (((uEv (fun c => (zN (zN σ G1) G2).1 44 0 c.toNat) (cPart (zN (zN σ G1) G2) t 1) []).headD 0)) 100))), none]) (st' := [.inl 4, .inr (.inr (44, 0)), .inl m, .inr (.inr (1, 16 * 0 + h.toNat))]) (σ' := (zN (zN (zN σ G1) G2) G3)) 4 rfl ?_
          refine zX_ald1 (L := 6) rfl (by decide) rfl (by decide) ?_
          refine zX_call rfl rfl ?_
          refine zs_27 ?_
          · skip
            refine zX_run (n' := 45) (ls' := [some (.inr (.inr (8, 0))), some (.inr (.inr (7, t))), some (.inl h), some (.inl m), some (.inl l), some (.inl (uMax 0 (uMin (((uEv (fun c => (zN (zN σ G1) G2).1 44 0 c.toNat) (cPart (zN (zN σ G1) G2) t 1) []).headD 0)) 100))), some (.inl (uAsk ((zN (zN (zN σ G1) G2) G3).1 1 (16 * 0 + h.toNat) 0) ((zN (zN (zN σ G1) G2) G3).1 1 (16 * 0 + h.toNat) 3) (zW (m - zW (zW (m.tdiv 12) * 12))) ((zN (zN (zN σ G1) G2) G3).1 44 0 4)))]) (st' := [.inl (zW ((uAsk ((zN (zN (zN σ G1) G2) G3).1 1 (16 * 0 + h.toNat) 0) ((zN (zN (zN σ G1) G2) G3).1 1 (16 * 0 + h.toNat) 3) (zW (m - zW (zW (m.tdiv 12) * 12))) ((zN (zN (zN σ G1) G2) G3).1 44 0 4)) - (zW ((zW ((uAsk ((zN (zN (zN σ G1) G2) G3).1 1 (16 * 0 + h.toNat) 0) ((zN (zN (zN σ G1) G2) G3).1 1 (16 * 0 + h.toNat) 3) (zW (m - zW (zW (m.tdiv 12) * 12))) ((zN (zN (zN σ G1) G2) G3).1 44 0 4)) * (uMax 0 (uMin (((uEv (fun c => (zN (zN σ G1) G2).1 44 0 c.toNat) (cPart (zN (zN σ G1) G2) t 1) []).headD 0)) 100)))).tdiv 100))))]) (σ' := (zN (zN (zN σ G1) G2) G3)) 8 rfl ?_
            exact zX_ret rfl rfl (h1 G1 a1 G2 a2 a3 G3 a4)
      · skip
        refine zX_run (n' := 14) (ls' := [some (.inr (.inr (8, 0))), some (.inr (.inr (7, t))), some (.inl h), some (.inl m), some (.inl l), none, none]) (st' := [.inl 0]) (σ' := (zN (zN σ G1) G2)) 1 rfl ?_
        exact zX_ret rfl rfl (h2 G1 a1 G2 a2 a3)
theorem uEv_congr {nm nm' : Int → Int} : ∀ {L : List Int} {s : List Int}, (∀ c, c ∈ L → c < 6 → nm c = nm' c) → uEv nm L s = uEv nm' L s
  | [], s, h => rfl
  | c :: L, s, h => by
    unfold uEv
    rw [show uOp nm c s = uOp nm' c s by
      unfold uOp
      by_cases h1 : 100 ≤ c
      · rw [if_pos h1, if_pos h1]
      · by_cases h2 : c < 6
        · rw [if_neg h1, if_neg h1, if_pos h2, if_pos h2, h c List.mem_cons_self h2]
        · rw [if_neg h1, if_neg h1, if_neg h2, if_neg h2]]
    exact uEv_congr (fun x hx => h x (List.mem_cons_of_mem _ hx))
theorem uSeq_mem {f : Nat → Int} {c : Int} : ∀ {n a : Nat}, c ∈ uSeq f a n → ∃ k, a ≤ k ∧ k < a + n ∧ f k = c
  | 0, a, h => by simp [uSeq] at h
  | n + 1, a, h => by
    unfold uSeq at h
    cases h with
    | head => exact ⟨a, by omega, by omega, rfl⟩
    | tail _ h =>
      obtain ⟨k, h1, h2, h3⟩ := uSeq_mem h
      exact ⟨k, by omega, by omega, h3⟩
theorem cPart_mem {σ : zS} {t : Nat} {p c : Int} (o : cTok σ t) (hc : c ∈ cPart σ t p) (h6 : c < 6) : 0 ≤ c := by
  obtain ⟨⟨a1, a2, a3⟩, a4, -, -⟩ := o
  have : ∃ k : Nat, (k : Int) < σ.1 7 t 2 ∧ uCan (σ.1 33 t k) = c := by
    unfold cPart at hc
    split at hc
    · obtain ⟨k, h1, h2, h3⟩ := uSeq_mem hc; exact ⟨k, by omega, h3⟩
    · obtain ⟨k, h1, h2, h3⟩ := uSeq_mem hc; exact ⟨k, by omega, h3⟩
  obtain ⟨k, h1, h2⟩ := this
  have := a4 k h1
  subst h2
  unfold uCan at h6 ⊢
  (repeat' split) <;> (repeat' split at h6) <;> omega
/-- what a text's part comes to for a hold in a month, as the class works it -/
def cEv (σ : zS) (t h m : Nat) (l p : Int) : Int := (uEv (fun c => cNmv σ h m l c.toNat) (cPart σ t p) []).headD 0
def cAsks (σ : zS) (h m : Nat) : Int := uAsk (cH σ h 0) (cH σ h 3) ((m % 12 : Nat) : Int) (cRead σ (cH σ h 2).toNat m)
def cWb (σ : zS) (t h m : Nat) (l : Int) : Int := if cEv σ t h m l 0 = 0 then 0 else uCut (cAsks σ h m) (uClamp (cEv σ t h m l 1))
theorem uClamp_mm {c : Int} : uMax 0 (uMin c 100) = uClamp c := by
  unfold uMax uMin uClamp; (repeat' split) <;> omega
theorem zs_67 {d : Nat} {σ : zS} {Q : Option zV → zS → Prop} {t : Nat} {h m l : Int} (o1 : 0 ≤ h ∧ h < 16) (o2 : 0 ≤ m ∧ m < 96) (o3 : 0 ≤ cH σ h.toNat 2 ∧ cH σ h.toNat 2 < 7) (o4 : cTok σ t)
    (h1 : ∀ G : Nat → Nat → Nat → Int, Q (some (.inl (cWb σ t h.toNat m.toNat l))) (zN σ G)) :
    zM (d + 10) 67 [.inr (.inr (8, 0)), .inr (.inr (7, t)), .inl h, .inl m, .inl l] σ Q := by
  have eE : ∀ (p : Int) (G : Nat → Nat → Nat → Int), (∀ j, j < 6 → G 44 0 j = cNmv σ h.toNat m.toNat l j) → (uEv (fun c => G 44 0 c.toNat) (cPart σ t p) []).headD 0 = cEv σ t h.toNat m.toNat l p := by
    intro p G hG
    unfold cEv
    rw [uEv_congr (nm' := fun c => cNmv σ h.toNat m.toNat l c.toNat) (fun c hc h6 => hG _ (by have := cPart_mem o4 hc h6; omega))]
  have em : zW (m - zW (zW (m.tdiv 12) * 12)) = ((m.toNat % 12 : Nat) : Int) := by
    obtain ⟨m, rfl⟩ := Int.eq_ofNat_of_zero_le o2.1
    exact zMod12 (by omega)
  refine zb_67 o1 o2 o3 (fun _ _ => o4) (fun _ _ => Or.inl rfl) (fun _ _ _ _ _ => o4) (fun _ _ _ _ _ => Or.inr rfl) (fun _ _ _ _ _ _ _ => o1) (fun G1 g1 G2 g2 hz G3 g3 => ?_) (fun G1 g1 G2 g2 hz => ?_)
  · rw [zN_N, zN_N]
    have g2' : G2 44 = G1 44 := g2
    have g3' : G3 44 = G2 44 := g3
    have hz' : ¬ cEv σ t h.toNat m.toNat l 0 = 0 := fun q => hz ((eE 0 G1 g1).trans q)
    refine zQ_i (h1 G3) ?_
    unfold cWb
    rw [if_neg hz', uClamp_mm, em]
    have a4 : G3 44 0 4 = cRead σ (cH σ h.toNat 2).toNat m.toNat := by rw [g3', g2', g1 4 (by decide)]; rfl
    have e1 : (uEv (fun c => G2 44 0 c.toNat) (cPart σ t 1) []).headD 0 = cEv σ t h.toNat m.toNat l 1 := eE 1 G2 (fun j hj => by rw [g2']; exact g1 j hj)
    show zW (uAsk (cH σ h.toNat 0) (cH σ h.toNat 3) _ (G3 44 0 4) - zW ((zW (uAsk (cH σ h.toNat 0) (cH σ h.toNat 3) _ (G3 44 0 4) * uClamp ((uEv (fun c => G2 44 0 c.toNat) (cPart σ t 1) []).headD 0))).tdiv 100)) = _
    rw [a4, e1]
    rfl
  · rw [zN_N]
    refine zQ_i (h1 G2) ?_
    have hz' : cEv σ t h.toNat m.toNat l 0 = 0 := (eE 0 G1 g1).symm.trans hz
    unfold cWb
    rw [if_pos hz']
