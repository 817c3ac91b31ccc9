-- sold (wip/whole/gen/laws53.py)
-- X9_trySale
theorem zb_115 {d : Nat} {σ : zS} {Q : Option zV → zS → Prop} {h : Int} {r : Int}
    (o1 : (0 : Int) ≤ (96 : Int) ∧ (96 : Int) ≤ (96 : Int))
    (o2 : yRel σ)
    (o3 : ∀ G1 : Nat → Nat → Nat → Int, cWk (zG σ G1) 0 (mD σ) (96 : Int) → yRel (zG σ G1) → cOth σ G1 0 → (0 : Int) ≤ h ∧ h < (16 : Int))
    (h1 : ∀ G1 : Nat → Nat → Nat → Int, cWk (zG σ G1) 0 (mD σ) (96 : Int) → yRel (zG σ G1) → cOth σ G1 0 → zX (d + 15) 115 20 [some (.inr (.inr (9, 0))), some (.inl h), some (.inl r), some (.inr (.inr (1, 16 * 0 + h.toNat))), some (.inl ((zG σ G1).1 1 (16 * 0 + h.toNat) 2))] [.inl (-1), .inl (-1), .inr (.inr (0, 1))] (zU (zG σ G1) 1 (16 * 0 + h.toNat) 2 r) Q) :
    zM (d + 15) 115 [.inr (.inr (9, 0)), .inl h, .inl r] σ Q := by
  refine zX_run (n' := 3) (ls' := [some (.inr (.inr (9, 0))), some (.inl h), some (.inl r), none, none]) (st' := [.inl 96, .inr (.inr (0, 0))]) (σ' := σ) 3 rfl ?_
  refine zX_call rfl rfl ?_
  refine ys_2 o1 o2 (fun G1 a1 a2 a3 => ?_)
  · skip
    refine zX_run (n' := 8) (ls' := [some (.inr (.inr (9, 0))), some (.inl h), some (.inl r), none, none]) (st' := [.inl h, .inr (.inr (39, 0))]) (σ' := (zG σ G1)) 4 rfl ?_
    refine zX_ald5 (L := 16) rfl (by decide) rfl (o3 G1 a1 a2 a3) ?_
    refine zX_run (n' := 20) (ls' := [some (.inr (.inr (9, 0))), some (.inl h), some (.inl r), some (.inr (.inr (1, 16 * 0 + h.toNat))), some (.inl ((zG σ G1).1 1 (16 * 0 + h.toNat) 2))]) (st' := [.inl (-1), .inl (-1), .inr (.inr (0, 1))]) (σ' := (zU (zG σ G1) 1 (16 * 0 + h.toNat) 2 r)) 11 rfl ?_
    exact h1 G1 a1 a2 a3
-- X9_trySale
theorem zb_115b {d : Nat} {σ : zS} {Q : Option zV → zS → Prop} {a : Nat} {h r o : Int}
    (h1 : zX (d + 15) 115 24 [some (.inr (.inr (9, 0))), some (.inl h), some (.inl r), some (.inr (.inr (1, a))), some (.inl o)] [.inl 96, .inr (.inr (0, 1))] σ Q) :
    zX (d + 15) 115 21 [some (.inr (.inr (9, 0))), some (.inl h), some (.inl r), some (.inr (.inr (1, a))), some (.inl o)] [] σ Q := by
  refine zX_run (n' := 24) (ls' := [some (.inr (.inr (9, 0))), some (.inl h), some (.inl r), some (.inr (.inr (1, a))), some (.inl o)]) (st' := [.inl 96, .inr (.inr (0, 1))]) (σ' := σ) 3 rfl ?_
  exact h1
-- X9_trySale
theorem zb_115c {d : Nat} {σ : zS} {Q : Option zV → zS → Prop} {a : Nat} {h r o : Int}
    (h1 : Q (none) (zU σ 1 a 2 o)) :
    zX (d + 15) 115 25 [some (.inr (.inr (9, 0))), some (.inl h), some (.inl r), some (.inr (.inr (1, a))), some (.inl o)] [] σ Q := by
  refine zX_run (n' := 28) (ls' := [some (.inr (.inr (9, 0))), some (.inl h), some (.inl r), some (.inr (.inr (1, a))), some (.inl o)]) (st' := []) (σ' := (zU σ 1 a 2 o)) 3 rfl ?_
  exact zX_ret0 rfl rfl h1
-- X9_sold
theorem zb_93 {d : Nat} {σ : zS} {Q : Option zV → zS → Prop} {h : Int} {r : Int}
    (o1 : 0 ≤ σ.1 8 0 8 ∧ σ.1 8 0 8 ≤ 1000)
    (h1 : 0 ≤ h ∧ h < σ.1 8 0 8 → 0 ≤ r ∧ r ≤ 6 → zX (d + 20) 93 12 [some (.inr (.inr (9, 0))), some (.inl h), some (.inl r)] [.inl r, .inl h, .inr (.inr (9, 0))] σ Q)
    (h2 : 0 ≤ h ∧ h < σ.1 8 0 8 → ¬ (0 ≤ r ∧ r ≤ 6) → Q (some (.inl (-2))) σ)
    (h3 : ¬ (0 ≤ h ∧ h < σ.1 8 0 8) → Q (some (.inl (-2))) σ) :
    zM (d + 20) 93 [.inr (.inr (9, 0)), .inl h, .inl r] σ Q := by
  refine zX_run (n' := 2) (ls' := [some (.inr (.inr (9, 0))), some (.inl h), some (.inl r)]) (st' := [.inl h, .inr (.inr (9, 0))]) (σ' := σ) 2 rfl ?_
  refine zX_call rfl rfl ?_
  refine zs_112 o1 (fun a1 => ?_) (fun a2 => ?_)
  · skip
    refine zX_run (n' := 5) (ls' := [some (.inr (.inr (9, 0))), some (.inl h), some (.inl r)]) (st' := [.inl r]) (σ' := σ) 2 rfl ?_
    refine zX_call rfl rfl ?_
    refine zs_105 (fun a3 => ?_) (fun a4 => ?_)
    · skip
      refine zX_run (n' := 12) (ls' := [some (.inr (.inr (9, 0))), some (.inl h), some (.inl r)]) (st' := [.inl r, .inl h, .inr (.inr (9, 0))]) (σ' := σ) 4 rfl ?_
      exact h1 a1 a3
    · skip
      refine zX_run (n' := 8) (ls' := [some (.inr (.inr (9, 0))), some (.inl h), some (.inl r)]) (st' := [.inl (-2)]) (σ' := σ) 2 rfl ?_
      exact zX_ret rfl rfl (h2 a1 a4)
  · skip
    refine zX_run (n' := 8) (ls' := [some (.inr (.inr (9, 0))), some (.inl h), some (.inl r)]) (st' := [.inl (-2)]) (σ' := σ) 2 rfl ?_
    exact zX_ret rfl rfl (h3 a2)
-- X9_sold
theorem zb_93b {d : Nat} {σ : zS} {Q : Option zV → zS → Prop} {h r : Int}
    (h1 : zX (d + 20) 93 14 [some (.inr (.inr (9, 0))), some (.inl h), some (.inl r)] [.inr (.inr (9, 0))] σ Q) :
    zX (d + 20) 93 13 [some (.inr (.inr (9, 0))), some (.inl h), some (.inl r)] [] σ Q := by
  refine zX_run (n' := 14) (ls' := [some (.inr (.inr (9, 0))), some (.inl h), some (.inl r)]) (st' := [.inr (.inr (9, 0))]) (σ' := σ) 1 rfl ?_
  exact h1
theorem zb_93c {d : Nat} {σ : zS} {Q : Option zV → zS → Prop} {h r v : Int}
    (h1 : Q (some (.inl (zBin 3 v (zBin 5 (zBin 6 1 h) (-1))))) σ) :
    zX (d + 20) 93 15 [some (.inr (.inr (9, 0))), some (.inl h), some (.inl r)] [.inl v] σ Q := by
  refine zX_run (n' := 19) (ls' := [some (.inr (.inr (9, 0))), some (.inl h), some (.inl r)]) (st' := [.inl (-1), .inl (zBin 6 1 h), .inl v]) (σ' := σ) 4 rfl ?_
  generalize zBin 6 1 h = a at *
  have e : ∃ m : Int, m = -1 := ⟨_, rfl⟩
  obtain ⟨m, hm⟩ := e
  rw [← hm] at h1 ⊢
  refine zX_run (n' := 20) (ls' := [some (.inr (.inr (9, 0))), some (.inl h), some (.inl r)]) (st' := [.inl (zBin 5 a m), .inl v]) (σ' := σ) 1 rfl ?_
  refine zX_run (n' := 21) (ls' := [some (.inr (.inr (9, 0))), some (.inl h), some (.inl r)]) (st' := [.inl (zBin 3 v (zBin 5 a m))]) (σ' := σ) 1 rfl ?_
  exact zX_ret rfl rfl h1
-- X10_sold
theorem zb_177 {d : Nat} {σ : zS} {Q : Option zV → zS → Prop} {h : Int} {r : Int}
    (h1 : 0 ≤ h ∧ h < σ.1 10 0 4 → 0 ≤ r ∧ r < 7 → zX (d + 10) 177 10 [some (.inr (.inr (10, 0))), some (.inl h), some (.inl r), none] [.inr (.inr (10, 0))] σ Q)
    (h2 : 0 ≤ h ∧ h < σ.1 10 0 4 → ¬ (0 ≤ r ∧ r < 7) → Q (some (.inl (-2))) σ)
    (h3 : ¬ (0 ≤ h ∧ h < σ.1 10 0 4) → Q (some (.inl (-2))) σ) :
    zM (d + 10) 177 [.inr (.inr (10, 0)), .inl h, .inl r] σ Q := by
  refine zX_run (n' := 2) (ls' := [some (.inr (.inr (10, 0))), some (.inl h), some (.inl r), none]) (st' := [.inl h, .inr (.inr (10, 0))]) (σ' := σ) 2 rfl ?_
  refine zX_call rfl rfl ?_
  refine zs_121 (fun a1 => ?_) (fun a2 => ?_)
  · skip
    refine zX_run (n' := 5) (ls' := [some (.inr (.inr (10, 0))), some (.inl h), some (.inl r), none]) (st' := [.inl r]) (σ' := σ) 2 rfl ?_
    refine zX_call rfl rfl ?_
    refine zs_119 (fun a3 => ?_) (fun a4 => ?_)
    · skip
      refine zX_run (n' := 10) (ls' := [some (.inr (.inr (10, 0))), some (.inl h), some (.inl r), none]) (st' := [.inr (.inr (10, 0))]) (σ' := σ) 2 rfl ?_
      exact h1 a1 a3
    · skip
      refine zX_run (n' := 8) (ls' := [some (.inr (.inr (10, 0))), some (.inl h), some (.inl r), none]) (st' := [.inl (-2)]) (σ' := σ) 2 rfl ?_
      exact zX_ret rfl rfl (h2 a1 a4)
  · skip
    refine zX_run (n' := 8) (ls' := [some (.inr (.inr (10, 0))), some (.inl h), some (.inl r), none]) (st' := [.inl (-2)]) (σ' := σ) 2 rfl ?_
    exact zX_ret rfl rfl (h3 a2)
-- X10_sold
theorem zb_177b {d : Nat} {σ : zS} {Q : Option zV → zS → Prop} {h r : Int} {x : Option zV}
    (o1 : (0 : Int) ≤ h ∧ h < (17 : Int))
    (h1 : zX (d + 10) 177 22 [some (.inr (.inr (10, 0))), some (.inl h), some (.inl r), some (.inl (σ.1 62 0 (h.toNat)))] [.inr (.inr (10, 0))] (zU σ 62 0 (h.toNat) r) Q) :
    zX (d + 10) 177 11 [some (.inr (.inr (10, 0))), some (.inl h), some (.inl r), x] [] σ Q := by
  refine zX_run (n' := 14) (ls' := [some (.inr (.inr (10, 0))), some (.inl h), some (.inl r), x]) (st' := [.inl h, .inr (.inr (62, 0))]) (σ' := σ) 3 rfl ?_
  refine zX_ald1 (L := 17) rfl (by decide) rfl o1 ?_
  refine zX_run (n' := 20) (ls' := [some (.inr (.inr (10, 0))), some (.inl h), some (.inl r), some (.inl (σ.1 62 0 (h.toNat)))]) (st' := [.inl r, .inl h, .inr (.inr (62, 0))]) (σ' := σ) 5 rfl ?_
  refine zX_ast1 (L := 17) rfl (by decide) rfl o1 ?_
  refine zX_run (n' := 22) (ls' := [some (.inr (.inr (10, 0))), some (.inl h), some (.inl r), some (.inl (σ.1 62 0 (h.toNat)))]) (st' := [.inr (.inr (10, 0))]) (σ' := (zU σ 62 0 (h.toNat) r)) 1 rfl ?_
  exact h1
-- X10_sold
theorem zb_177c {d : Nat} {σ : zS} {Q : Option zV → zS → Prop} {h r w : Int}
    (o1 : (0 : Int) ≤ h ∧ h < (17 : Int))
    (h1 : zX (d + 10) 177 32 [some (.inr (.inr (10, 0))), some (.inl h), some (.inl r), some (.inl w)] [.inl h, .inl (σ.1 10 0 4), .inr (.inr (10, 0))] (zU σ 62 0 (h.toNat) w) Q) :
    zX (d + 10) 177 23 [some (.inr (.inr (10, 0))), some (.inl h), some (.inl r), some (.inl w)] [] σ Q := by
  refine zX_run (n' := 27) (ls' := [some (.inr (.inr (10, 0))), some (.inl h), some (.inl r), some (.inl w)]) (st' := [.inl w, .inl h, .inr (.inr (62, 0))]) (σ' := σ) 4 rfl ?_
  refine zX_ast1 (L := 17) rfl (by decide) rfl o1 ?_
  refine zX_run (n' := 32) (ls' := [some (.inr (.inr (10, 0))), some (.inl h), some (.inl r), some (.inl w)]) (st' := [.inl h, .inl (σ.1 10 0 4), .inr (.inr (10, 0))]) (σ' := (zU σ 62 0 (h.toNat) w)) 4 rfl ?_
  exact h1
-- X10_sold
theorem zb_177d {d : Nat} {σ : zS} {Q : Option zV → zS → Prop} {h r w v : Int}
    (h1 : Q (some (.inl v)) σ) :
    zX (d + 10) 177 33 [some (.inr (.inr (10, 0))), some (.inl h), some (.inl r), some (.inl w)] [.inl v] σ Q := by
  exact zX_ret rfl rfl h1
theorem zG_Un {s : zS} {G : Nat → Nat → Nat → Int} {k n j : Nat} {a : Int} (h : ¬ fk k = true) : zG (zU s k n j a) G = zU (zG s G) k n j a := by
  refine Prod.ext (funext fun x => funext fun m => funext fun i => ?_) rfl
  show (if fk x = true then G x else (zU s k n j a).1 x) m i = if x = k ∧ i = j ∧ m = n then a else (if fk x = true then G x else s.1 x) m i
  by_cases e : fk x = true
  · rw [if_pos e, if_pos e, if_neg (c := x = k ∧ i = j ∧ m = n) (fun p => h (p.1 ▸ e))]
  · rw [if_neg e, if_neg e]; rfl
theorem cOth_U {s : zS} {G : Nat → Nat → Nat → Int} {f n j : Nat} {a : Int} (O : cOth (zU s 1 n j a) G f) : cOth s G f :=
  ⟨O.1, fun k h1 h2 x y h => (O.2.1 k h1 h2 x y h).trans (if_neg (fun p => by omega)), fun k h1 h2 x y h => (O.2.2 k h1 h2 x y h).trans (if_neg (fun p => by omega))⟩
theorem uBits_cg {p p' : Nat → Bool} : ∀ {n : Nat}, (∀ k, k < n → p k = p' k) → uBits p n = uBits p' n
  | 0, _ => rfl
  | n + 1, h => by unfold uBits; rw [h n (by omega), uBits_cg (n := n) (fun k hk => h k (by omega))]
/-- one hold at another reach, on both sides -/
theorem yTd_s {s : zS} (R : yRel s) {h r : Nat} (hr : r < 7) : cTd (zU s 1 (16 * 0 + h) 2 (r : Int)) (mD (zU s 62 0 h (r : Int))) (-1) (-1) ∧ mOk (zU s 62 0 h (r : Int)) := by
  obtain ⟨S, G, L, H, C, Tx, Ru, K, Tp, Sh, B⟩ := R
  have Ru1 := rRul_1 H Tx Ru
  obtain ⟨H1, H2, H3⟩ := H
  have eq : ∀ x : Nat, (zU (zU s 1 (16 * 0 + h) 2 (r : Int)) 62 0 h (r : Int)).1 62 0 x = if x = h then (r : Int) else s.1 62 0 x := fun x => by
    show (if 62 = 62 ∧ x = h ∧ 0 = 0 then (r : Int) else s.1 62 0 x) = _
    by_cases e : x = h
    · rw [if_pos e, if_pos ⟨rfl, e, rfl⟩]
    · rw [if_neg e, if_neg (fun k => e k.2.1)]
  have eq2 : ∀ x : Nat, cH (zU (zU s 1 (16 * 0 + h) 2 (r : Int)) 62 0 h (r : Int)) x 2 = if x = h then (r : Int) else cH s x 2 := fun x => by
    show (if 1 = 1 ∧ 2 = 2 ∧ 16 * 0 + x = 16 * 0 + h then (r : Int) else s.1 1 (16 * 0 + x) 2) = _
    by_cases e : x = h
    · rw [if_pos e, if_pos ⟨rfl, rfl, by omega⟩]
    · rw [if_neg e, if_neg (fun k => e (by omega))]; rfl
  have H' : rHol (zU (zU s 1 (16 * 0 + h) 2 (r : Int)) 62 0 h (r : Int)) := by
    refine ⟨H1, fun x hx => ?_, fun x hx => ?_⟩
    · obtain ⟨a0, a1, a2, a3, a4, a5, a6⟩ := H2 x hx
      refine ⟨a0, a1, ?_, a3, a4, a5, a6⟩
      rw [eq, eq2, a2]
    · obtain ⟨b1, b2, b3, b4, b5⟩ := H3 x hx
      refine ⟨b1, b2, ?_, b4, b5⟩
      rw [eq]
      by_cases e : x = h
      · rw [if_pos e]; omega
      · rw [if_neg e]; exact b3
  have T := rTd (σ := zU (zU s 1 (16 * 0 + h) 2 (r : Int)) 62 0 h (r : Int)) (v := -1) S G L H' C Ru1 K.2
  rw [show (zU (zU s 1 (16 * 0 + h) 2 (r : Int)) 62 0 h (r : Int)).1 10 0 54 = -1 from K.1] at T
  exact ⟨T, rMok (σ := zU (zU s 1 (16 * 0 + h) 2 (r : Int)) 62 0 h (r : Int)) (v := -1) S G L H' C Ru1 (by rw [show (zU (zU s 1 (16 * 0 + h) 2 (r : Int)) 62 0 h (r : Int)).1 10 0 66 = 0 from K.2]; decide)⟩
theorem zs_115 {d : Nat} {σ : zS} {Q : Option zV → zS → Prop} (R : yRel σ) {h r : Nat} (hh : h < uN (mD σ)) (hr : r < 7)
    (q : ∀ s, yE σ s → yRel s → s.1 8 0 8 = σ.1 8 0 8 → (∀ x, x < uN (mD σ) → uSw (s.1 18 (16 * 0 + x)) 0 96 = vTot (mD σ) x) → (∀ x, x < uN (mD σ) → uSw (s.1 18 (16 * 1 + x)) 0 96 = vTot (mD (zU σ 62 0 h (r : Int))) x) → Q none s) :
    zM (d + 15) 115 [.inr (.inr (9, 0)), .inl (h : Int), .inl (r : Int)] σ Q := by
  have h16 := (yOk R).2.2.2.2.1
  have ih : (0 : Int) ≤ (h : Int) ∧ (h : Int) < 16 := by omega
  refine zb_115 (by decide) R (fun _ _ _ _ => ih) (fun G1 W1 R1 O1 => ?_)
  obtain ⟨T, K⟩ := yTd_s R1 (h := h) hr
  have OK' : uOk (mD (zU (zG σ G1) 62 0 h (r : Int))) := K.1
  refine zX_call rfl rfl ?_
  refine ys_0 (d := d + 2) OK' T (fun G2 F2 O2 => ?_)
  refine zb_115b (d := d) ?_
  refine zX_call rfl rfl ?_
  refine ys_2t (d := d) OK' (by decide) (Nat.le_refl 0) F2 (fun G3 W3 O3 => ?_)
  refine zb_115c (d := d) ?_
  have e : zU (zG (zG (zU (zG σ G1) 1 (16 * 0 + h) 2 (r : Int)) G2) G3) 1 (16 * 0 + h) 2 ((zG σ G1).1 1 (16 * 0 + h) 2) = zG (zG (zG σ G1) G2) G3 := by
    rw [zG_Un (by decide), zG_Un (by decide), zU_U]
    exact zU_self rfl
  have O2' : cOth (zG σ G1) G2 1 := cOth_U O2
  have O3' : cOth (zG (zG σ G1) G2) G3 1 := by rw [zG_Un (by decide)] at O3; exact cOth_U O3
  have R3 := yr_oth (yr_oth R1 O2') O3'
  have W4 := cWk_oth h16 O3' (cWk_oth h16 O2' W1)
  show Q none (zU (zG (zG (zU (zG σ G1) 1 (16 * 0 + h) 2 (r : Int)) G2) G3) 1 (16 * 0 + h) 2 ((zG σ G1).1 1 (16 * 0 + h) 2))
  rw [e]
  refine q _ (yE_t yE_G (yE_t yE_G yE_G)) R3 rfl (fun x hx => cw_tot W4 hx) (fun x hx => ?_)
  have y := cw_tot (h := x) W3 hx
  exact y
def vSold (σ : zS) (h r : Int) : Int := if (0 ≤ h ∧ h < mD σ 19 0) ∧ 0 ≤ r ∧ r ≤ 6 then ((uBits (fun x => decide (¬ (x : Int) = h ∧ vTot (mD (zU σ 62 0 h.toNat r)) x < vTot (mD σ) x)) (uN (mD σ)) : Nat) : Int) else -2
theorem yc_93 {d : Nat} (h r : Int) : yC (d + 60) 93 [.inl h, .inl r] (fun s => .inl (vSold s h r)) := fun σ Q R q => by
  have q : ∀ s, yE σ s → yRel s → Q (some (.inl (vSold σ h r))) s := q
  obtain ⟨n8, n0, n16⟩ := yN8 R
  have oH : 0 ≤ σ.1 8 0 8 ∧ σ.1 8 0 8 ≤ 1000 := by clear q; omega
  by_cases P : (0 ≤ h ∧ h < mD σ 19 0) ∧ 0 ≤ r ∧ r ≤ 6
  case neg =>
    have q := q _ yE_r R
    rw [show vSold σ h r = -2 from if_neg P] at q
    have nb : ¬ ((0 ≤ h ∧ h < σ.1 8 0 8) ∧ 0 ≤ r ∧ r ≤ 6) := by rw [n8]; exact P
    exact zb_93 (d := d + 40) oH (fun a b => absurd ⟨a, b⟩ nb) (fun _ _ => q) (fun _ => q)
  obtain ⟨h, rfl⟩ := Int.eq_ofNat_of_zero_le P.1.1
  obtain ⟨r, rfl⟩ := Int.eq_ofNat_of_zero_le P.2.1
  have hn : (h : Int) < σ.1 10 0 4 := P.1.2
  have hu : h < uN (mD σ) := (yuN R).mpr hn
  have r7 : r < 7 := by clear q; omega
  have N16 := (yOk R).2.2.2.2.1
  have h16 : h < 16 := Nat.lt_of_lt_of_le hu N16
  have P' : (0 ≤ (h : Int) ∧ (h : Int) < σ.1 8 0 8) ∧ 0 ≤ (r : Int) ∧ (r : Int) ≤ 6 := by rw [n8]; exact P
  have n4 : σ.1 8 0 8 = (uN (mD σ) : Int) := by
    rw [n8]
    show mD σ 19 0 = _
    unfold uN
    have : 0 ≤ mD σ 19 0 := n0
    clear q
    omega
  refine zb_93 (d := d + 40) oH (fun _ _ => ?_) (fun _ b => absurd P'.2 b) (fun b => absurd P'.1 b)
  refine zX_call rfl rfl ?_
  refine zs_115 (d := d + 44) R hu r7 (fun s E R2 s8 x0 x1 => ?_)
  refine zb_93b (d := d + 40) ?_
  refine zX_call rfl rfl ?_
  refine zs_116 (d := d + 45) (s8.trans n4) N16 x0 x1 ?_
  refine zb_93c (d := d + 40) ?_
  rw [zBout N16 h16]
  refine yA ?_ (q _ E R2)
  unfold vSold
  rw [if_pos P]
  refine congrArg (fun x : Nat => (x : Int)) (uBits_cg (fun x _ => ?_))
  rw [Int.toNat_natCast]
  by_cases e : x = h
  · subst e
    have b1 : (x == x) = true := beq_self_eq_true x
    rw [b1]
    simp
  · have b1 : (x == h) = false := by simp [e]
    rw [b1]
    have e2 : ¬ (x : Int) = (h : Int) := fun k => e (Int.ofNat.inj k)
    simp [e2]
theorem ym_177 {d : Nat} (h r : Int) : yM (d + 60) 177 [.inl h, .inl r] (fun s => .inl (vSold s h r)) := fun σ Q R q => by
  have q : ∀ s, yRel s → Q (some (.inl (vSold σ h r))) s := q
  obtain ⟨n8, n0, n16⟩ := yN8 R
  by_cases P : (0 ≤ h ∧ h < mD σ 19 0) ∧ 0 ≤ r ∧ r ≤ 6
  case neg =>
    have q := q _ R
    rw [show vSold σ h r = -2 from if_neg P] at q
    have nb : ¬ ((0 ≤ h ∧ h < σ.1 10 0 4) ∧ 0 ≤ r ∧ r ≤ 6) := P
    exact zb_177 (d := d + 50) (fun a b => absurd (show _ from ⟨a, by clear q; omega⟩) nb) (fun _ _ => q) (fun _ => q)
  obtain ⟨h, rfl⟩ := Int.eq_ofNat_of_zero_le P.1.1
  obtain ⟨r, rfl⟩ := Int.eq_ofNat_of_zero_le P.2.1
  have hn : (h : Int) < σ.1 10 0 4 := P.1.2
  have hu : h < uN (mD σ) := (yuN R).mpr hn
  have r7 : r < 7 := by clear q; omega
  have r7' : 0 ≤ (r : Int) ∧ (r : Int) < 7 := by clear q; omega
  have N16 := (yOk R).2.2.2.2.1
  have h16 : h < 16 := Nat.lt_of_lt_of_le hu N16
  have ih : (0 : Int) ≤ (h : Int) ∧ (h : Int) < 17 := by clear q; omega
  have P' : 0 ≤ (h : Int) ∧ (h : Int) < σ.1 10 0 4 := P.1
  have n4 : σ.1 10 0 4 = (uN (mD σ) : Int) := by
    show mD σ 19 0 = _
    unfold uN
    have : 0 ≤ mD σ 19 0 := n0
    clear q
    omega
  refine zb_177 (d := d + 50) (fun _ _ => ?_) (fun _ b => absurd r7' b) (fun b => absurd P' b)
  refine zX_call rfl rfl ?_
  refine zs_174 (d := d + 52) R (fun τ M R1 => ?_)
  refine zb_177b (d := d + 50) ih ?_
  obtain ⟨T, K⟩ := yTd_s R1 (h := h) r7
  have K' : mOk (zU (zFL (yR σ τ) 101 (uN (mD σ)) (vTot (mD σ))) 62 0 h (r : Int)) := K
  refine zX_call rfl rfl ?_
  refine zs_158 (d := d + 53) K' (fun τ2 M2 => ?_)
  refine zb_177c (d := d + 50) ih ?_
  have e2 : zU (yR (zU (zFL (yR σ τ) 101 (uN (mD σ)) (vTot (mD σ))) 62 0 h (r : Int)) τ2) 62 0 h (σ.1 62 0 h) = yR (zFL (yR σ τ) 101 (uN (mD σ)) (vTot (mD σ))) τ2 := by
    rw [yR_Un (by decide), zU_U]
    exact zU_self rfl
  show zX (d + 50 + 10) 177 32 [some (.inr (.inr (10, 0))), some (.inl (h : Int)), some (.inl (r : Int)), some (.inl (σ.1 62 0 h))] [.inl (h : Int), .inl (σ.1 10 0 4), .inr (.inr (10, 0))] (zU (yR (zU (zFL (yR σ τ) 101 (uN (mD σ)) (vTot (mD σ))) 62 0 h (r : Int)) τ2) 62 0 h (σ.1 62 0 h)) Q
  rw [e2, n4]
  refine zX_call rfl rfl ?_
  refine zs_175 (d := d + 58) (g0 := vTot (mD σ)) (g1 := vTot (mD (zU σ 62 0 h (r : Int)))) N16 (fun x hx => ?_) (fun x hx => ?_) ?_
  · exact if_pos ⟨rfl, rfl, hx⟩
  · exact mr_tot M2 hx
  · refine zb_177d (d := d + 50) ?_
    exact yA (by unfold vSold; rw [if_pos P]; rfl) (q _ R1)
theorem yp_sold {d : Nat} {σ : zS} (R : yRel σ) (h r : Int) : yPi d 93 177 [.inl h, .inl r] σ :=
  yp_of (f := fun s => vSold s h r) (yc_93 h r) (ym_177 h r) (fun σ s e => by
    show vSold s h r = vSold σ h r
    have eL : mD (zU s 62 0 h.toNat r) = mD (zU σ 62 0 h.toNat r) := yE_mD (fun k hk => by
      show (fun n j => if k = 62 ∧ j = h.toNat ∧ n = 0 then r else s.1 k n j) = fun n j => if k = 62 ∧ j = h.toNat ∧ n = 0 then r else σ.1 k n j
      rw [e.2 k hk])
    unfold vSold
    rw [e.1, eL]) R
