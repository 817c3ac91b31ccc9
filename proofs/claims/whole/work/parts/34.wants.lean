-- what the holds want, in the class (wip/whole/gen/laws9.py)
/-- the text of a hold, for a flow -/
def cTx (s : zS) (f h : Nat) : Nat := if s.1 0 f 8 = -1 then (s.1 43 0 (s.1 1 (16 * 0 + h) 1).toNat).toNat else (s.1 0 f 8).toNat
def cTxr (s : zS) (f h : Nat) : Prop := (s.1 0 f 8 = -1 → (0 ≤ s.1 1 (16 * 0 + h) 1 ∧ s.1 1 (16 * 0 + h) 1 < 4) ∧ 0 ≤ s.1 43 0 (s.1 1 (16 * 0 + h) 1).toNat ∧ s.1 43 0 (s.1 1 (16 * 0 + h) 1).toNat < 6) ∧ (¬ s.1 0 f 8 = -1 → 0 ≤ s.1 0 f 8 ∧ s.1 0 f 8 < 6)
theorem zs_9 {d : Nat} {σ : zS} {Q : Option zV → zS → Prop} {f : Nat} {h : Int} (o1 : 0 ≤ h ∧ h < 16) (o2 : cTxr σ f h.toNat)
    (hq : Q (some (.inr (.inr (7, 6 * 0 + cTx σ f h.toNat)))) σ) : zM d 9 [.inr (.inr (0, f)), .inl h] σ Q := by
  refine zm_9 (fun _ => o1) (fun q => (o2.1 q).1) (fun q => (o2.1 q).2) (fun q => o2.2 q) (fun q => ?_) (fun q => ?_)
  · rw [show cTx σ f h.toNat = (σ.1 43 0 (σ.1 1 (16 * 0 + h.toNat) 1).toNat).toNat from if_pos q] at hq; exact hq
  · rw [show cTx σ f h.toNat = (σ.1 0 f 8).toNat from if_neg q] at hq; exact hq
/-- what the class is told, as far as wants go -/
def cDh (s : zS) (f : Nat) (D : uT) : Prop := (∀ r m, r < 7 → m < 96 → cRead s r m = D 1 (96 * r + m)) ∧
  (∀ h, h < uN D → cTxr s f h ∧ cTok s (6 * 0 + cTx s f h) ∧ cPart s (6 * 0 + cTx s f h) 0 = uPart D h 0 ∧ cPart s (6 * 0 + cTx s f h) 1 = uPart D h 1 ∧ (s.1 7 (6 * 0 + cTx s f h) 3 = 0 → (∀ c, c ∈ uPart D h 0 → ¬ c = 3) ∧ (∀ c, c ∈ uPart D h 1 → ¬ c = 3))) ∧
  (s.1 0 f 9 = D 19 1 ∧ 0 ≤ D 19 1 ∧ D 19 1 < 65536) ∧
  ((0 ≤ s.1 8 0 11 ∧ s.1 8 0 11 ≤ 16) ∧ ∀ c : Nat, (c : Int) < s.1 8 0 11 → 0 ≤ s.1 40 0 c ∧ s.1 40 0 c < 16) ∧
  (∀ h m : Nat, h < uN D → m < 96 → ((cShut s (m : Int) (s.1 0 f 7)).testBit h = true ↔ ¬ D 15 (96 * h + m) = 0))
theorem cEv_eq {s : zS} {f h m : Nat} {D : uT} {l : Int} (O : uOk D) (T : ∀ h j, h < uN D → j < 7 → cH s h j = D (8 + j) h) (H : cDh s f D) (hh : h < uN D) (hm : m < 96) :
    cEv s (6 * 0 + cTx s f h) h m l 0 = uSays D h m l 0 ∧ cEv s (6 * 0 + cTx s f h) h m l 1 = uSays D h m l 1 := by
  obtain ⟨H1, H2, H3, H4, H5⟩ := H
  obtain ⟨-, t2, t3, t4, -⟩ := H2 h hh
  have rb := (O.2.2.2.2.2 h hh).2.2.1
  have nmv : ∀ c : Int, 0 ≤ c → c < 6 → cNmv s h m l c.toNat = uNm D h m l c := by
    intro c h0 h6
    unfold uNm
    rcases (show c = 0 ∨ c = 1 ∨ c = 2 ∨ c = 3 ∨ c = 4 ∨ c = 5 by omega) with rfl | rfl | rfl | rfl | rfl | rfl
    · rfl
    · rfl
    · show uRank (cH s h 0) (cH s h 4) = _
      rw [T h 0 hh (by decide), T h 4 hh (by decide)]; rfl
    · rfl
    · show cRead s (cH s h 2).toNat m = _
      rw [T h 2 hh (by decide), H1 _ _ (by show (D 10 h).toNat < 7; omega) hm]; rfl
    · show cH s h 1 = _
      rw [T h 1 hh (by decide)]; rfl
  constructor
  · unfold cEv uSays
    rw [← t3, uEv_congr (nm' := uNm D h m l) (fun c hc h6 => nmv c (cPart_mem t2 hc h6) h6)]
  · unfold cEv uSays
    rw [← t4, uEv_congr (nm' := uNm D h m l) (fun c hc h6 => nmv c (cPart_mem t2 hc h6) h6)]
theorem cWb_eq {s : zS} {f h m : Nat} {D : uT} {l : Int} (O : uOk D) (T : ∀ h j, h < uN D → j < 7 → cH s h j = D (8 + j) h) (H : cDh s f D) (hh : h < uN D) (hm : m < 96) :
    cWb s (6 * 0 + cTx s f h) h m l = uWb D h m l := by
  have E := cEv_eq (l := l) O T H hh hm
  have rb := (O.2.2.2.2.2 h hh).2.2.1
  unfold cWb uWb
  rw [E.1, E.2]
  have : cAsks s h m = uAsks D h m := by
    unfold cAsks uAsks
    rw [T h 0 hh (by decide), T h 3 hh (by decide), T h 2 hh (by decide), H.1 _ _ (by show (D 10 h).toNat < 7; omega) hm]
  rw [this]
theorem uWb_lev {D : uT} {h m : Nat} {l l2 : Int} (n0 : ∀ c, c ∈ uPart D h 0 → ¬ c = 3) (n1 : ∀ c, c ∈ uPart D h 1 → ¬ c = 3) : uWb D h m l = uWb D h m l2 := by
  have e : ∀ p, (∀ c, c ∈ uPart D h p → ¬ c = 3) → uSays D h m l p = uSays D h m l2 p := by
    intro p hp
    unfold uSays
    rw [uEv_congr (nm' := uNm D h m l2) (fun c hc _ => by unfold uNm; rw [if_neg (hp c hc), if_neg (hp c hc)])]
  unfold uWb
  rw [e 0 n0, e 1 n1]
/-- what is made ready for a month -/
def cRdv (s : zS) (f : Nat) (D : uT) (h m : Nat) : Int := if D 13 h ≤ (m : Int) ∧ (m : Int) < D 14 h ∧ D 15 (96 * h + m) = 0 then (if s.1 7 (6 * 0 + cTx s f h) 3 = 0 then uWb D h m 0 else -1) else 0
def cRm (s : zS) (f : Nat) (D : uT) (m : Nat) : Prop := s.1 13 f m = (cShut s (m : Int) (s.1 0 f 7) : Int) ∧ ∀ h, h < uN D → s.1 16 (16 * f + h) m = cRdv s f D h m
theorem uLvs_congr {th th' lv lv' : Nat → Int} : ∀ {n : Nat}, (∀ r, r < n → th r = th' r ∧ (¬ th' r = 0 → lv r = lv' r)) → uLvs th lv n = uLvs th' lv' n
  | 0, _ => rfl
  | n + 1, h => by
    unfold uLvs
    have a := h n (by omega)
    rw [uLvs_congr (fun r hr => h r (by omega)), a.1]
    by_cases e : th' n = 0
    · rw [if_pos e, if_pos e]
    · rw [if_neg e, if_neg e, a.2 e]
-- X0_settleWants
theorem zb_10d {d : Nat} {σ : zS} {Q : Option zV → zS → Prop} {f : Nat} {m l h : Int} {x : Option zV}
    (q1 : 0 ≤ h ∧ h < σ.1 8 0 8 ∧ σ.1 8 0 8 ≤ 16)
    (q2 : zBin 3 (zBin 7 (σ.1 0 f 9) h) 1 = 1)
    (o1 : (0 : Int) ≤ h ∧ h < (16 : Int))
    (o2 : (0 : Int) ≤ m ∧ m < (96 : Int))
    (h1 : zX (d + 12) 10 6 [some (.inr (.inr (0, f))), some (.inl m), some (.inl l), some (.inl (zW (h + 1))), some (.inl 0)] [] (zU σ 17 (16 * f + h.toNat) (m.toNat) 0) Q) :
    zX (d + 12) 10 6 [some (.inr (.inr (0, f))), some (.inl m), some (.inl l), some (.inl h), x] [] σ Q := by
  refine zX_run (n' := 10) (ls' := [some (.inr (.inr (0, f))), some (.inl m), some (.inl l), some (.inl h), x]) (st' := [.inl (σ.1 8 0 8), .inl h]) (σ' := σ) 4 rfl ?_
  refine zX_c3 rfl (fun a1 => absurd a1 (by omega)) (fun _ => ?_)
  refine zX_run (n' := 14) (ls' := [some (.inr (.inr (0, f))), some (.inl m), some (.inl l), some (.inl h), x]) (st' := [.inl h, .inr (.inr (12, f))]) (σ' := σ) 3 rfl ?_
  refine zX_ald5 (L := 16) rfl (by decide) rfl o1 ?_
  refine zX_run (n' := 17) (ls' := [some (.inr (.inr (0, f))), some (.inl m), some (.inl l), some (.inl h), x]) (st' := [.inl m, .inr (.inr (16, 16 * f + h.toNat))]) (σ' := σ) 2 rfl ?_
  refine zX_ald1 (L := 96) rfl (by decide) rfl o2 ?_
  refine zX_run (n' := 26) (ls' := [some (.inr (.inr (0, f))), some (.inl m), some (.inl l), some (.inl h), some (.inl (σ.1 16 (16 * f + h.toNat) (m.toNat)))]) (st' := [.inl 1, .inl (zBin 3 (zBin 7 (σ.1 0 f 9) h) 1)]) (σ' := σ) 8 rfl ?_
  refine zX_c1 rfl (fun a2 => absurd a2 (by omega)) (fun _ => ?_)
  refine zX_run (n' := 46) (ls' := [some (.inr (.inr (0, f))), some (.inl m), some (.inl l), some (.inl h), some (.inl 0)]) (st' := [.inl h, .inr (.inr (12, f))]) (σ' := σ) 6 rfl ?_
  refine zX_ald5 (L := 16) rfl (by decide) rfl o1 ?_
  refine zX_run (n' := 50) (ls' := [some (.inr (.inr (0, f))), some (.inl m), some (.inl l), some (.inl h), some (.inl 0)]) (st' := [.inl 0, .inl m, .inr (.inr (17, 16 * f + h.toNat))]) (σ' := σ) 3 rfl ?_
  refine zX_ast1 (L := 96) rfl (by decide) rfl o2 ?_
  refine zX_run (n' := 6) (ls' := [some (.inr (.inr (0, f))), some (.inl m), some (.inl l), some (.inl (zW (h + 1))), some (.inl 0)]) (st' := []) (σ' := (zU σ 17 (16 * f + h.toNat) (m.toNat) 0)) 2 rfl ?_
  exact h1
-- X0_settleWants
theorem zb_10l {d : Nat} {σ : zS} {Q : Option zV → zS → Prop} {f : Nat} {m l h : Int} {x : Option zV}
    (q1 : 0 ≤ h ∧ h < σ.1 8 0 8 ∧ σ.1 8 0 8 ≤ 16)
    (q2 : ¬ zBin 3 (zBin 7 (σ.1 0 f 9) h) 1 = 1)
    (q3 : σ.1 16 (16 * f + h.toNat) (m.toNat) = (-1))
    (o1 : (0 : Int) ≤ h ∧ h < (16 : Int))
    (o2 : (0 : Int) ≤ m ∧ m < (96 : Int))
    (o3 : 0 ≤ h ∧ h < 16)
    (o4 : cTxr σ f h.toNat)
    (o5 : 0 ≤ m ∧ m < 96)
    (o6 : 0 ≤ cH σ h.toNat 2 ∧ cH σ h.toNat 2 < 7)
    (o7 : cTok σ (6 * 0 + cTx σ f h.toNat))
    (h1 : ∀ G1 : Nat → Nat → Nat → Int, zX (d + 12) 10 6 [some (.inr (.inr (0, f))), some (.inl m), some (.inl l), some (.inl (zW (h + 1))), some (.inl (cWb σ (6 * 0 + cTx σ f h.toNat) h.toNat m.toNat l))] [] (zU (zN σ G1) 17 (16 * f + h.toNat) (m.toNat) (cWb σ (6 * 0 + cTx σ f h.toNat) h.toNat m.toNat l)) Q) :
    zX (d + 12) 10 6 [some (.inr (.inr (0, f))), some (.inl m), some (.inl l), some (.inl h), x] [] σ Q := by
  refine zX_run (n' := 10) (ls' := [some (.inr (.inr (0, f))), some (.inl m), some (.inl l), some (.inl h), x]) (st' := [.inl (σ.1 8 0 8), .inl h]) (σ' := σ) 4 rfl ?_
  refine zX_c3 rfl (fun a1 => absurd a1 (by omega)) (fun _ => ?_)
  refine zX_run (n' := 14) (ls' := [some (.inr (.inr (0, f))), some (.inl m), some (.inl l), some (.inl h), x]) (st' := [.inl h, .inr (.inr (12, f))]) (σ' := σ) 3 rfl ?_
  refine zX_ald5 (L := 16) rfl (by decide) rfl o1 ?_
  refine zX_run (n' := 17) (ls' := [some (.inr (.inr (0, f))), some (.inl m), some (.inl l), some (.inl h), x]) (st' := [.inl m, .inr (.inr (16, 16 * f + h.toNat))]) (σ' := σ) 2 rfl ?_
  refine zX_ald1 (L := 96) rfl (by decide) rfl o2 ?_
  refine zX_run (n' := 26) (ls' := [some (.inr (.inr (0, f))), some (.inl m), some (.inl l), some (.inl h), some (.inl (σ.1 16 (16 * f + h.toNat) (m.toNat)))]) (st' := [.inl 1, .inl (zBin 3 (zBin 7 (σ.1 0 f 9) h) 1)]) (σ' := σ) 8 rfl ?_
  refine zX_c1 rfl (fun _ => ?_) (fun a2 => absurd a2 (by omega))
  refine zX_run (n' := 32) (ls' := [some (.inr (.inr (0, f))), some (.inl m), some (.inl l), some (.inl h), some (.inl (σ.1 16 (16 * f + h.toNat) (m.toNat)))]) (st' := [.inl (-1), .inl (σ.1 16 (16 * f + h.toNat) (m.toNat))]) (σ' := σ) 2 rfl ?_
  refine zX_c1 rfl (fun a3 => absurd a3 (by omega)) (fun _ => ?_)
  refine zX_run (n' := 37) (ls' := [some (.inr (.inr (0, f))), some (.inl m), some (.inl l), some (.inl h), some (.inl (σ.1 16 (16 * f + h.toNat) (m.toNat)))]) (st' := [.inl h, .inr (.inr (0, f)), .inr (.inr (8, 0))]) (σ' := σ) 4 rfl ?_
  refine zX_call rfl rfl ?_
  refine zs_9 o3 o4 ?_
  · skip
    refine zX_run (n' := 41) (ls' := [some (.inr (.inr (0, f))), some (.inl m), some (.inl l), some (.inl h), some (.inl (σ.1 16 (16 * f + h.toNat) (m.toNat)))]) (st' := [.inl l, .inl m, .inl h, .inr (.inr (7, 6 * 0 + cTx σ f h.toNat)), .inr (.inr (8, 0))]) (σ' := σ) 3 rfl ?_
    refine zX_call rfl rfl ?_
    refine zs_67 o3 o5 o6 o7 (fun G1 => ?_)
    · skip
      refine zX_run (n' := 46) (ls' := [some (.inr (.inr (0, f))), some (.inl m), some (.inl l), some (.inl h), some (.inl (cWb σ (6 * 0 + cTx σ f h.toNat) h.toNat m.toNat l))]) (st' := [.inl h, .inr (.inr (12, f))]) (σ' := (zN σ G1)) 4 rfl ?_
      refine zX_ald5 (L := 16) rfl (by decide) rfl o1 ?_
      refine zX_run (n' := 50) (ls' := [some (.inr (.inr (0, f))), some (.inl m), some (.inl l), some (.inl h), some (.inl (cWb σ (6 * 0 + cTx σ f h.toNat) h.toNat m.toNat l))]) (st' := [.inl (cWb σ (6 * 0 + cTx σ f h.toNat) h.toNat m.toNat l), .inl m, .inr (.inr (17, 16 * f + h.toNat))]) (σ' := (zN σ G1)) 3 rfl ?_
      refine zX_ast1 (L := 96) rfl (by decide) rfl o2 ?_
      refine zX_run (n' := 6) (ls' := [some (.inr (.inr (0, f))), some (.inl m), some (.inl l), some (.inl (zW (h + 1))), some (.inl (cWb σ (6 * 0 + cTx σ f h.toNat) h.toNat m.toNat l))]) (st' := []) (σ' := (zU (zN σ G1) 17 (16 * f + h.toNat) (m.toNat) (cWb σ (6 * 0 + cTx σ f h.toNat) h.toNat m.toNat l))) 2 rfl ?_
      exact h1 G1
-- X0_settleWants
theorem zb_10p {d : Nat} {σ : zS} {Q : Option zV → zS → Prop} {f : Nat} {m l h : Int} {x : Option zV}
    (q1 : 0 ≤ h ∧ h < σ.1 8 0 8 ∧ σ.1 8 0 8 ≤ 16)
    (q2 : ¬ zBin 3 (zBin 7 (σ.1 0 f 9) h) 1 = 1)
    (q3 : ¬ σ.1 16 (16 * f + h.toNat) (m.toNat) = (-1))
    (o1 : (0 : Int) ≤ h ∧ h < (16 : Int))
    (o2 : (0 : Int) ≤ m ∧ m < (96 : Int))
    (h1 : zX (d + 12) 10 6 [some (.inr (.inr (0, f))), some (.inl m), some (.inl l), some (.inl (zW (h + 1))), some (.inl (σ.1 16 (16 * f + h.toNat) (m.toNat)))] [] (zU σ 17 (16 * f + h.toNat) (m.toNat) (σ.1 16 (16 * f + h.toNat) (m.toNat))) Q) :
    zX (d + 12) 10 6 [some (.inr (.inr (0, f))), some (.inl m), some (.inl l), some (.inl h), x] [] σ Q := by
  refine zX_run (n' := 10) (ls' := [some (.inr (.inr (0, f))), some (.inl m), some (.inl l), some (.inl h), x]) (st' := [.inl (σ.1 8 0 8), .inl h]) (σ' := σ) 4 rfl ?_
  refine zX_c3 rfl (fun a1 => absurd a1 (by omega)) (fun _ => ?_)
  refine zX_run (n' := 14) (ls' := [some (.inr (.inr (0, f))), some (.inl m), some (.inl l), some (.inl h), x]) (st' := [.inl h, .inr (.inr (12, f))]) (σ' := σ) 3 rfl ?_
  refine zX_ald5 (L := 16) rfl (by decide) rfl o1 ?_
  refine zX_run (n' := 17) (ls' := [some (.inr (.inr (0, f))), some (.inl m), some (.inl l), some (.inl h), x]) (st' := [.inl m, .inr (.inr (16, 16 * f + h.toNat))]) (σ' := σ) 2 rfl ?_
  refine zX_ald1 (L := 96) rfl (by decide) rfl o2 ?_
  refine zX_run (n' := 26) (ls' := [some (.inr (.inr (0, f))), some (.inl m), some (.inl l), some (.inl h), some (.inl (σ.1 16 (16 * f + h.toNat) (m.toNat)))]) (st' := [.inl 1, .inl (zBin 3 (zBin 7 (σ.1 0 f 9) h) 1)]) (σ' := σ) 8 rfl ?_
  refine zX_c1 rfl (fun _ => ?_) (fun a2 => absurd a2 (by omega))
  refine zX_run (n' := 32) (ls' := [some (.inr (.inr (0, f))), some (.inl m), some (.inl l), some (.inl h), some (.inl (σ.1 16 (16 * f + h.toNat) (m.toNat)))]) (st' := [.inl (-1), .inl (σ.1 16 (16 * f + h.toNat) (m.toNat))]) (σ' := σ) 2 rfl ?_
  refine zX_c1 rfl (fun _ => ?_) (fun a3 => absurd a3 (by omega))
  refine zX_run (n' := 46) (ls' := [some (.inr (.inr (0, f))), some (.inl m), some (.inl l), some (.inl h), some (.inl (σ.1 16 (16 * f + h.toNat) (m.toNat)))]) (st' := [.inl h, .inr (.inr (12, f))]) (σ' := σ) 3 rfl ?_
  refine zX_ald5 (L := 16) rfl (by decide) rfl o1 ?_
  refine zX_run (n' := 50) (ls' := [some (.inr (.inr (0, f))), some (.inl m), some (.inl l), some (.inl h), some (.inl (σ.1 16 (16 * f + h.toNat) (m.toNat)))]) (st' := [.inl (σ.1 16 (16 * f + h.toNat) (m.toNat)), .inl m, .inr (.inr (17, 16 * f + h.toNat))]) (σ' := σ) 3 rfl ?_
  refine zX_ast1 (L := 96) rfl (by decide) rfl o2 ?_
  refine zX_run (n' := 6) (ls' := [some (.inr (.inr (0, f))), some (.inl m), some (.inl l), some (.inl (zW (h + 1))), some (.inl (σ.1 16 (16 * f + h.toNat) (m.toNat)))]) (st' := []) (σ' := (zU σ 17 (16 * f + h.toNat) (m.toNat) (σ.1 16 (16 * f + h.toNat) (m.toNat)))) 2 rfl ?_
  exact h1
-- X0_readyMonth
theorem zb_8 {d : Nat} {σ : zS} {Q : Option zV → zS → Prop} {f : Nat} {m h : Int} {x y : Option zV}
    (o1 : ¬ σ.1 8 0 8 ≤ h → (0 : Int) ≤ h ∧ h < (16 : Int))
    (o2 : ¬ σ.1 8 0 8 ≤ h → σ.1 1 (16 * 0 + h.toNat) 5 ≤ m ∧ m < σ.1 1 (16 * 0 + h.toNat) 6 → (0 : Int) ≤ m ∧ m < (96 : Int))
    (o3 : ¬ σ.1 8 0 8 ≤ h → σ.1 1 (16 * 0 + h.toNat) 5 ≤ m ∧ m < σ.1 1 (16 * 0 + h.toNat) 6 → zBin 3 (zBin 7 (σ.1 13 f (m.toNat)) h) 1 = 0 → 0 ≤ h ∧ h < 16)
    (o4 : ¬ σ.1 8 0 8 ≤ h → σ.1 1 (16 * 0 + h.toNat) 5 ≤ m ∧ m < σ.1 1 (16 * 0 + h.toNat) 6 → zBin 3 (zBin 7 (σ.1 13 f (m.toNat)) h) 1 = 0 → cTxr σ f h.toNat)
    (o5 : ¬ σ.1 8 0 8 ≤ h → σ.1 1 (16 * 0 + h.toNat) 5 ≤ m ∧ m < σ.1 1 (16 * 0 + h.toNat) 6 → zBin 3 (zBin 7 (σ.1 13 f (m.toNat)) h) 1 = 0 → σ.1 7 (6 * 0 + cTx σ f h.toNat) 3 = 0 → 0 ≤ m ∧ m < 96)
    (o6 : ¬ σ.1 8 0 8 ≤ h → σ.1 1 (16 * 0 + h.toNat) 5 ≤ m ∧ m < σ.1 1 (16 * 0 + h.toNat) 6 → zBin 3 (zBin 7 (σ.1 13 f (m.toNat)) h) 1 = 0 → σ.1 7 (6 * 0 + cTx σ f h.toNat) 3 = 0 → 0 ≤ cH σ h.toNat 2 ∧ cH σ h.toNat 2 < 7)
    (o7 : ¬ σ.1 8 0 8 ≤ h → σ.1 1 (16 * 0 + h.toNat) 5 ≤ m ∧ m < σ.1 1 (16 * 0 + h.toNat) 6 → zBin 3 (zBin 7 (σ.1 13 f (m.toNat)) h) 1 = 0 → σ.1 7 (6 * 0 + cTx σ f h.toNat) 3 = 0 → cTok σ (6 * 0 + cTx σ f h.toNat))
    (o8 : ¬ σ.1 8 0 8 ≤ h → ¬ (σ.1 1 (16 * 0 + h.toNat) 5 ≤ m ∧ m < σ.1 1 (16 * 0 + h.toNat) 6) → (0 : Int) ≤ m ∧ m < (96 : Int))
    (h1 : σ.1 8 0 8 ≤ h → Q (none) (zU σ 0 f 10 (zW (m + 1))))
    (h2 : ¬ σ.1 8 0 8 ≤ h → σ.1 1 (16 * 0 + h.toNat) 5 ≤ m ∧ m < σ.1 1 (16 * 0 + h.toNat) 6 → ¬ zBin 3 (zBin 7 (σ.1 13 f (m.toNat)) h) 1 = 0 → zX (d + 12) 8 12 [some (.inr (.inr (0, f))), some (.inl m), some (.inl (zW (h + 1))), some (.inl 0), y] [] (zU σ 16 (16 * f + h.toNat) (m.toNat) 0) Q)
    (h3 : ¬ σ.1 8 0 8 ≤ h → σ.1 1 (16 * 0 + h.toNat) 5 ≤ m ∧ m < σ.1 1 (16 * 0 + h.toNat) 6 → zBin 3 (zBin 7 (σ.1 13 f (m.toNat)) h) 1 = 0 → σ.1 7 (6 * 0 + cTx σ f h.toNat) 3 = 0 → ∀ G1 : Nat → Nat → Nat → Int, zX (d + 12) 8 12 [some (.inr (.inr (0, f))), some (.inl m), some (.inl (zW (h + 1))), some (.inl (cWb σ (6 * 0 + cTx σ f h.toNat) h.toNat m.toNat 0)), some (.inr (.inr (7, 6 * 0 + cTx σ f h.toNat)))] [] (zU (zN σ G1) 16 (16 * f + h.toNat) (m.toNat) (cWb σ (6 * 0 + cTx σ f h.toNat) h.toNat m.toNat 0)) Q)
    (h4 : ¬ σ.1 8 0 8 ≤ h → σ.1 1 (16 * 0 + h.toNat) 5 ≤ m ∧ m < σ.1 1 (16 * 0 + h.toNat) 6 → zBin 3 (zBin 7 (σ.1 13 f (m.toNat)) h) 1 = 0 → ¬ σ.1 7 (6 * 0 + cTx σ f h.toNat) 3 = 0 → zX (d + 12) 8 12 [some (.inr (.inr (0, f))), some (.inl m), some (.inl (zW (h + 1))), some (.inl (-1)), some (.inr (.inr (7, 6 * 0 + cTx σ f h.toNat)))] [] (zU σ 16 (16 * f + h.toNat) (m.toNat) (-1)) Q)
    (h5 : ¬ σ.1 8 0 8 ≤ h → ¬ (σ.1 1 (16 * 0 + h.toNat) 5 ≤ m ∧ m < σ.1 1 (16 * 0 + h.toNat) 6) → zX (d + 12) 8 12 [some (.inr (.inr (0, f))), some (.inl m), some (.inl (zW (h + 1))), some (.inl 0), y] [] (zU σ 16 (16 * f + h.toNat) (m.toNat) 0) Q) :
    zX (d + 12) 8 12 [some (.inr (.inr (0, f))), some (.inl m), some (.inl h), x, y] [] σ Q := by
  refine zX_run (n' := 16) (ls' := [some (.inr (.inr (0, f))), some (.inl m), some (.inl h), x, y]) (st' := [.inl (σ.1 8 0 8), .inl h]) (σ' := σ) 4 rfl ?_
  refine zX_c3 rfl (fun a1 => ?_) (fun a1 => ?_)
  · skip
    refine zX_run (n' := 68) (ls' := [some (.inr (.inr (0, f))), some (.inl m), some (.inl h), x, y]) (st' := []) (σ' := (zU σ 0 f 10 (zW (m + 1)))) 5 rfl ?_
    exact zX_ret0 rfl rfl (h1 a1)
  · skip
    refine zX_run (n' := 23) (ls' := [some (.inr (.inr (0, f))), some (.inl m), some (.inl h), some (.inl 0), y]) (st' := [.inl h, .inr (.inr (39, 0))]) (σ' := σ) 6 rfl ?_
    refine zX_ald5 (L := 16) rfl (by decide) rfl (o1 a1) ?_
    refine zX_run (n' := 25) (ls' := [some (.inr (.inr (0, f))), some (.inl m), some (.inl h), some (.inl 0), y]) (st' := [.inl m, .inr (.inr (1, 16 * 0 + h.toNat))]) (σ' := σ) 1 rfl ?_
    refine zX_call rfl rfl ?_
    refine zs_26 (fun a2 => ?_) (fun a3 => ?_)
    · skip
      refine zX_run (n' := 30) (ls' := [some (.inr (.inr (0, f))), some (.inl m), some (.inl h), some (.inl 0), y]) (st' := [.inl m, .inr (.inr (13, f))]) (σ' := σ) 4 rfl ?_
      refine zX_ald1 (L := 96) rfl (by decide) rfl (o2 a1 a2) ?_
      refine zX_run (n' := 35) (ls' := [some (.inr (.inr (0, f))), some (.inl m), some (.inl h), some (.inl 0), y]) (st' := [.inl (zBin 3 (zBin 7 (σ.1 13 f (m.toNat)) h) 1)]) (σ' := σ) 4 rfl ?_
      refine zX_i1 rfl (fun a4 => ?_) (fun a4 => ?_)
      · skip
        refine zX_run (n' := 56) (ls' := [some (.inr (.inr (0, f))), some (.inl m), some (.inl h), some (.inl 0), y]) (st' := [.inl h, .inr (.inr (12, f))]) (σ' := σ) 3 rfl ?_
        refine zX_ald5 (L := 16) rfl (by decide) rfl (o1 a1) ?_
        refine zX_run (n' := 60) (ls' := [some (.inr (.inr (0, f))), some (.inl m), some (.inl h), some (.inl 0), y]) (st' := [.inl 0, .inl m, .inr (.inr (16, 16 * f + h.toNat))]) (σ' := σ) 3 rfl ?_
        refine zX_ast1 (L := 96) rfl (by decide) rfl (o2 a1 a2) ?_
        refine zX_run (n' := 12) (ls' := [some (.inr (.inr (0, f))), some (.inl m), some (.inl (zW (h + 1))), some (.inl 0), y]) (st' := []) (σ' := (zU σ 16 (16 * f + h.toNat) (m.toNat) 0)) 2 rfl ?_
        exact h2 a1 a2 a4
      · skip
        refine zX_run (n' := 38) (ls' := [some (.inr (.inr (0, f))), some (.inl m), some (.inl h), some (.inl 0), y]) (st' := [.inl h, .inr (.inr (0, f))]) (σ' := σ) 2 rfl ?_
        refine zX_call rfl rfl ?_
        refine zs_9 (o3 a1 a2 a4) (o4 a1 a2 a4) ?_
        · skip
          refine zX_run (n' := 42) (ls' := [some (.inr (.inr (0, f))), some (.inl m), some (.inl h), some (.inl 0), some (.inr (.inr (7, 6 * 0 + cTx σ f h.toNat)))]) (st' := [.inl (σ.1 7 (6 * 0 + cTx σ f h.toNat) 3)]) (σ' := σ) 3 rfl ?_
          refine zX_i0 rfl (fun a5 => ?_) (fun a5 => ?_)
          · skip
            refine zX_run (n' := 51) (ls' := [some (.inr (.inr (0, f))), some (.inl m), some (.inl h), some (.inl 0), some (.inr (.inr (7, 6 * 0 + cTx σ f h.toNat)))]) (st' := [.inl 0, .inl m, .inl h, .inr (.inr (7, 6 * 0 + cTx σ f h.toNat)), .inr (.inr (8, 0))]) (σ' := σ) 6 rfl ?_
            refine zX_call rfl rfl ?_
            refine zs_67 (o3 a1 a2 a4) (o5 a1 a2 a4 a5) (o6 a1 a2 a4 a5) (o7 a1 a2 a4 a5) (fun G1 => ?_)
            · skip
              refine zX_run (n' := 56) (ls' := [some (.inr (.inr (0, f))), some (.inl m), some (.inl h), some (.inl (cWb σ (6 * 0 + cTx σ f h.toNat) h.toNat m.toNat 0)), some (.inr (.inr (7, 6 * 0 + cTx σ f h.toNat)))]) (st' := [.inl h, .inr (.inr (12, f))]) (σ' := (zN σ G1)) 4 rfl ?_
              refine zX_ald5 (L := 16) rfl (by decide) rfl (o1 a1) ?_
              refine zX_run (n' := 60) (ls' := [some (.inr (.inr (0, f))), some (.inl m), some (.inl h), some (.inl (cWb σ (6 * 0 + cTx σ f h.toNat) h.toNat m.toNat 0)), some (.inr (.inr (7, 6 * 0 + cTx σ f h.toNat)))]) (st' := [.inl (cWb σ (6 * 0 + cTx σ f h.toNat) h.toNat m.toNat 0), .inl m, .inr (.inr (16, 16 * f + h.toNat))]) (σ' := (zN σ G1)) 3 rfl ?_
              refine zX_ast1 (L := 96) rfl (by decide) rfl (o2 a1 a2) ?_
              refine zX_run (n' := 12) (ls' := [some (.inr (.inr (0, f))), some (.inl m), some (.inl (zW (h + 1))), some (.inl (cWb σ (6 * 0 + cTx σ f h.toNat) h.toNat m.toNat 0)), some (.inr (.inr (7, 6 * 0 + cTx σ f h.toNat)))]) (st' := []) (σ' := (zU (zN σ G1) 16 (16 * f + h.toNat) (m.toNat) (cWb σ (6 * 0 + cTx σ f h.toNat) h.toNat m.toNat 0))) 2 rfl ?_
              exact h3 a1 a2 a4 a5 G1
          · skip
            refine zX_run (n' := 56) (ls' := [some (.inr (.inr (0, f))), some (.inl m), some (.inl h), some (.inl (-1)), some (.inr (.inr (7, 6 * 0 + cTx σ f h.toNat)))]) (st' := [.inl h, .inr (.inr (12, f))]) (σ' := σ) 6 rfl ?_
            refine zX_ald5 (L := 16) rfl (by decide) rfl (o1 a1) ?_
            refine zX_run (n' := 60) (ls' := [some (.inr (.inr (0, f))), some (.inl m), some (.inl h), some (.inl (-1)), some (.inr (.inr (7, 6 * 0 + cTx σ f h.toNat)))]) (st' := [.inl (-1), .inl m, .inr (.inr (16, 16 * f + h.toNat))]) (σ' := σ) 3 rfl ?_
            refine zX_ast1 (L := 96) rfl (by decide) rfl (o2 a1 a2) ?_
            refine zX_run (n' := 12) (ls' := [some (.inr (.inr (0, f))), some (.inl m), some (.inl (zW (h + 1))), some (.inl (-1)), some (.inr (.inr (7, 6 * 0 + cTx σ f h.toNat)))]) (st' := []) (σ' := (zU σ 16 (16 * f + h.toNat) (m.toNat) (-1))) 2 rfl ?_
            exact h4 a1 a2 a4 a5
    · skip
      refine zX_run (n' := 56) (ls' := [some (.inr (.inr (0, f))), some (.inl m), some (.inl h), some (.inl 0), y]) (st' := [.inl h, .inr (.inr (12, f))]) (σ' := σ) 4 rfl ?_
      refine zX_ald5 (L := 16) rfl (by decide) rfl (o1 a1) ?_
      refine zX_run (n' := 60) (ls' := [some (.inr (.inr (0, f))), some (.inl m), some (.inl h), some (.inl 0), y]) (st' := [.inl 0, .inl m, .inr (.inr (16, 16 * f + h.toNat))]) (σ' := σ) 3 rfl ?_
      refine zX_ast1 (L := 96) rfl (by decide) rfl (o8 a1 a3) ?_
      refine zX_run (n' := 12) (ls' := [some (.inr (.inr (0, f))), some (.inl m), some (.inl (zW (h + 1))), some (.inl 0), y]) (st' := []) (σ' := (zU σ 16 (16 * f + h.toNat) (m.toNat) 0)) 2 rfl ?_
      exact h5 a1 a3
-- X0_settleWants
theorem zb_10n {d : Nat} {σ : zS} {Q : Option zV → zS → Prop} {f : Nat} {m : Int}
    (o1 : 0 ≤ m ∧ m < 97)
    (h1 : zX (d + 12) 10 6 [some (.inr (.inr (0, f))), some (.inl m), some (.inl (uLvs (cTh σ) (fun r => σ.1 26 (7 * f + r) m.toNat) 7)), some (.inl 0), none] [] σ Q) :
    zM (d + 12) 10 [.inr (.inr (0, f)), .inl m] σ Q := by
  refine zX_run (n' := 2) (ls' := [some (.inr (.inr (0, f))), some (.inl m), none, none, none]) (st' := [.inl m, .inr (.inr (0, f))]) (σ' := σ) 2 rfl ?_
  refine zX_call rfl rfl ?_
  refine zs_15 o1 ?_
  · skip
    refine zX_run (n' := 6) (ls' := [some (.inr (.inr (0, f))), some (.inl m), some (.inl (uLvs (cTh σ) (fun r => σ.1 26 (7 * f + r) m.toNat) 7)), some (.inl 0), none]) (st' := []) (σ' := σ) 3 rfl ?_
    exact h1
-- X0_readyMonth
theorem zb_8n {d : Nat} {σ : zS} {Q : Option zV → zS → Prop} {f : Nat} {m : Int}
    (o1 : 0 ≤ σ.1 8 0 8 ∧ σ.1 8 0 8 ≤ 16)
    (o2 : 0 ≤ σ.1 8 0 11 ∧ σ.1 8 0 11 ≤ 16)
    (o3 : ∀ c : Nat, (c : Int) < σ.1 8 0 11 → 0 ≤ σ.1 40 0 c ∧ σ.1 40 0 c < 16)
    (o4 : (0 : Int) ≤ m ∧ m < (96 : Int))
    (h1 : zX (d + 12) 8 12 [some (.inr (.inr (0, f))), some (.inl m), some (.inl 0), none, none] [] (zU σ 13 f (m.toNat) ((cShut σ m (σ.1 0 f 7) : Int))) Q) :
    zM (d + 12) 8 [.inr (.inr (0, f)), .inl m] σ Q := by
  refine zX_run (n' := 8) (ls' := [some (.inr (.inr (0, f))), some (.inl m), none, none, none]) (st' := [.inl (σ.1 0 f 7), .inl m, .inr (.inr (8, 0)), .inl m, .inr (.inr (13, f))]) (σ' := σ) 8 rfl ?_
  refine zX_call rfl rfl ?_
  refine zs_63 o1 o2 o3 ?_
  · skip
    refine zX_ast1 (L := 96) rfl (by decide) rfl o4 ?_
    refine zX_run (n' := 12) (ls' := [some (.inr (.inr (0, f))), some (.inl m), some (.inl 0), none, none]) (st' := []) (σ' := (zU σ 13 f (m.toNat) ((cShut σ m (σ.1 0 f 7) : Int)))) 2 rfl ?_
    exact h1
theorem zG_U {σ : zS} {G : Nat → Nat → Nat → Int} {k n j : Nat} {v : Int} (hk : fk k = true) : zU (zG σ G) k n j v = zG σ (uG G k n j v) := by
  refine Prod.ext (funext fun k' => funext fun n' => funext fun j' => ?_) rfl
  show (if k' = k ∧ j' = j ∧ n' = n then v else (if fk k' = true then G k' else σ.1 k') n' j') = (if fk k' = true then uG G k n j v k' else σ.1 k') n' j'
  by_cases a : fk k' = true
  · rw [if_pos a, if_pos a]; rfl
  · rw [if_neg a, if_neg a, if_neg (fun q => a (by rw [q.1]; exact hk))]
theorem zG_N2 {σ : zS} {G G1 : Nat → Nat → Nat → Int} : zN (zG σ G) G1 = zG σ (fun k => if k = 44 then G1 44 else if k = 45 then G1 45 else G k) := by
  refine Prod.ext (funext fun k => ?_) rfl
  show (if k = 44 then G1 44 else if k = 45 then G1 45 else (if fk k = true then G k else σ.1 k)) = (if fk k = true then (if k = 44 then G1 44 else if k = 45 then G1 45 else G k) else σ.1 k)
  by_cases a : fk k = true
  · rw [if_pos a, if_pos a]
  · rw [if_neg a, if_neg a, if_neg (fk_ne a rfl), if_neg (fk_ne a rfl)]
theorem cTx_G {σ : zS} {G : Nat → Nat → Nat → Int} {f h : Nat} (h8 : G 0 f 8 = σ.1 0 f 8) : cTx (zG σ G) f h = cTx σ f h := by
  show (if G 0 f 8 = -1 then _ else (G 0 f 8).toNat) = _
  rw [h8]; rfl
theorem cDh_G {σ : zS} {G : Nat → Nat → Nat → Int} {f : Nat} {D : uT} (H : cDh σ f D) (h7 : G 0 f 7 = σ.1 0 f 7) (h8 : G 0 f 8 = σ.1 0 f 8) (h9 : G 0 f 9 = σ.1 0 f 9) : cDh (zG σ G) f D := by
  obtain ⟨H1, H2, H3, H4, H5⟩ := H
  refine ⟨H1, fun h hh => ?_, ?_, H4, fun h m hh hm => ?_⟩
  · rw [cTx_G h8]
    have := H2 h hh
    refine ⟨?_, this.2⟩
    show (G 0 f 8 = -1 → _) ∧ (¬ G 0 f 8 = -1 → 0 ≤ G 0 f 8 ∧ G 0 f 8 < 6)
    rw [h8]
    exact this.1
  · show G 0 f 9 = _ ∧ _; rw [h9]; exact H3
  · show (cShut (zG σ G) (m : Int) (G 0 f 7)).testBit h = true ↔ _
    rw [h7]; exact H5 h m hh hm
theorem cRdv_G {σ : zS} {G : Nat → Nat → Nat → Int} {f h m : Nat} {D : uT} (h8 : G 0 f 8 = σ.1 0 f 8) : cRdv (zG σ G) f D h m = cRdv σ f D h m := by
  unfold cRdv; rw [cTx_G h8]; rfl
theorem uBitn {x : Int} {h : Nat} (hx : 0 ≤ x ∧ x < 65536) (hh : h < 16) : zBin 3 (zBin 7 x (h : Int)) 1 = uBit x h := by
  obtain ⟨n, rfl⟩ := Int.eq_ofNat_of_zero_le hx.1
  rw [zBit (by omega) (by omega)]
  unfold uBit
  rw [show ((2 : Int) ^ h) = ((2 ^ h : Nat) : Int) by simp]
  rfl
def cSw (σ : zS) (G : Nat → Nat → Nat → Int) (f m : Nat) (W : Nat → Int) (k : Nat) : Prop := (∀ h, h < k → G 17 (16 * f + h) m = W h) ∧ (∀ n j, ¬ (j = m ∧ ∃ h, h < k ∧ n = 16 * f + h) → G 17 n j = σ.1 17 n j) ∧ (∀ k', ¬ k' = 17 → ¬ k' = 44 → ¬ k' = 45 → G k' = σ.1 k')
theorem cSw_s {σ : zS} {G G' : Nat → Nat → Nat → Int} {f m k : Nat} {W : Nat → Int} {v : Int} (I : cSw σ G f m W k) (e : G' 17 = uG G 17 (16 * f + k) m v 17) (e2 : ∀ k', ¬ k' = 17 → ¬ k' = 44 → ¬ k' = 45 → G' k' = G k') (hv : v = W k) : cSw σ G' f m W (k + 1) := by
  refine ⟨fun h hh => ?_, fun n j hn => ?_, fun k' a b c => (e2 k' a b c).trans (I.2.2 k' a b c)⟩
  · rw [e]
    show (if 17 = 17 ∧ m = m ∧ 16 * f + h = 16 * f + k then v else G 17 (16 * f + h) m) = W h
    by_cases q : h = k
    · subst q; rw [if_pos ⟨rfl, rfl, rfl⟩, hv]
    · rw [if_neg (by omega)]; exact I.1 h (by omega)
  · rw [e]
    show (if 17 = 17 ∧ j = m ∧ n = 16 * f + k then v else G 17 n j) = _
    rw [if_neg (fun q => hn ⟨q.2.1, k, by omega, q.2.2⟩)]
    exact I.2.1 n j (fun ⟨a, h, b, c⟩ => hn ⟨a, h, by omega, c⟩)
theorem zs_10 {d : Nat} {σ : zS} {Q : Option zV → zS → Prop} {f m : Nat} {D V : uT} (O : uOk D) (hm : m < 96) (T : cDw σ f D) (H : cDh σ f D) (R : cRm σ f D m) (hl : ∀ r, r < 7 → ¬ D 3 r = 0 → σ.1 26 (7 * f + r) m = V 0 r)
    (h : ∀ G : Nat → Nat → Nat → Int, cSw σ G f m (fun h => uWants D h m (uLevs D V)) (uN D) → Q none (zG σ G)) :
    zM (d + 12) 10 [.inr (.inr (0, f)), .inl (m : Int)] σ Q := by
  have N16 := O.2.2.2.2.1
  obtain ⟨T1, T2, T3, T4, T5, T6⟩ := T
  have hcnt : σ.1 8 0 8 = (uN D : Int) := by rw [T4]; unfold uN; omega
  have lv : uLvs (cTh σ) (fun r => σ.1 26 (7 * f + r) (m : Int).toNat) 7 = uLevs D V := uLvs_congr (fun r hr => ⟨(T2 r hr).2, fun e => hl r hr e⟩)
  refine zb_10n (by omega) ?_
  rw [lv]
  have L := zLoop (P := fun k => ∀ (G : Nat → Nat → Nat → Int) (x : Option zV), cSw σ G f m (fun h => uWants D h m (uLevs D V)) k → zX (d + 12) 10 6 [some (.inr (.inr (0, f))), some (.inl (m : Int)), some (.inl (uLevs D V)), some (.inl (k : Int)), x] [] (zG σ G) Q) (k := 0) (N := uN D) (by omega) (fun G x I => ?_) (fun k _ hk ih G x I => ?_)
  · have := L σ.1 none ⟨fun h hh => absurd hh (by omega), fun _ _ _ => rfl, fun _ _ _ _ => rfl⟩
    rw [← zG_self] at this
    exact this
  · refine zX_run (n' := 10) (ls' := [some (.inr (.inr (0, f))), some (.inl (m : Int)), some (.inl (uLevs D V)), some (.inl (uN D : Int)), x]) (st' := [.inl (σ.1 8 0 8), .inl (uN D : Int)]) (σ' := zG σ G) 4 rfl ?_
    refine zX_c3 rfl (fun _ => ?_) (fun q => absurd (by omega) q)
    exact zX_ret0 rfl rfl (h G I)
  · have g0 : G 0 = σ.1 0 := I.2.2 0 (by decide) (by decide) (by decide)
    have g16 : G 16 = σ.1 16 := I.2.2 16 (by decide) (by decide) (by decide)
    have H' : cDh (zG σ G) f D := cDh_G H (by rw [g0]) (by rw [g0]) (by rw [g0])
    have hb : zBin 3 (zBin 7 ((zG σ G).1 0 f 9) (k : Int)) 1 = uBit (D 19 1) k := by
      rw [show (zG σ G).1 0 f 9 = D 19 1 from H'.2.2.1.1, uBitn H'.2.2.1.2 (by omega)]
    have hr : (zG σ G).1 16 (16 * f + k) m = cRdv σ f D k m := by
      show G 16 (16 * f + k) m = _; rw [g16]; exact R.2 k hk
    have rb := (O.2.2.2.2.2 k hk).2.2.1
    have eTx : cTx (zG σ G) f k = cTx σ f k := cTx_G (by rw [g0])
    by_cases b1 : uBit (D 19 1) k = 1
    · refine zb_10d (by rw [show (zG σ G).1 8 0 8 = σ.1 8 0 8 from rfl]; omega) (hb.trans b1) (by omega) (by omega) ?_
      rw [zG_U rfl, zWs (by omega)]
      exact ih _ _ (cSw_s I rfl (fun k' a _ _ => funext fun n => funext fun j => if_neg (fun q => a q.1)) (by show 0 = uWants D k m _; unfold uWants; rw [if_pos (Or.inl b1)]))
    · by_cases b2 : cRdv σ f D k m = -1
      · have hf : (D 13 k ≤ (m : Int) ∧ (m : Int) < D 14 k ∧ D 15 (96 * k + m) = 0) := by
          refine Decidable.byContradiction fun q => ?_
          unfold cRdv at b2; rw [if_neg q] at b2; omega
        refine zb_10l (by rw [show (zG σ G).1 8 0 8 = σ.1 8 0 8 from rfl]; omega) (fun q => b1 (hb.symm.trans q)) (hr.trans b2) (by omega) (by omega) (by omega) (H'.2.1 k hk).1 (by omega) ?_ (H'.2.1 k hk).2.1 (fun G1 => ?_)
        · show 0 ≤ cH σ k 2 ∧ cH σ k 2 < 7
          rw [T6 k 2 hk (by decide)]; show 0 ≤ D 10 k ∧ D 10 k < 7; omega
        · rw [show cWb (zG σ G) (6 * 0 + cTx (zG σ G) f (k : Int).toNat) (k : Int).toNat (m : Int).toNat (uLevs D V) = uWb D k m (uLevs D V) from cWb_eq O T6 H' hk hm]
          rw [zG_N2, zG_U rfl, zWs (by omega)]
          refine ih _ _ (cSw_s I (v := uWb D k m (uLevs D V)) rfl (fun k' a b c => funext fun n => funext fun j => ?_) ?_)
          · show (if k' = 17 ∧ _ ∧ _ then _ else (if k' = 44 then G1 44 else if k' = 45 then G1 45 else G k') n j) = _
            rw [if_neg (fun q => a q.1), if_neg b, if_neg c]
          · show _ = uWants D k m _
            unfold uWants; rw [if_neg (fun q => q.elim b1 (fun q => q hf))]
      · refine zb_10p (by rw [show (zG σ G).1 8 0 8 = σ.1 8 0 8 from rfl]; omega) (fun q => b1 (hb.symm.trans q)) (fun q => b2 (hr.symm.trans q)) (by omega) (by omega) ?_
        rw [show (zG σ G).1 16 (16 * f + (k : Int).toNat) (m : Int).toNat = cRdv σ f D k m from hr, zG_U rfl, zWs (by omega)]
        refine ih _ _ (cSw_s I (v := cRdv σ f D k m) rfl (fun k' a _ _ => funext fun n => funext fun j => if_neg (fun q => a q.1)) ?_)
        show _ = uWants D k m _
        unfold uWants
        by_cases hf : (D 13 k ≤ (m : Int) ∧ (m : Int) < D 14 k ∧ D 15 (96 * k + m) = 0)
        · rw [if_neg (fun q => q.elim b1 (fun q => q hf))]
          unfold cRdv at b2 ⊢
          rw [if_pos hf] at b2 ⊢
          by_cases u : σ.1 7 (6 * 0 + cTx σ f k) 3 = 0
          · rw [if_pos u]
            have := (H.2.1 k hk).2.2.2.2 u
            exact uWb_lev this.1 this.2
          · rw [if_neg u] at b2; exact absurd rfl b2
        · rw [if_pos (Or.inr hf)]
          unfold cRdv; rw [if_neg hf]
def cSr (σ : zS) (G : Nat → Nat → Nat → Int) (f m : Nat) (D : uT) (k : Nat) : Prop := (∀ h, h < k → G 16 (16 * f + h) m = cRdv σ f D h m) ∧ (∀ n j, ¬ (j = m ∧ ∃ h, h < k ∧ n = 16 * f + h) → G 16 n j = σ.1 16 n j) ∧
  (∀ n j, G 13 n j = if j = m ∧ n = f then (cShut σ (m : Int) (σ.1 0 f 7) : Int) else σ.1 13 n j) ∧ (∀ k', ¬ k' = 13 → ¬ k' = 16 → ¬ k' = 44 → ¬ k' = 45 → G k' = σ.1 k')
theorem cSr_s {σ : zS} {G G' : Nat → Nat → Nat → Int} {f m k : Nat} {D : uT} {v : Int} (I : cSr σ G f m D k) (e : G' 16 = uG G 16 (16 * f + k) m v 16) (e2 : ∀ k', ¬ k' = 16 → ¬ k' = 44 → ¬ k' = 45 → G' k' = G k') (hv : v = cRdv σ f D k m) : cSr σ G' f m D (k + 1) := by
  refine ⟨fun h hh => ?_, fun n j hn => ?_, fun n j => by rw [e2 13 (by decide) (by decide) (by decide)]; exact I.2.2.1 n j, fun k' a b c d => (e2 k' b c d).trans (I.2.2.2 k' a b c d)⟩
  · rw [e]
    show (if 16 = 16 ∧ m = m ∧ 16 * f + h = 16 * f + k then v else G 16 (16 * f + h) m) = _
    by_cases q : h = k
    · subst q; rw [if_pos ⟨rfl, rfl, rfl⟩, hv]
    · rw [if_neg (by omega)]; exact I.1 h (by omega)
  · rw [e]
    show (if 16 = 16 ∧ j = m ∧ n = 16 * f + k then v else G 16 n j) = _
    rw [if_neg (fun q => hn ⟨q.2.1, k, by omega, q.2.2⟩)]
    exact I.2.1 n j (fun ⟨a, h, b, c⟩ => hn ⟨a, h, by omega, c⟩)
theorem cShut_lt {σ : zS} {m l : Int} (h : (σ.1 8 0 8).toNat ≤ 16) : cShut σ m l < 2 ^ 16 := uOrs_lt (fun c => Nat.lt_of_lt_of_le uBits_lt (Nat.pow_le_pow_right (by decide) h))
theorem zs_8 {d : Nat} {σ : zS} {Q : Option zV → zS → Prop} {f m : Nat} {D : uT} (O : uOk D) (hm : m < 96) (T : cDw σ f D) (H : cDh σ f D)
    (h : ∀ G : Nat → Nat → Nat → Int, (∀ h, h < uN D → G 16 (16 * f + h) m = cRdv σ f D h m) → (∀ n j, ¬ (j = m ∧ ∃ h, h < uN D ∧ n = 16 * f + h) → G 16 n j = σ.1 16 n j) →
      (∀ n j, G 13 n j = if j = m ∧ n = f then (cShut σ (m : Int) (σ.1 0 f 7) : Int) else σ.1 13 n j) → (∀ n j, G 0 n j = if j = 10 ∧ n = f then ((m + 1 : Nat) : Int) else σ.1 0 n j) →
      (∀ k', ¬ k' = 0 → ¬ k' = 13 → ¬ k' = 16 → ¬ k' = 44 → ¬ k' = 45 → G k' = σ.1 k') → Q none (zG σ G)) :
    zM (d + 12) 8 [.inr (.inr (0, f)), .inl (m : Int)] σ Q := by
  have N16 := O.2.2.2.2.1
  obtain ⟨T1, T2, T3, T4, T5, T6⟩ := T
  have hcnt : σ.1 8 0 8 = (uN D : Int) := by rw [T4]; unfold uN; omega
  have h16 : (σ.1 8 0 8).toNat ≤ 16 := by omega
  refine zb_8n (by omega) H.2.2.2.1.1 H.2.2.2.1.2 (by omega) ?_
  have e13 : zU σ 13 f (m : Int).toNat (cShut σ (m : Int) (σ.1 0 f 7) : Int) = zG σ (uG σ.1 13 f m (cShut σ (m : Int) (σ.1 0 f 7) : Int)) := by
    conv => lhs; rw [zG_self (σ := σ)]
    exact zG_U rfl
  have L := zLoop (P := fun k => ∀ (G : Nat → Nat → Nat → Int) (x y : Option zV), cSr σ G f m D k → zX (d + 12) 8 12 [some (.inr (.inr (0, f))), some (.inl (m : Int)), some (.inl (k : Int)), x, y] [] (zG σ G) Q) (k := 0) (N := uN D) (by omega) (fun G x y I => ?_) (fun k _ hk ih G x y I => ?_)
  · rw [e13]
    refine L _ none none ⟨fun h hh => absurd hh (by omega), fun n j _ => rfl, fun n j => ?_, fun k' a _ _ _ => funext fun n => funext fun j => if_neg (fun q => a q.1)⟩
    show (if 13 = 13 ∧ j = m ∧ n = f then _ else _) = _
    by_cases e : j = m ∧ n = f
    · rw [if_pos ⟨rfl, e⟩, if_pos e]
    · rw [if_neg (fun q => e q.2), if_neg e]
  · refine zb_8 (fun q => absurd (show σ.1 8 0 8 ≤ _ by omega) q) (fun q => absurd (show σ.1 8 0 8 ≤ _ by omega) q) (fun q => absurd (show σ.1 8 0 8 ≤ _ by omega) q) (fun q => absurd (show σ.1 8 0 8 ≤ _ by omega) q) (fun q => absurd (show σ.1 8 0 8 ≤ _ by omega) q) (fun q => absurd (show σ.1 8 0 8 ≤ _ by omega) q) (fun q => absurd (show σ.1 8 0 8 ≤ _ by omega) q) (fun q => absurd (show σ.1 8 0 8 ≤ _ by omega) q) (fun _ => ?_) (fun q => absurd (show σ.1 8 0 8 ≤ _ by omega) q) (fun q => absurd (show σ.1 8 0 8 ≤ _ by omega) q) (fun q => absurd (show σ.1 8 0 8 ≤ _ by omega) q) (fun q => absurd (show σ.1 8 0 8 ≤ _ by omega) q)
    rw [zG_U rfl, zWs (by omega)]
    refine h _ I.1 I.2.1 I.2.2.1 (fun n j => ?_) (fun k' a b c e g => ?_)
    · show (if 0 = 0 ∧ j = 10 ∧ n = f then _ else G 0 n j) = _
      rw [show G 0 = σ.1 0 from I.2.2.2 0 (by decide) (by decide) (by decide) (by decide)]
      by_cases e : j = 10 ∧ n = f
      · rw [if_pos ⟨rfl, e⟩, if_pos e]
      · rw [if_neg (fun q => e q.2), if_neg e]
    · exact (funext fun n => funext fun j => if_neg (fun q => a q.1)).trans (I.2.2.2 k' b c e g)
  · have g0 : G 0 = σ.1 0 := I.2.2.2 0 (by decide) (by decide) (by decide) (by decide)
    have H' : cDh (zG σ G) f D := cDh_G H (by rw [g0]) (by rw [g0]) (by rw [g0])
    have eTx : cTx (zG σ G) f (k : Int).toNat = cTx σ f k := cTx_G (by rw [g0])
    have rb := (O.2.2.2.2.2 k hk).2.2.1
    have sh : (zG σ G).1 13 f (m : Int).toNat = (cShut σ (m : Int) (σ.1 0 f 7) : Int) := by
      show G 13 f m = _; rw [I.2.2.1, if_pos ⟨rfl, rfl⟩]
    have sl := cShut_lt (σ := σ) (m := (m : Int)) (l := σ.1 0 f 7) h16
    have bit : zBin 3 (zBin 7 (cShut σ (m : Int) (σ.1 0 f 7) : Int) (k : Int)) 1 = 0 ↔ D 15 (96 * k + m) = 0 := by
      rw [zBit (by omega) (by omega), zBit1]
      have := H.2.2.2.2 k m hk hm
      by_cases e : (cShut σ (m : Int) (σ.1 0 f 7)).testBit k = true
      · rw [if_pos e]; simp [this.mp e]
      · rw [if_neg e]; simp; exact Decidable.byContradiction fun q => e (this.mpr q)
    have f5 : σ.1 1 (16 * 0 + k) 5 = D 13 k := T6 k 5 hk (by decide)
    have f6 : σ.1 1 (16 * 0 + k) 6 = D 14 k := T6 k 6 hk (by decide)
    have ge : ¬ (zG σ G).1 8 0 8 ≤ (k : Int) := by show ¬ σ.1 8 0 8 ≤ _; omega
    have cR2 : 0 ≤ cH σ k 2 ∧ cH σ k 2 < 7 := by rw [T6 k 2 hk (by decide)]; show 0 ≤ D 10 k ∧ D 10 k < 7; omega
    refine zb_8 (fun _ => by omega) (fun _ _ => by omega) (fun _ _ _ => by omega) (fun _ _ _ => (H'.2.1 k hk).1) (fun _ _ _ _ => by omega) (fun _ _ _ _ => cR2) (fun _ _ _ _ => (H'.2.1 k hk).2.1) (fun _ _ => by omega) (fun q => absurd q ge) (fun _ a b => ?_) (fun _ a b c G1 => ?_) (fun _ a b c => ?_) (fun _ a => ?_)
    · rw [sh] at b
      rw [zG_U rfl, zWs (by omega)]
      refine ih _ _ _ (cSr_s I (v := 0) rfl (fun k' a _ _ => funext fun n => funext fun j => if_neg (fun q => a q.1)) ?_)
      unfold cRdv
      rw [if_neg (fun q => b (bit.mpr q.2.2))]
    · rw [sh] at b
      have a : σ.1 1 (16 * 0 + k) 5 ≤ (m : Int) ∧ (m : Int) < σ.1 1 (16 * 0 + k) 6 := a
      rw [f5, f6] at a
      rw [eTx] at c
      rw [show cWb (zG σ G) (6 * 0 + cTx (zG σ G) f (k : Int).toNat) (k : Int).toNat (m : Int).toNat 0 = uWb D k m 0 from cWb_eq O T6 H' hk hm]
      rw [zG_N2, zG_U rfl, zWs (by omega)]
      refine ih _ _ _ (cSr_s I (v := uWb D k m 0) rfl (fun k' a b c => funext fun n => funext fun j => ?_) ?_)
      · show (if k' = 16 ∧ _ ∧ _ then _ else (if k' = 44 then G1 44 else if k' = 45 then G1 45 else G k') n j) = _
        rw [if_neg (fun q => a q.1), if_neg b, if_neg c]
      · unfold cRdv
        rw [if_pos ⟨a.1, a.2, bit.mp b⟩, if_pos (show σ.1 7 (6 * 0 + cTx σ f k) 3 = 0 from c)]
    · rw [sh] at b
      have a : σ.1 1 (16 * 0 + k) 5 ≤ (m : Int) ∧ (m : Int) < σ.1 1 (16 * 0 + k) 6 := a
      rw [f5, f6] at a
      rw [eTx] at c
      rw [zG_U rfl, zWs (by omega)]
      refine ih _ _ _ (cSr_s I (v := -1) rfl (fun k' a _ _ => funext fun n => funext fun j => if_neg (fun q => a q.1)) ?_)
      unfold cRdv
      rw [if_pos ⟨a.1, a.2, bit.mp b⟩, if_neg (show ¬ σ.1 7 (6 * 0 + cTx σ f k) 3 = 0 from c)]
    · have a : ¬ (σ.1 1 (16 * 0 + k) 5 ≤ (m : Int) ∧ (m : Int) < σ.1 1 (16 * 0 + k) 6) := a
      rw [f5, f6] at a
      rw [zG_U rfl, zWs (by omega)]
      refine ih _ _ _ (cSr_s I (v := 0) rfl (fun k' a _ _ => funext fun n => funext fun j => if_neg (fun q => a q.1)) ?_)
      unfold cRdv
      rw [if_neg (fun q => a ⟨q.1, q.2.1⟩)]
