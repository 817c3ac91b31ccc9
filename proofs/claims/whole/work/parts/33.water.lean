-- a month down the reaches, in the class (wip/whole/gen/laws8.py)
-- X0_serve
theorem zb_13n {d : Nat} {σ : zS} {Q : Option zV → zS → Prop} {f : Nat} {r : Int} {m : Int} {a : Int}
    (o1 : (0 : Int) ≤ r ∧ r < (7 : Int))
    (h1 : zX (d + 12) 13 11 [some (.inr (.inr (0, f))), some (.inl r), some (.inl m), some (.inl a), some (.inr (.inr (4, 7 * f + r.toNat))), some (.inl 0), some (.inl 0), some (.inl a), none, none, none] [] σ Q) :
    zM (d + 12) 13 [.inr (.inr (0, f)), .inl r, .inl m, .inl a] σ Q := by
  refine zX_run (n' := 3) (ls' := [some (.inr (.inr (0, f))), some (.inl r), some (.inl m), some (.inl a), none, none, none, none, none, none, none]) (st' := [.inl r, .inr (.inr (11, f))]) (σ' := σ) 3 rfl ?_
  refine zX_ald5 (L := 7) rfl (by decide) rfl o1 ?_
  refine zX_run (n' := 11) (ls' := [some (.inr (.inr (0, f))), some (.inl r), some (.inl m), some (.inl a), some (.inr (.inr (4, 7 * f + r.toNat))), some (.inl 0), some (.inl 0), some (.inl a), none, none, none]) (st' := []) (σ' := σ) 7 rfl ?_
  exact h1
/-- what the class is told, as far as water goes: D; f the flow -/
def cDw (s : zS) (f : Nat) (D : uT) : Prop := (∀ r m, r < 7 → m < 96 → cSide s r m = D 0 (96 * r + m)) ∧ (∀ r, r < 7 → s.1 35 0 r = D 2 r ∧ cTh s r = D 3 r) ∧
  (∀ r, r < 7 → ¬ D 3 r = 0 → s.1 3 (7 * 0 + r) 1 = D 4 r ∧ s.1 3 (7 * 0 + r) 3 = D 6 r ∧ s.1 15 f r = D 7 r) ∧ s.1 8 0 8 = D 19 0 ∧ 0 ≤ D 19 0 ∧ (∀ h j, h < uN D → j < 7 → cH s h j = D (8 + j) h)
def cOrd (s : zS) (f : Nat) (D : uT) : Prop := ∀ i (hi : i < (uOrdC D).length), s.1 14 f i = ((uOrdC D)[i] : Int)
/-- a month's beginning -/
def cVin (s : zS) (f : Nat) (D V : uT) (m : Nat) : Prop := (∀ r, r < 7 → ¬ D 3 r = 0 → s.1 26 (7 * f + r) m = V 0 r ∧ s.1 27 (7 * f + r) m = V 1 r) ∧
  (0 < m → ∀ r, r < 7 → s.1 24 (7 * f + r) (m - 1) = uRet D V (r + 1) ∧ s.1 25 (7 * f + r) (m - 1) = uRetS D V (r + 1)) ∧ (m = 0 → ∀ r, uRet D V r = 0 ∧ uRetS D V r = 0)
def cRow (G : Nat → Nat → Nat → Int) (f : Nat) (D V : uT) (m r : Nat) : Prop := G 19 (7 * f + r) m = uCm D V m r (uAm D V m r) ∧ G 20 (7 * f + r) m = uCs D V m r (uAm D V m r) ∧ G 21 (7 * f + r) m = uWat D V m r (uAm D V m r) ∧ G 22 (7 * f + r) m = (uAm D V m (r + 1)).1 ∧ G 23 (7 * f + r) m = (uAm D V m (r + 1)).2.1 ∧
  G 24 (7 * f + r) m = uRet D (uNx D m V) (r + 1) ∧ G 25 (7 * f + r) m = uRetS D (uNx D m V) (r + 1) ∧ (¬ D 3 r = 0 → G 26 (7 * f + r) (m + 1) = uNx D m V 0 r ∧ G 27 (7 * f + r) (m + 1) = uNx D m V 1 r)
def cInv (σ : zS) (G : Nat → Nat → Nat → Int) (f : Nat) (D V : uT) (m r : Nat) : Prop :=
  (∀ n j, ¬ (n = f ∧ (j = 12 ∨ j = 13)) → G 0 n j = σ.1 0 n j) ∧
  (∀ k, 19 ≤ k → k ≤ 25 → ∀ n j, ¬ (j = m ∧ ∃ x, x < r ∧ n = 7 * f + x) → G k n j = σ.1 k n j) ∧
  (∀ k, k = 26 ∨ k = 27 → ∀ n j, ¬ (j = m + 1 ∧ ∃ x, x < r ∧ n = 7 * f + x) → G k n j = σ.1 k n j) ∧
  (∀ n j, ¬ (j = m ∧ ∃ h, h < uN D ∧ D 10 h < (r : Int) ∧ n = 16 * f + h) → G 18 n j = σ.1 18 n j) ∧
  (∀ k, ¬ k = 0 → ¬ (18 ≤ k ∧ k ≤ 27) → G k = σ.1 k) ∧
  (∀ x, x < r → cRow G f D V m x) ∧ (∀ h, h < uN D → D 10 h < (r : Int) → G 18 (16 * f + h) m = uNx D m V 2 h)
theorem uRet_0 {D V : uT} (O : uOk D) : uRet D V 0 = 0 ∧ uRetS D V 0 = 0 := by
  have h0 : ∀ h, h < uN D → ¬ D 10 h + 1 = ((0 : Nat) : Int) := fun h hh => by have := (O.2.2.2.2.2 h hh).2.2.1.1; omega
  constructor
  · unfold uRet; rw [uSum_congr (g := fun _ => 0) (fun h hh => if_neg (h0 h hh)), uSum_const]; omega
  · unfold uRetS; rw [uSum_congr (g := fun _ => 0) (fun h hh => if_neg (h0 h hh)), uSum_const]; omega
/-- a reach's holds in the class's order: a sum over them -/
theorem uLs_fil {f : Nat → Int} {p : Nat → Bool} : ∀ {L : List Nat}, uLs f (L.filter p) = uLs (fun h => if p h = true then f h else 0) L
  | [] => rfl
  | x :: L => by
    by_cases e : p x = true
    · rw [List.filter_cons_of_pos e]
      show f x + uLs f (L.filter p) = (if p x = true then f x else 0) + uLs _ L
      rw [if_pos e, uLs_fil]
    · rw [List.filter_cons_of_neg e]
      show uLs f (L.filter p) = (if p x = true then f x else 0) + uLs _ L
      rw [if_neg e, uLs_fil]; omega
theorem uLs_ordC {f : Nat → Int} {D : uT} : uLs f (uOrdC D) = uSum f (uN D) := by unfold uOrdC; rw [uLs_rev, uLs_srt]
theorem uSeg_sum {f : Nat → Int} {D : uT} {r : Nat} : uLs f ((uOrdC D).filter (uAt D r)) = uSum (fun h => if D 10 h + 1 = ((r + 1 : Nat) : Int) then f h else 0) (uN D) := by
  rw [uLs_fil, uLs_ordC]
  refine uSum_congr (fun h _ => ?_)
  unfold uAt
  by_cases e : D 10 h = (r : Int)
  · rw [if_pos (decide_eq_true e), if_pos (by omega)]
  · rw [if_neg (by simpa using e), if_neg (by omega)]
theorem List.get_mid {α : Type} {a b c : List α} {i : Nat} (hi : i < b.length) (hL : a.length + i < (a ++ (b ++ c)).length) : (a ++ (b ++ c))[a.length + i] = b[i] := by
  rw [List.getElem_append_right (by omega)]
  simp only [Nat.add_sub_cancel_left]
  rw [List.getElem_append_left hi]
theorem uAm_su {D V : uT} {m r : Nat} : uAm D V m (r + 1) = uSv (fun h => uWants D h m (uLevs D V)) ((uOrdC D).filter (uAt D r)) (uWat D V m r (uAm D V m r), uWs D V m r (uAm D V m r), (uAm D V m r).2.2.1, (uAm D V m r).2.2.2) := by
  show uServe D _ r (uOrd D) _ = _
  rw [uServe_ord, uSv_serve]
  · rfl
  · intro h hh; have := (List.mem_filter.mp hh).2; unfold uAt at this; exact of_decide_eq_true this
theorem uNx_2 {D V : uT} {m r h : Nat} (hr : r < 7) (hh : D 10 h = (r : Int)) : uNx D m V 2 h = (uAm D V m (r + 1)).2.2.1 h ∧ uNx D m V 3 h = (uAm D V m (r + 1)).2.2.2 h :=
  uA_st (by omega) (by omega)
/-- serve, from its entry -/
theorem zs_13 {d : Nat} {σ : zS} {Q : Option zV → zS → Prop} {f r m : Nat} {D V : uT} (O : uOk D) (hf : f < 2) (hr : r < 7) (hm : m < 96) (hV : uVk D V (m * 205236)) (T : cDw σ f D) (hO : cOrd σ f D)
    (hw : ∀ h, h < uN D → σ.1 17 (16 * f + h) m = uWants D h m (uLevs D V)) (e1 : σ.1 0 f 12 = uWat D V m r (uAm D V m r)) (e2 : σ.1 0 f 13 = uWs D V m r (uAm D V m r))
    (h : ∀ G : Nat → Nat → Nat → Int, (∀ n j, ¬ (n = f ∧ (j = 12 ∨ j = 13)) → G 0 n j = σ.1 0 n j) →
      (∀ h, h < uN D → D 10 h = (r : Int) → G 18 (16 * f + h) m = uNx D m V 2 h) → (∀ n' j, ¬ (j = m ∧ ∃ h, h < uN D ∧ D 10 h = (r : Int) ∧ n' = 16 * f + h) → G 18 n' j = σ.1 18 n' j) →
      (∀ n j, G 24 n j = if j = m ∧ n = 7 * f + r then uRet D (uNx D m V) (r + 1) else σ.1 24 n j) →
      (∀ n j, G 25 n j = if j = m ∧ n = 7 * f + r then uRetS D (uNx D m V) (r + 1) else σ.1 25 n j) →
      (∀ n j, G 22 n j = if j = m ∧ n = 7 * f + r then (uAm D V m (r + 1)).1 else σ.1 22 n j) →
      (∀ n j, G 23 n j = if j = m ∧ n = 7 * f + r then (uAm D V m (r + 1)).2.1 else σ.1 23 n j) →
      (∀ k, ¬ k = 0 → ¬ k = 18 → ¬ k = 22 → ¬ k = 23 → ¬ k = 24 → ¬ k = 25 → G k = σ.1 k) → Q (some (.inl (uPos D (r + 1) : Int))) (zG σ G)) :
    zM (d + 12) 13 [.inr (.inr (0, f)), .inl (r : Int), .inl (m : Int), .inl (uPos D r : Int)] σ Q := by
  obtain ⟨T1, T2, T3, T4, T5, T6⟩ := T
  have B := uBd O hm hr hV
  obtain ⟨tl, hL, htl, hpos⟩ := uPos_seg (D := D) r
  have hlen := uOrdC_len (D := D)
  have N16 := O.2.2.2.2.1
  have hseg : ∀ x, x ∈ (uOrdC D).filter (uAt D r) → x < uN D ∧ D 10 x = (r : Int) := fun x hx => ⟨uOrdC_mem.mp (List.mem_filter.mp hx).1, of_decide_eq_true (List.mem_filter.mp hx).2⟩
  have hTot : uN D = uPos D r + (((uOrdC D).filter (uAt D r)).length + tl.length) := by
    have := congrArg List.length hL
    rw [List.length_append, List.length_append, hlen] at this
    exact this
  have hcnt : σ.1 8 0 8 = (uN D : Int) := by rw [T4]; unfold uN; omega
  have hidx : ∀ i, i < ((uOrdC D).filter (uAt D r)).length + tl.length → ∃ hi : i < ((uOrdC D).filter (uAt D r) ++ tl).length, σ.1 14 f (uPos D r + i) = ((((uOrdC D).filter (uAt D r) ++ tl)[i] : Nat) : Int) := by
    intro i hi
    refine ⟨by rw [List.length_append]; exact hi, ?_⟩
    rw [hO (uPos D r + i) (by rw [hlen]; omega)]
    congr 1
    have e : ∀ (L : List Nat) (hL2 : L = (uOrdC D).filter (fun h => decide (D 10 h < (r : Int))) ++ ((uOrdC D).filter (uAt D r) ++ tl)) (hi2 : uPos D r + i < L.length) (hi3 : i < ((uOrdC D).filter (uAt D r) ++ tl).length), L[uPos D r + i] = ((uOrdC D).filter (uAt D r) ++ tl)[i] := by
      intro L hL2 hi2 hi3
      subst hL2
      rw [List.getElem_append_right (by show uPos D r ≤ _; omega)]
      congr 1
      show uPos D r + i - uPos D r = i
      omega
    exact e _ hL _ _
  refine zb_13n (by omega) ?_
  refine zs_13l (w := fun h => uWants D h m (uLevs D V)) (seg := (uOrdC D).filter (uAt D r)) (n := uPos D r) (q := (uWat D V m r (uAm D V m r), uWs D V m r (uAm D V m r), (uAm D V m r).2.2.1, (uAm D V m r).2.2.2)) hr hm N16 (fun i hi => ?_) (fun x hx => by have := hseg x hx; omega) (fun x hx => ?_) (List.Pairwise.filter _ uOrdC_nd) (by omega) hcnt ?_ (fun x hx => ?_) e1 e2 B.2.2.2.2.2.2.2.1 B.2.2.2.2.2.2.2.2.1 (by omega) (by omega) (fun G g1 g2 g3 g4 g5 g6 g7 g8 g9 => ?_)
  · obtain ⟨hi2, e⟩ := hidx i (by omega)
    rw [e, List.getElem_append_left hi]
  · have := hseg x hx
    rw [T6 x 2 this.1 (by omega)]; exact this.2
  · by_cases e : tl.length = 0
    · exact Or.inl (by omega)
    · right
      obtain ⟨hi2, e3⟩ := hidx ((uOrdC D).filter (uAt D r)).length (by omega)
      have hm2 : ((uOrdC D).filter (uAt D r) ++ tl)[((uOrdC D).filter (uAt D r)).length] ∈ tl := by
        rw [List.getElem_append_right (Nat.le_refl _)]
        exact List.getElem_mem _
      generalize hv : ((uOrdC D).filter (uAt D r) ++ tl)[((uOrdC D).filter (uAt D r)).length] = v at e3 hm2
      have hvn : v < uN D := by
        have : v ∈ uOrdC D := by rw [hL]; exact List.mem_append_right _ (List.mem_append_right _ hm2)
        exact uOrdC_mem.mp this
      have hvr := htl v hm2
      rw [e3]
      refine ⟨by omega, ?_⟩
      rw [Int.toNat_natCast, T6 v 2 hvn (by omega)]
      show ¬ D 10 v = _
      omega
  · have h1 := hseg x hx
    have w := uWants_b (lev := uLevs D V) O h1.1 hm
    have k := (O.2.2.2.2.2 x h1.1).1
    rw [T6 x 0 h1.1 (by omega)]
    exact ⟨hw x h1.1, ⟨w.1, w.2.1⟩, w.2.2, k.1, k.2⟩
  · rw [← hpos]
    rw [← uAm_su] at g1 g3 g5 g6 g7 g8
    have q2 : ∀ x, x ∈ (uOrdC D).filter (uAt D r) → (uAm D V m (r + 1)).2.2.1 x = uNx D m V 2 x := fun x hx => (uNx_2 hr (hseg x hx).2).1.symm
    have q3 : ∀ x, x ∈ (uOrdC D).filter (uAt D r) → (uAm D V m (r + 1)).2.2.2 x = uNx D m V 3 x := fun x hx => (uNx_2 hr (hseg x hx).2).2.symm
    have s5 : uLs (fun h => uGb (cH σ h 0) ((uAm D V m (r + 1)).2.2.1 h)) ((uOrdC D).filter (uAt D r)) = uRet D (uNx D m V) (r + 1) := by
      rw [uLs_congr (g := fun h => uBack D h (uNx D m V 2 h)) (fun x hx => by rw [q2 x hx, T6 x 0 (hseg x hx).1 (by omega)]; rfl), uSeg_sum]; rfl
    have s6 : uLs (uAm D V m (r + 1)).2.2.2 ((uOrdC D).filter (uAt D r)) = uRetS D (uNx D m V) (r + 1) := by
      rw [uLs_congr (g := fun h => uNx D m V 3 h) (fun x hx => q3 x hx), uSeg_sum]; rfl
    rw [s5] at g5
    rw [s6] at g6
    refine h G g2 (fun x hx hx2 => ?_) (fun n' j hn => g4 n' j (fun ⟨e, x, hx, e2⟩ => hn ⟨e, x, (hseg x hx).1, (hseg x hx).2, e2⟩)) (fun n j => by rw [g5, Int.zero_add]) (fun n j => by rw [g6, Int.zero_add]) g7 g8 g9
    have hx3 : x ∈ (uOrdC D).filter (uAt D r) := List.mem_filter.mpr ⟨uOrdC_mem.mpr hx, decide_eq_true hx2⟩
    rw [g3 x hx3, q2 x hx3]
theorem cInv_0 {σ : zS} {f m : Nat} {D V : uT} (O : uOk D) : cInv σ σ.1 f D V m 0 :=
  ⟨fun _ _ _ => rfl, fun _ _ _ _ _ _ => rfl, fun _ _ _ _ _ => rfl, fun _ _ _ => rfl, fun _ _ _ => rfl, fun _ h => absurd h (by omega), fun h hh hl => absurd hl (by have := (O.2.2.2.2.2 h hh).2.2.1.1; omega)⟩
theorem cDw_G {σ : zS} {G : Nat → Nat → Nat → Int} {f : Nat} {D : uT} (T : cDw σ f D) (h : ∀ r, r < 7 → G 15 f r = σ.1 15 f r) : cDw (zG σ G) f D :=
  ⟨T.1, T.2.1, fun r hr ht => ⟨(T.2.2.1 r hr ht).1, (T.2.2.1 r hr ht).2.1, (h r hr).trans (T.2.2.1 r hr ht).2.2⟩, T.2.2.2⟩
/-- gather and passLake at a reach, one behind the other: what they leave -/
def cMid (σ : zS) (G : Nat → Nat → Nat → Int) (f : Nat) (D V : uT) (m r : Nat) : Prop :=
  (G 0 f 12 = uWat D V m r (uAm D V m r) ∧ G 0 f 13 = uWs D V m r (uAm D V m r)) ∧ (∀ n j, ¬ (n = f ∧ (j = 12 ∨ j = 13)) → G 0 n j = σ.1 0 n j) ∧
  (∀ n j, G 19 n j = if j = m ∧ n = 7 * f + r then uCm D V m r (uAm D V m r) else σ.1 19 n j) ∧ (∀ n j, G 20 n j = if j = m ∧ n = 7 * f + r then uCs D V m r (uAm D V m r) else σ.1 20 n j) ∧
  (∀ n j, G 21 n j = if j = m ∧ n = 7 * f + r then uWat D V m r (uAm D V m r) else σ.1 21 n j) ∧
  (∀ k, k = 26 ∨ k = 27 → ∀ n j, ¬ (j = m + 1 ∧ n = 7 * f + r) → G k n j = σ.1 k n j) ∧ (¬ D 3 r = 0 → G 26 (7 * f + r) (m + 1) = uNx D m V 0 r ∧ G 27 (7 * f + r) (m + 1) = uNx D m V 1 r) ∧
  (∀ k, ¬ k = 0 → ¬ k = 19 → ¬ k = 20 → ¬ k = 21 → ¬ k = 26 → ¬ k = 27 → G k = σ.1 k)
theorem zs_12u {d : Nat} {σ τ : zS} {Q : Option zV → zS → Prop} {f r m : Nat} {D V : uT} {G1 : Nat → Nat → Nat → Int} (O : uOk D) (hr : r < 7) (hm : m < 96) (hV : uVk D V (m * 205236)) (T : cDw σ f D) (hl : ¬ D 3 r = 0 → σ.1 26 (7 * f + r) m = V 0 r ∧ σ.1 27 (7 * f + r) m = V 1 r)
    (hτ : τ = zG σ G1) (g1 : G1 0 f 12 = uCm D V m r (uAm D V m r) ∧ G1 0 f 13 = uCs D V m r (uAm D V m r)) (g2 : ∀ n j, ¬ (n = f ∧ (j = 12 ∨ j = 13)) → G1 0 n j = σ.1 0 n j)
    (g3 : ∀ n j, G1 19 n j = if j = m ∧ n = 7 * f + r then uCm D V m r (uAm D V m r) else σ.1 19 n j) (g4 : ∀ n j, G1 20 n j = if j = m ∧ n = 7 * f + r then uCs D V m r (uAm D V m r) else σ.1 20 n j) (g5 : ∀ k, ¬ k = 0 → ¬ k = 19 → ¬ k = 20 → G1 k = σ.1 k)
    (h : ∀ G : Nat → Nat → Nat → Int, cMid σ G f D V m r → Q none (zG σ G)) :
    zM (d + 12) 12 [.inr (.inr (0, f)), .inl (r : Int), .inl (m : Int)] τ Q := by
  subst hτ
  obtain ⟨T1, T2, T3, T4, T5, T6⟩ := T
  have B := uBd O hm hr hV
  have R := uReach_b (r := r) (q := uAm D V m r) O hr hm hV B.1.1 B.2.1.1
  by_cases ht : D 3 r = 0
  · refine zs_12n hr hm ((T2 r hr).2.trans ht) (fun G k1 k2 => ?_)
    rw [zG_H]
    have w1 : uWat D V m r (uAm D V m r) = uCm D V m r (uAm D V m r) := if_pos ht
    have w2 : uWs D V m r (uAm D V m r) = uCs D V m r (uAm D V m r) := if_pos ht
    have n0 : G 0 = G1 0 := k2 0 (by decide)
    refine h G ⟨⟨by rw [n0, w1]; exact g1.1, by rw [n0, w2]; exact g1.2⟩, fun n j hn => by rw [n0]; exact g2 n j hn, fun n j => by rw [show G 19 = G1 19 from k2 19 (by decide)]; exact g3 n j, fun n j => by rw [show G 20 = G1 20 from k2 20 (by decide)]; exact g4 n j, fun n j => ?_, fun k hk n j _ => ?_, fun q => absurd ht q, fun k a0 a1 a2 a3 a4 a5 => ?_⟩
    · rw [k1, w1]
      by_cases e : j = m ∧ n = 7 * f + r
      · rw [if_pos e, if_pos e]; exact g1.1
      · rw [if_neg e, if_neg e]; exact congrFun (congrFun (g5 21 (by decide) (by decide) (by decide)) n) j
    · rcases hk with rfl | rfl
      · rw [show G 26 = G1 26 from k2 26 (by decide)]; exact congrFun (congrFun (g5 26 (by decide) (by decide) (by decide)) n) j
      · rw [show G 27 = G1 27 from k2 27 (by decide)]; exact congrFun (congrFun (g5 27 (by decide) (by decide) (by decide)) n) j
    · refine (k2 k a3).trans ?_
      show (if fk k = true then G1 k else σ.1 k) = σ.1 k
      split
      · exact g5 k a0 a1 a2
      · rfl
  · obtain ⟨t1, t2, t3⟩ := T3 r hr ht
    obtain ⟨v1, v2⟩ := hl ht
    have L := O.2.2.2.1 r hr ht
    have v0 := (hV.1 r hr).2.1 ht
    have vk := hV.1 r hr
    have w1 : uWat D V m r (uAm D V m r) = uOut D V m r (uAm D V m r) := if_neg ht
    have w2 : uWs D V m r (uAm D V m r) = uOutS D V m r (uAm D V m r) := if_neg ht
    have w3 : uNx D m V 0 r = uIn D V m r (uAm D V m r) - uOut D V m r (uAm D V m r) := if_neg ht
    have w4 : uNx D m V 1 r = uInS D V m r (uAm D V m r) - uOutS D V m r (uAm D V m r) := if_neg ht
    have ib := B.2.2.2.2.2.2.2.2.2
    unfold uInS at ib
    obtain ⟨L1, L2, L3, L4, L5, L6, L7⟩ := L
    have ht2 : ¬ cTh (zG σ G1) r = 0 := fun q => ht ((T2 r hr).2.symm.trans q)
    have q26 : (zG σ G1).1 26 (7 * f + r) m = V 0 r := by rw [show (zG σ G1).1 26 = G1 26 from rfl, g5 26 (by decide) (by decide) (by decide)]; exact v1
    have q27 : (zG σ G1).1 27 (7 * f + r) m = V 1 r := by rw [show (zG σ G1).1 27 = G1 27 from rfl, g5 27 (by decide) (by decide) (by decide)]; exact v2
    have q15 : (zG σ G1).1 15 f r = D 7 r := by rw [show (zG σ G1).1 15 = G1 15 from rfl, g5 15 (by decide) (by decide) (by decide)]; exact t3
    refine zs_12y (lev := V 0 r) (lsl := V 1 r) (cm := uCm D V m r (uAm D V m r)) (cs := uCs D V m r (uAm D V m r)) (room := D 4 r) (surf := D 6 r) (rel := D 7 r) (inn := uIn D V m r (uAm D V m r)) (out := uOut D V m r (uAm D V m r)) (outS := uOutS D V m r (uAm D V m r)) hr hm ht2 q26 q27 g1.1 g1.2 t1 t2 q15 ⟨v0.1, by omega⟩ ⟨vk.2.2, B.2.2.2.2.2.1.1, ib.2⟩ B.2.2.2.2.1 ⟨by omega, L3⟩ ⟨L4, L5⟩ ⟨L6, L7⟩ rfl rfl rfl (fun G k1 k2 k3 k4 k5 k6 => ?_)
    rw [zG_H]
    refine h G ⟨by rw [w1, w2]; exact k1, fun n j hn => (k2 n j hn).trans (g2 n j hn), fun n j => by rw [show G 19 = G1 19 from k6 19 (by decide) (by decide) (by decide) (by decide)]; exact g3 n j, fun n j => by rw [show G 20 = G1 20 from k6 20 (by decide) (by decide) (by decide) (by decide)]; exact g4 n j, fun n j => ?_, fun k hk n j hn => ?_, fun _ => ⟨?_, ?_⟩, fun k a0 a1 a2 a3 a4 a5 => ?_⟩
    · rw [k3, w1]
      by_cases e : j = m ∧ n = 7 * f + r
      · rw [if_pos e, if_pos e]
      · rw [if_neg e, if_neg e]; exact congrFun (congrFun (g5 21 (by decide) (by decide) (by decide)) n) j
    · rcases hk with rfl | rfl
      · rw [k4, if_neg hn]; exact congrFun (congrFun (g5 26 (by decide) (by decide) (by decide)) n) j
      · rw [k5, if_neg hn]; exact congrFun (congrFun (g5 27 (by decide) (by decide) (by decide)) n) j
    · rw [k4, if_pos ⟨rfl, rfl⟩, w3]
    · rw [k5, if_pos ⟨rfl, rfl⟩, w4]; rfl
    · refine (k6 k a0 a3 a4 a5).trans ?_
      show (if fk k = true then G1 k else σ.1 k) = σ.1 k
      split
      · exact g5 k a0 a1 a2
      · rfl
set_option maxHeartbeats 1000000 in
theorem zs_7s {d : Nat} {σ : zS} {Q : Option zV → zS → Prop} {f m r : Nat} {D V : uT} (O : uOk D) (hf : f < 2) (hm : m < 96) (hr : r < 7) (hV : uVk D V (m * 205236)) (T : cDw σ f D) (hO : cOrd σ f D) (hI : cVin σ f D V m)
    (hw : ∀ h, h < uN D → σ.1 17 (16 * f + h) m = uWants D h m (uLevs D V)) {G : Nat → Nat → Nat → Int} (I : cInv σ G f D V m r)
    (h : ∀ G' : Nat → Nat → Nat → Int, cInv σ G' f D V m (r + 1) → zX (d + 13) 7 4 [some (.inr (.inr (0, f))), some (.inl (m : Int)), some (.inl (uPos D (r + 1) : Int)), some (.inl ((r + 1 : Nat) : Int))] [] (zG σ G') Q) :
    zX (d + 13) 7 4 [some (.inr (.inr (0, f))), some (.inl (m : Int)), some (.inl (uPos D r : Int)), some (.inl (r : Int))] [] (zG σ G) Q := by
  obtain ⟨I1, I2, I3, I4, I5, I6, I7⟩ := I
  have B := uBd O hm hr hV
  have S := O.1 r m hr hm
  have Rt := O.2.2.1 r hr
  obtain ⟨T1, T2, T3, T4, T5, T6⟩ := T
  have T : cDw σ f D := ⟨T1, T2, T3, T4, T5, T6⟩
  have u0 := uRet_0 (V := V) O
  refine zX_run (n' := 6) (ls' := [some (.inr (.inr (0, f))), some (.inl (m : Int)), some (.inl (uPos D r : Int)), some (.inl (r : Int))]) (st' := [.inl 7, .inl (r : Int)]) (σ' := zG σ G) 2 rfl ?_
  refine zX_c3 rfl (fun q => absurd q (by omega)) (fun _ => ?_)
  refine zX_run (n' := 10) (ls' := [some (.inr (.inr (0, f))), some (.inl (m : Int)), some (.inl (uPos D r : Int)), some (.inl (r : Int))]) (st' := [.inl (m : Int), .inl (r : Int), .inr (.inr (0, f))]) (σ' := zG σ G) 3 rfl ?_
  refine zX_call rfl rfl ?_
  refine zs_11 (σ := zG σ G) (sd := D 0 (96 * r + m)) (rt := D 2 r) (ret := uRet D V r) (on := (uAm D V m r).1) (os := (uAm D V m r).2.1) (rs := uRetS D V r) hr hm (T1 r m hr hm) (T2 r hr).1 ?_ ?_ ?_ ?_ ?_ S Rt B.2.2.1 B.1 B.2.1 B.2.2.2.1 (fun G1 k1 k2 k3 k4 k5 => ?_)
  · unfold cRet
    by_cases e : r = 0 ∨ m = 0
    · rw [if_pos e]
      rcases e with e | e
      · rw [e]; exact u0.1.symm
      · exact (hI.2.2 e r).1.symm
    · rw [if_neg e]
      have := (hI.2.1 (by omega) (r - 1) (by omega)).1
      rw [show (zG σ G).1 24 = G 24 from rfl, I2 24 (by decide) (by decide) _ _ (by omega), this, show r - 1 + 1 = r by omega]
  · intro r0
    have := I6 (r - 1) (by omega)
    have e : r - 1 + 1 = r := by omega
    refine ⟨?_, ?_⟩
    · rw [show (zG σ G).1 22 = G 22 from rfl, this.2.2.2.1, e]
    · rw [show (zG σ G).1 23 = G 23 from rfl, this.2.2.2.2.1, e]
  · intro e; subst e; exact ⟨rfl, rfl⟩
  · intro r0 m0
    have := (hI.2.1 m0 (r - 1) (by omega)).2
    rw [show (zG σ G).1 25 = G 25 from rfl, I2 25 (by decide) (by decide) _ _ (by omega), this, show r - 1 + 1 = r by omega]
  · intro e
    rcases e with e | e
    · rw [e]; exact u0.2
    · exact (hI.2.2 e r).2
  rw [zG_H]
  refine zX_run (n' := 14) (ls' := [some (.inr (.inr (0, f))), some (.inl (m : Int)), some (.inl (uPos D r : Int)), some (.inl (r : Int))]) (st' := [.inl (m : Int), .inl (r : Int), .inr (.inr (0, f))]) (σ' := zG σ G1) 3 rfl ?_
  refine zX_call rfl rfl ?_
  have kc : uCm D V m r (uAm D V m r) = (uAm D V m r).1 + D 0 (96 * r + m) + uRet D V r := rfl
  have ks : uCs D V m r (uAm D V m r) = D 0 (96 * r + m) * D 2 r / 1000 + (uAm D V m r).2.1 + uRetS D V r := rfl
  rw [← kc, ← ks] at k1
  rw [← kc] at k3
  rw [← ks] at k4
  have TG : cDw (zG σ G) f D := cDw_G T (fun x hx => congrFun (congrFun (I5 15 (by decide) (by decide)) f) x)
  refine zs_12u (σ := zG σ G) (G1 := G1) O hr hm hV TG (fun ht => ?_) (zG_H.symm) k1 k2 k3 k4 k5 (fun G2 M => ?_)
  · have := hI.1 r hr ht
    rw [show (zG σ G).1 26 = G 26 from rfl, show (zG σ G).1 27 = G 27 from rfl, I3 26 (Or.inl rfl) _ _ (by omega), I3 27 (Or.inr rfl) _ _ (by omega)]
    exact this
  rw [zG_H]
  obtain ⟨M1, M2, M3, M4, M5, M6, M7, M8⟩ := M
  refine zX_run (n' := 19) (ls' := [some (.inr (.inr (0, f))), some (.inl (m : Int)), some (.inl (uPos D r : Int)), some (.inl (r : Int))]) (st' := [.inl (uPos D r : Int), .inl (m : Int), .inl (r : Int), .inr (.inr (0, f))]) (σ' := zG σ G2) 4 rfl ?_
  refine zX_call rfl rfl ?_
  have gk : ∀ k, fk k = true → (zG σ G).1 k = G k := fun k hk => zG_k hk
  have m14 : G2 14 = G 14 := M8 14 (by decide) (by decide) (by decide) (by decide) (by decide) (by decide)
  have m15 : G2 15 = G 15 := M8 15 (by decide) (by decide) (by decide) (by decide) (by decide) (by decide)
  have m17 : G2 17 = G 17 := M8 17 (by decide) (by decide) (by decide) (by decide) (by decide) (by decide)
  have m18 : G2 18 = G 18 := M8 18 (by decide) (by decide) (by decide) (by decide) (by decide) (by decide)
  have m22 : G2 22 = G 22 := M8 22 (by decide) (by decide) (by decide) (by decide) (by decide) (by decide)
  have m23 : G2 23 = G 23 := M8 23 (by decide) (by decide) (by decide) (by decide) (by decide) (by decide)
  have m24 : G2 24 = G 24 := M8 24 (by decide) (by decide) (by decide) (by decide) (by decide) (by decide)
  have m25 : G2 25 = G 25 := M8 25 (by decide) (by decide) (by decide) (by decide) (by decide) (by decide)
  refine zs_13 (σ := zG σ G2) O hf hr hm hV (cDw_G T (fun x hx => by rw [m15]; exact congrFun (congrFun (I5 15 (by decide) (by decide)) f) x)) (fun i hi => ?_) (fun x hx => ?_) M1.1 M1.2 (fun G3 p1 p2 p3 p4 p5 p6 p7 p8 => ?_)
  · rw [show (zG σ G2).1 14 = G2 14 from rfl, m14, I5 14 (by decide) (by decide)]; exact hO i hi
  · rw [show (zG σ G2).1 17 = G2 17 from rfl, m17, I5 17 (by decide) (by decide)]; exact hw x hx
  rw [zG_H]
  refine zX_run (n' := 4) (ls' := [some (.inr (.inr (0, f))), some (.inl (m : Int)), some (.inl (uPos D (r + 1) : Int)), some (.inl (zW ((r : Int) + 1)))]) (st' := []) (σ' := zG σ G3) 3 rfl ?_
  rw [zWs (by omega)]
  have r7 : ∀ {n : Nat}, (n = 7 * f + r) → ∃ x, x < r + 1 ∧ n = 7 * f + x := fun e => ⟨r, by omega, e⟩
  have sub : ∀ {n : Nat}, (∃ x, x < r ∧ n = 7 * f + x) → ∃ x, x < r + 1 ∧ n = 7 * f + x := fun ⟨x, hx, e⟩ => ⟨x, by omega, e⟩
  have q19 : G3 19 = G2 19 := p8 19 (by decide) (by decide) (by decide) (by decide) (by decide) (by decide)
  have q20 : G3 20 = G2 20 := p8 20 (by decide) (by decide) (by decide) (by decide) (by decide) (by decide)
  have q21 : G3 21 = G2 21 := p8 21 (by decide) (by decide) (by decide) (by decide) (by decide) (by decide)
  have q26 : G3 26 = G2 26 := p8 26 (by decide) (by decide) (by decide) (by decide) (by decide) (by decide)
  have q27 : G3 27 = G2 27 := p8 27 (by decide) (by decide) (by decide) (by decide) (by decide) (by decide)
  have keep : ∀ k, 19 ≤ k → k ≤ 25 → ∀ n j, ¬ (j = m ∧ n = 7 * f + r) → G3 k n j = G k n j := by
    intro k h1 h2 n j hn
    rcases (show k = 19 ∨ k = 20 ∨ k = 21 ∨ k = 22 ∨ k = 23 ∨ k = 24 ∨ k = 25 by omega) with rfl | rfl | rfl | rfl | rfl | rfl | rfl
    · rw [q19, M3, if_neg hn]; rfl
    · rw [q20, M4, if_neg hn]; rfl
    · rw [q21, M5, if_neg hn]; rfl
    · rw [p6, if_neg hn]; exact congrFun (congrFun m22 n) j
    · rw [p7, if_neg hn]; exact congrFun (congrFun m23 n) j
    · rw [p4, if_neg hn]; exact congrFun (congrFun m24 n) j
    · rw [p5, if_neg hn]; exact congrFun (congrFun m25 n) j
  have keep2 : ∀ k, k = 26 ∨ k = 27 → ∀ n j, ¬ (j = m + 1 ∧ n = 7 * f + r) → G3 k n j = G k n j := by
    intro k hk n j hn
    have := M6 k hk n j hn
    rcases hk with rfl | rfl
    · rw [q26, this]; rfl
    · rw [q27, this]; rfl
  refine h G3 ⟨fun n j hn => (p1 n j hn).trans ((M2 n j hn).trans (I1 n j hn)), fun k h1 h2 n j hn => ?_, fun k hk n j hn => ?_, fun n j hn => ?_, fun k h0 h1 => ?_, fun x hx => ?_, fun x hx hl => ?_⟩
  · rw [keep k h1 h2 n j (fun q => hn ⟨q.1, r7 q.2⟩)]
    exact I2 k h1 h2 n j (fun q => hn ⟨q.1, sub q.2⟩)
  · rw [keep2 k hk n j (fun q => hn ⟨q.1, r7 q.2⟩)]
    exact I3 k hk n j (fun q => hn ⟨q.1, sub q.2⟩)
  · rw [p3 n j (fun ⟨e, x, h1, h2, h3⟩ => hn ⟨e, x, h1, by omega, h3⟩)]
    rw [show (zG σ G2).1 18 = G2 18 from rfl, m18]
    exact I4 n j (fun ⟨e, x, h1, h2, h3⟩ => hn ⟨e, x, h1, by omega, h3⟩)
  · have a := p8 k h0 (by omega) (by omega) (by omega) (by omega) (by omega)
    rw [a]
    by_cases hk : fk k = true
    · rw [zG_k hk, M8 k h0 (by omega) (by omega) (by omega) (by omega) (by omega), gk k hk]; exact I5 k h0 h1
    · show (if fk k = true then G2 k else σ.1 k) = σ.1 k; rw [if_neg hk]
  · by_cases e : x = r
    · subst e
      refine ⟨?_, ?_, ?_, ?_, ?_, ?_, ?_, fun ht => ?_⟩
      · rw [q19, M3, if_pos ⟨rfl, rfl⟩]
      · rw [q20, M4, if_pos ⟨rfl, rfl⟩]
      · rw [q21, M5, if_pos ⟨rfl, rfl⟩]
      · rw [p6, if_pos ⟨rfl, rfl⟩]
      · rw [p7, if_pos ⟨rfl, rfl⟩]
      · rw [p4, if_pos ⟨rfl, rfl⟩]
      · rw [p5, if_pos ⟨rfl, rfl⟩]
      · rw [q26, q27]; exact M7 ht
    · obtain ⟨c1, c2, c3, c4, c5, c6, c7, c8⟩ := I6 x (by omega)
      have ne : ¬ (m = m ∧ 7 * f + x = 7 * f + r) := by omega
      have ne2 : ¬ (m + 1 = m + 1 ∧ 7 * f + x = 7 * f + r) := by omega
      refine ⟨?_, ?_, ?_, ?_, ?_, ?_, ?_, fun ht => ?_⟩
      · rw [keep 19 (by decide) (by decide) _ _ ne]; exact c1
      · rw [keep 20 (by decide) (by decide) _ _ ne]; exact c2
      · rw [keep 21 (by decide) (by decide) _ _ ne]; exact c3
      · rw [keep 22 (by decide) (by decide) _ _ ne]; exact c4
      · rw [keep 23 (by decide) (by decide) _ _ ne]; exact c5
      · rw [keep 24 (by decide) (by decide) _ _ ne]; exact c6
      · rw [keep 25 (by decide) (by decide) _ _ ne]; exact c7
      · rw [keep2 26 (Or.inl rfl) _ _ ne2, keep2 27 (Or.inr rfl) _ _ ne2]; exact c8 ht
  · by_cases e : D 10 x = (r : Int)
    · exact p2 x hx e
    · rw [p3 (16 * f + x) m (fun ⟨_, y, h1, h2, h3⟩ => e (by rw [show x = y by omega]; exact h2)), show (zG σ G2).1 18 = G2 18 from rfl, m18]
      exact I7 x hx (by omega)
theorem zs_7 {d : Nat} {σ : zS} {Q : Option zV → zS → Prop} {f m : Nat} {D V : uT} (O : uOk D) (hf : f < 2) (hm : m < 96) (hV : uVk D V (m * 205236)) (T : cDw σ f D) (hO : cOrd σ f D) (hI : cVin σ f D V m)
    (hw : ∀ h, h < uN D → σ.1 17 (16 * f + h) m = uWants D h m (uLevs D V))
    (h : ∀ G' : Nat → Nat → Nat → Int, cInv σ G' f D V m 7 → Q none (zG σ G')) :
    zM (d + 13) 7 [.inr (.inr (0, f)), .inl (m : Int)] σ Q := by
  have p0 := uPos_0 (D := D) (fun x hx => (O.2.2.2.2.2 x hx).2.2.1.1)
  refine zX_run (n' := 4) (ls' := [some (.inr (.inr (0, f))), some (.inl (m : Int)), some (.inl 0), some (.inl 0)]) (st' := []) (σ' := σ) 4 rfl ?_
  have L := zLoop (P := fun r => ∀ G : Nat → Nat → Nat → Int, cInv σ G f D V m r → zX (d + 13) 7 4 [some (.inr (.inr (0, f))), some (.inl (m : Int)), some (.inl (uPos D r : Int)), some (.inl (r : Int))] [] (zG σ G) Q) (k := 0) (N := 7) (by omega) (fun G I => by
    refine zX_run (n' := 6) (ls' := [some (.inr (.inr (0, f))), some (.inl (m : Int)), some (.inl (uPos D 7 : Int)), some (.inl 7)]) (st' := [.inl 7, .inl 7]) (σ' := zG σ G) 2 rfl ?_
    refine zX_c3 rfl (fun _ => ?_) (fun q => absurd (by decide) q)
    exact zX_ret0 rfl rfl (h G I)) (fun r _ hr ih G I => zs_7s O hf hm hr hV T hO hI hw I ih)
  have := L σ.1 (cInv_0 O)
  rw [p0, ← zG_self] at this
  exact this
