-- sums of all months (wip/whole/gen/laws47.py)
def vPow (D : uT) (r m : Nat) : Int := zW (zW ((uV D m 0 r).tdiv 100) * uOut D (uV D m) m r (uAm D (uV D m) m r))
def vP (D : uT) (w : Int) (r m : Nat) : Int := if w = 0 then (if r = 6 then vOn D r m else 0) else if w = 1 then D 0 (96 * r + m) else if w = 2 then uWat D (uV D m) m r (uAm D (uV D m) m r) - vOn D r m else if w = 3 then (if D 3 r = 0 then 0 else uStm D (uV D m) r) else if w = 4 then uRet D (uV D m) r else if w = 5 then (if r = 6 then uRet D (uV D (m + 1)) (r + 1) else 0) else if w = 6 then (if ¬ r = 6 ∧ m = 95 then uRet D (uV D (m + 1)) (r + 1) else 0) else (if D 3 r = 0 then 0 else vPow D r m)
def vQ (D : uT) (w : Int) (m r : Nat) : Int := if w = 1 then D 0 (96 * r + m) else if w = 3 then (if D 3 r = 0 then 0 else uStm D (uV D m) r) else if w = 4 then uRet D (uV D m) r else if w = 7 then (if D 3 r = 0 then 0 else vPow D r m) else 0
def vT (D : uT) (w : Int) (m h : Nat) : Int := if w = 2 then uV D (m + 1) 2 h else if w = 5 then (if D 10 h = 6 then uBack D h (uV D (m + 1) 2 h) else 0) else if w = 6 then (if D 10 h < 6 ∧ m = 95 then uBack D h (uV D (m + 1) 2 h) else 0) else 0
def vZ (D : uT) (w : Int) (m : Nat) : Int := if w = 0 then vOn D 6 m else 0
def vMon (D : uT) (w : Int) (m : Nat) : Int := vZ D w m + uSum (vQ D w m) 7 + uSum (vT D w m) (uN D)
theorem uSum_0 {n : Nat} : uSum (fun _ => 0) n = 0 := by rw [uSum_const, Int.mul_zero]
theorem uSum_z {f : Nat → Int} {n : Nat} (h : ∀ k, k < n → f k = 0) : uSum f n = 0 := (uSum_congr h).trans uSum_0
theorem uSum_sw {f : Nat → Nat → Int} {n : Nat} : ∀ {k : Nat}, uSum (fun r => uSum (fun m => f r m) n) k = uSum (fun m => uSum (fun r => f r m) k) n
  | 0 => uSum_0.symm
  | k + 1 => by
    show uSum (fun r => uSum (fun m => f r m) n) k + uSum (fun m => f k m) n = _
    rw [uSum_sw (k := k), ← uSum_add]
    rfl
theorem uSum_pk {x g : Int} {p : Nat → Prop} [DecidablePred p] : ∀ {n : Nat}, uSum (fun r => if x = (r : Int) ∧ p r then g else 0) n = if (0 ≤ x ∧ x < (n : Int)) ∧ p x.toNat then g else 0
  | 0 => by rw [if_neg (by omega)]; rfl
  | n + 1 => by
    show uSum _ n + (if x = (n : Int) ∧ p n then g else 0) = _
    rw [uSum_pk (n := n)]
    by_cases e : x = (n : Int)
    · subst e
      rw [if_neg (by omega)]
      rw [Int.toNat_natCast]
      by_cases q : p n
      · rw [if_pos ⟨rfl, q⟩, if_pos ⟨by omega, q⟩]; omega
      · rw [if_neg (fun k => q k.2), if_neg (fun k => q k.2)]; rfl
    · rw [if_neg (c := x = (n : Int) ∧ p n) (fun k => e k.1)]
      by_cases q : (0 ≤ x ∧ x < (n : Int)) ∧ p x.toNat
      · rw [if_pos q, if_pos ⟨by omega, q.2⟩]; omega
      · rw [if_neg q, if_neg (fun k => q ⟨by omega, k.2⟩)]; rfl
/-- the water that the holds of a reach take -/
theorem uServe_w {D : uT} {w : Nat → Int} {r : Nat} : ∀ {L : List Nat} {q : uQ}, L.Nodup →
    (uServe D w r L q).1 + uLs (fun x => if D 10 x = (r : Int) then (uServe D w r L q).2.2.1 x else 0) L = q.1
  | [], q, nd => Int.add_zero _
  | h :: L, q, nd => by
    rw [List.nodup_cons] at nd
    by_cases hr : D 10 h = (r : Int)
    · have eS : uServe D w r (h :: L) q = uServe D w r L (uTake (w h) h q) := by
        show uServe D w r L (if D 10 h = (r : Int) then uTake (w h) h q else q) = _
        rw [if_pos hr]
      have I := uServe_w (D := D) (w := w) (r := r) (L := L) (q := uTake (w h) h q) nd.2
      rw [eS]
      show _ + ((if D 10 h = (r : Int) then _ else 0) + uLs _ L) = _
      rw [if_pos hr, (uServe_o (Or.inr nd.1)).1]
      have e2 : (uTake (w h) h q).1 = q.1 - uMin (w h) q.1 := rfl
      have e3 : (uTake (w h) h q).2.2.1 h = uMin (w h) q.1 := if_pos rfl
      rw [e2] at I
      rw [e3]
      omega
    · have eS : uServe D w r (h :: L) q = uServe D w r L q := by
        show uServe D w r L (if D 10 h = (r : Int) then uTake (w h) h q else q) = _
        rw [if_neg hr]
      have I := uServe_w (D := D) (w := w) (r := r) (L := L) (q := q) nd.2
      rw [eS]
      show _ + ((if D 10 h = (r : Int) then _ else 0) + uLs _ L) = _
      rw [if_neg hr]
      omega
theorem vW_g {D : uT} {r m : Nat} (hr : r < 7) : uWat D (uV D m) m r (uAm D (uV D m) m r) - vOn D r m = uSum (fun h => if D 10 h = (r : Int) ∧ True then uV D (m + 1) 2 h else 0) (uN D) := by
  have S := uServe_w (D := D) (w := fun h => uWants D h m (uLevs D (uV D m))) (r := r) (L := uOrd D) (q := (uWat D (uV D m) m r (uAm D (uV D m) m r), uWs D (uV D m) m r (uAm D (uV D m) m r), (uAm D (uV D m) m r).2.2.1, (uAm D (uV D m) m r).2.2.2)) uOrd_nd
  rw [uLs_ord] at S
  have e : ∀ h, h < uN D → (if D 10 h = (r : Int) ∧ True then uV D (m + 1) 2 h else 0) = if D 10 h = (r : Int) then (uServe D (fun h => uWants D h m (uLevs D (uV D m))) r (uOrd D) (uWat D (uV D m) m r (uAm D (uV D m) m r), uWs D (uV D m) m r (uAm D (uV D m) m r), (uAm D (uV D m) m r).2.2.1, (uAm D (uV D m) m r).2.2.2)).2.2.1 h else 0 := fun h _ => by
    by_cases c : D 10 h = (r : Int)
    · rw [if_pos ⟨c, trivial⟩, if_pos c]
      exact (uA_st (r := r + 1) (r2 := 7) (by omega) (by omega)).1
    · rw [if_neg (fun k => c k.1), if_neg c]
  rw [uSum_congr e]
  have e4 : vOn D r m = (uServe D (fun h => uWants D h m (uLevs D (uV D m))) r (uOrd D) (uWat D (uV D m) m r (uAm D (uV D m) m r), uWs D (uV D m) m r (uAm D (uV D m) m r), (uAm D (uV D m) m r).2.2.1, (uAm D (uV D m) m r).2.2.2)).1 := rfl
  rw [e4]
  exact Int.sub_eq_iff_eq_add'.mpr S.symm
theorem vMon_eq {D : uT} {w : Int} {m : Nat} (O : uOk D) (hw : 0 ≤ w ∧ w ≤ 7) : uSum (fun r => vP D w r m) 7 = vMon D w m := by
  have T0 : ∀ w, ¬ w = 2 → ¬ w = 5 → ¬ w = 6 → uSum (vT D w m) (uN D) = 0 := fun w a b c => uSum_z (fun h _ => by unfold vT; rw [if_neg a, if_neg b, if_neg c])
  have Q0 : ∀ w, ¬ w = 1 → ¬ w = 3 → ¬ w = 4 → ¬ w = 7 → uSum (vQ D w m) 7 = 0 := fun w a b c d => uSum_z (fun h _ => by unfold vQ; rw [if_neg a, if_neg b, if_neg c, if_neg d])
  have rb : ∀ h, h < uN D → 0 ≤ D 10 h ∧ D 10 h < 7 := fun h hh => by have := (O.2.2.2.2.2 h hh).2.2.1; omega
  have z : ∀ r : Nat, ((r + 1 : Nat) : Int) = (r : Int) + 1 := fun r => by omega
  unfold vMon
  rcases (show w = 0 ∨ w = 1 ∨ w = 2 ∨ w = 3 ∨ w = 4 ∨ w = 5 ∨ w = 6 ∨ w = 7 by omega) with rfl | rfl | rfl | rfl | rfl | rfl | rfl | rfl
  · rw [T0 _ (by decide) (by decide) (by decide), Q0 _ (by decide) (by decide) (by decide) (by decide)]
    show uSum _ 6 + vOn D 6 m = vOn D 6 m + 0 + 0
    have e : uSum (fun r => vP D 0 r m) 6 = 0 := uSum_z (fun r hr => show (if r = 6 then vOn D r m else 0) = 0 from if_neg (by omega))
    rw [e]
    omega
  · rw [T0 _ (by decide) (by decide) (by decide)]
    show uSum (vQ D 1 m) 7 = 0 + uSum (vQ D 1 m) 7 + 0
    omega
  · rw [Q0 _ (by decide) (by decide) (by decide) (by decide)]
    show uSum (fun r => uWat D (uV D m) m r (uAm D (uV D m) m r) - vOn D r m) 7 = 0 + 0 + uSum (fun h => uV D (m + 1) 2 h) (uN D)
    rw [uSum_congr (fun r hr => vW_g hr), uSum_sw]
    rw [uSum_congr (g := fun h => uV D (m + 1) 2 h) (fun h hh => (uSum_pk (p := fun _ => True)).trans (if_pos ⟨rb h hh, trivial⟩))]
    omega
  · rw [T0 _ (by decide) (by decide) (by decide)]
    show uSum (vQ D 3 m) 7 = 0 + uSum (vQ D 3 m) 7 + 0
    omega
  · rw [T0 _ (by decide) (by decide) (by decide)]
    show uSum (vQ D 4 m) 7 = 0 + uSum (vQ D 4 m) 7 + 0
    omega
  · rw [Q0 _ (by decide) (by decide) (by decide) (by decide)]
    show uSum _ 6 + uRet D (uV D (m + 1)) 7 = 0 + 0 + uSum (fun h => if D 10 h = 6 then uBack D h (uV D (m + 1) 2 h) else 0) (uN D)
    have e : uSum (fun r => vP D 5 r m) 6 = 0 := uSum_z (fun r hr => show (if r = 6 then uRet D (uV D (m + 1)) (r + 1) else 0) = 0 from if_neg (by omega))
    rw [e]
    unfold uRet
    rw [uSum_congr (g := fun h => if D 10 h = 6 then uBack D h (uV D (m + 1) 2 h) else 0) (fun h hh => by
      by_cases c : D 10 h = 6
      · rw [if_pos c, if_pos (by omega)]
      · rw [if_neg c, if_neg (by omega)])]
    omega
  · rw [Q0 _ (by decide) (by decide) (by decide) (by decide)]
    show uSum (fun r => if ¬ r = 6 ∧ m = 95 then uRet D (uV D (m + 1)) (r + 1) else 0) 7 = 0 + 0 + uSum (fun h => if D 10 h < 6 ∧ m = 95 then uBack D h (uV D (m + 1) 2 h) else 0) (uN D)
    by_cases c : m = 95
    · rw [uSum_congr (g := fun r => uSum (fun h => if D 10 h = (r : Int) ∧ ¬ r = 6 then uBack D h (uV D (m + 1) 2 h) else 0) (uN D)) (fun r hr => by
        by_cases c6 : r = 6
        · rw [if_neg (fun k => k.1 c6)]
          exact (uSum_z (fun h _ => if_neg (fun k => k.2 c6))).symm
        · rw [if_pos ⟨c6, c⟩]
          unfold uRet
          exact uSum_congr (fun h hh => by
            rw [z]
            by_cases c7 : D 10 h = (r : Int)
            · rw [if_pos (by omega), if_pos ⟨c7, c6⟩]
            · rw [if_neg (by omega), if_neg (fun k => c7 k.1)]))]
      rw [uSum_sw]
      rw [uSum_congr (g := fun h => if D 10 h < 6 ∧ m = 95 then uBack D h (uV D (m + 1) 2 h) else 0) (fun h hh => (uSum_pk (p := fun r => ¬ r = 6)).trans (by
        have b := rb h hh
        by_cases c7 : D 10 h < 6
        · rw [if_pos ⟨b, by omega⟩, if_pos ⟨c7, c⟩]
        · rw [if_neg (fun k => k.2 (by omega)), if_neg (fun k => c7 k.1)]))]
      omega
    · rw [uSum_z (fun r _ => if_neg (fun k => c k.2)), uSum_z (fun h _ => if_neg (fun k => c k.2))]; rfl
  · rw [T0 _ (by decide) (by decide) (by decide)]
    show uSum (vQ D 7 m) 7 = 0 + uSum (vQ D 7 m) 7 + 0
    omega
theorem zWlI {x : Int} (h : -4611686018427387904 ≤ x ∧ x ≤ 4611686018427387904) : zWl x = x := by unfold zWl; omega
theorem uSum_ab {f : Nat → Int} {B : Int} : ∀ {n : Nat}, (∀ k, k < n → -B ≤ f k ∧ f k ≤ B) → -(B * (n : Int)) ≤ uSum f n ∧ uSum f n ≤ B * (n : Int)
  | 0, _ => by rw [show ((0 : Nat) : Int) = 0 from rfl, Int.mul_zero]; exact ⟨Int.le_refl _, Int.le_refl _⟩
  | n + 1, h => by
    have I := uSum_ab (f := f) (B := B) (n := n) (fun k hk => h k (by omega))
    have a := h n (by omega)
    have e : B * ((n + 1 : Nat) : Int) = B * (n : Int) + B := by rw [Int.natCast_add, Int.mul_add]; show B * (n : Int) + B * 1 = _; rw [Int.mul_one]
    rw [e]
    show -(B * (n : Int) + B) ≤ uSum f n + f n ∧ uSum f n + f n ≤ B * (n : Int) + B
    generalize B * (n : Int) = y at *
    omega
theorem uRet_u {D V : uT} {B : Int} {r : Nat} (O : uOk D) (hV : uVk D V B) : 0 ≤ uRet D V r ∧ uRet D V r ≤ 319984 := by
  refine ⟨(uRet_b hV).1, ?_⟩
  have N := O.2.2.2.2.1
  have L : uRet D V r ≤ uSum (fun _ => 19999) (uN D) := uSum_le (fun h hh => by
    have k := hV.2.1 h hh
    have g := uGb_b (k := D 8 h) k.1 k.2.2.1
    show (if _ then uGb (D 8 h) (V 2 h) else 0) ≤ 19999
    split <;> omega)
  rw [uSum_const] at L
  omega
theorem zW_b {x : Int} : -2147483648 ≤ zW x ∧ zW x ≤ 2147483648 := by unfold zW; omega
theorem vP_b {D : uT} {w : Int} {r m : Nat} (O : uOk D) (hm : m < 96) (hr : r < 7) : -2147483648 ≤ vP D w r m ∧ vP D w r m ≤ 2147483648 := by
  have B := uBd O hm hr (uV_k O m (Nat.le_of_lt hm))
  have on := uOn_b O hm hr
  have d0 := O.1 r m hr hm
  have rt := uRet_u (r := r) O (uV_k O m (Nat.le_of_lt hm))
  have rt2 := uRet_u (r := r + 1) O (uV_k O (m + 1) hm)
  have wt := B.2.2.2.2.2.2.2.1
  have st : -2147483648 ≤ uStm D (uV D m) r ∧ uStm D (uV D m) r ≤ 2147483648 := zW_b
  have pw : -2147483648 ≤ vPow D r m ∧ vPow D r m ≤ 2147483648 := zW_b
  unfold vP
  have on' : 0 ≤ vOn D r m ∧ vOn D r m ≤ 2089807 := on.1
  clear B on O
  generalize vOn D r m = a at *
  generalize D 0 (96 * r + m) = b at *
  generalize uWat D (uV D m) m r (uAm D (uV D m) m r) = c at *
  generalize uStm D (uV D m) r = e at *
  generalize uRet D (uV D m) r = f at *
  generalize uRet D (uV D (m + 1)) (r + 1) = g at *
  generalize vPow D r m = i at *
  (repeat' split) <;> omega
-- X0_partOf
theorem zb_24 {d : Nat} {σ : zS} {Q : Option zV → zS → Prop} {f : Nat} {w : Int} {r : Int} {m : Int}
    (o1 : (0 : Int) ≤ r ∧ r < (7 : Int))
    (o2 : w < 0 ∨ 6 < w → 0 ≤ r ∧ r < 7)
    (o3 : w < 0 ∨ 6 < w → 0 ≤ m ∧ m < 96)
    (o4 : w = 0 → r = 6 → (0 : Int) ≤ m ∧ m < (96 : Int))
    (o5 : w = 1 → 0 ≤ r ∧ r < 7)
    (o6 : w = 1 → 0 ≤ m ∧ m < 96)
    (o7 : w = 2 → (0 : Int) ≤ m ∧ m < (96 : Int))
    (o8 : w = 3 → 0 ≤ r ∧ r < 7)
    (o9 : w = 3 → 0 ≤ m ∧ m < 97)
    (o10 : w = 4 → 0 ≤ r ∧ r < 7)
    (o11 : w = 4 → 0 ≤ m ∧ m < 96)
    (o12 : w = 5 → r = 6 → (0 : Int) ≤ m ∧ m < (96 : Int))
    (o13 : w = 6 → ¬ r = 6 → m = 95 → (0 : Int) ≤ m ∧ m < (96 : Int))
    (h1 : w < 0 ∨ 6 < w → Q (some (.inl (cPow σ f r.toNat m.toNat))) σ)
    (h2 : w = 0 → ¬ r = 6 → Q (some (.inl 0)) σ)
    (h3 : w = 0 → r = 6 → Q (some (.inl (σ.1 22 (7 * f + r.toNat) (m.toNat)))) σ)
    (h4 : w = 1 → Q (some (.inl (cSide σ r.toNat m.toNat))) σ)
    (h5 : w = 2 → Q (some (.inl (zW ((σ.1 21 (7 * f + r.toNat) (m.toNat)) - (σ.1 22 (7 * f + r.toNat) (m.toNat)))))) σ)
    (h6 : w = 3 → Q (some (.inl (cStm σ f r.toNat m.toNat))) σ)
    (h7 : w = 4 → Q (some (.inl (cRet σ f r.toNat m.toNat))) σ)
    (h8 : w = 5 → ¬ r = 6 → Q (some (.inl 0)) σ)
    (h9 : w = 5 → r = 6 → Q (some (.inl (σ.1 24 (7 * f + r.toNat) (m.toNat)))) σ)
    (h10 : w = 6 → r = 6 → Q (some (.inl 0)) σ)
    (h11 : w = 6 → ¬ r = 6 → ¬ m = 95 → Q (some (.inl 0)) σ)
    (h12 : w = 6 → ¬ r = 6 → m = 95 → Q (some (.inl (σ.1 24 (7 * f + r.toNat) (m.toNat)))) σ) :
    zM (d + 12) 24 [.inr (.inr (0, f)), .inl w, .inl r, .inl m] σ Q := by
  refine zX_run (n' := 3) (ls' := [some (.inr (.inr (0, f))), some (.inl w), some (.inl r), some (.inl m), none]) (st' := [.inl r, .inr (.inr (11, f))]) (σ' := σ) 3 rfl ?_
  refine zX_ald5 (L := 7) rfl (by decide) rfl o1 ?_
  refine zX_run (n' := 6) (ls' := [some (.inr (.inr (0, f))), some (.inl w), some (.inl r), some (.inl m), some (.inr (.inr (4, 7 * f + r.toNat)))]) (st' := [.inl w]) (σ' := σ) 2 rfl ?_
  refine zX_sw rfl (fun a1 => ?_) ⟨fun a1 => ?_, fun a1 => ?_, fun a1 => ?_, fun a1 => ?_, fun a1 => ?_, fun a1 => ?_, fun a1 => ?_, trivial⟩
  · skip
    refine zX_run (n' := 69) (ls' := [some (.inr (.inr (0, f))), some (.inl w), some (.inl r), some (.inl m), some (.inr (.inr (4, 7 * f + r.toNat)))]) (st' := [.inl m, .inl r, .inr (.inr (0, f))]) (σ' := σ) 3 rfl ?_
    refine zX_call rfl rfl ?_
    refine zs_19 (o2 a1) (o3 a1) ?_
    · skip
      exact zX_ret rfl rfl (h1 a1)
  · skip
    refine zX_run (n' := 9) (ls' := [some (.inr (.inr (0, f))), some (.inl w), some (.inl r), some (.inl m), some (.inr (.inr (4, 7 * f + r.toNat)))]) (st' := [.inl 6, .inl r]) (σ' := σ) 2 rfl ?_
    refine zX_c1 rfl (fun a2 => ?_) (fun a2 => ?_)
    · skip
      refine zX_run (n' := 16) (ls' := [some (.inr (.inr (0, f))), some (.inl w), some (.inl r), some (.inl m), some (.inr (.inr (4, 7 * f + r.toNat)))]) (st' := [.inl 0]) (σ' := σ) 1 rfl ?_
      exact zX_ret rfl rfl (h2 a1 a2)
    · skip
      refine zX_run (n' := 13) (ls' := [some (.inr (.inr (0, f))), some (.inl w), some (.inl r), some (.inl m), some (.inr (.inr (4, 7 * f + r.toNat)))]) (st' := [.inl m, .inr (.inr (22, 7 * f + r.toNat))]) (σ' := σ) 3 rfl ?_
      refine zX_ald1 (L := 96) rfl (by decide) rfl (o4 a1 a2) ?_
      refine zX_run (n' := 16) (ls' := [some (.inr (.inr (0, f))), some (.inl w), some (.inl r), some (.inl m), some (.inr (.inr (4, 7 * f + r.toNat)))]) (st' := [.inl (σ.1 22 (7 * f + r.toNat) (m.toNat))]) (σ' := σ) 1 rfl ?_
      exact zX_ret rfl rfl (h3 a1 a2)
  · skip
    refine zX_run (n' := 21) (ls' := [some (.inr (.inr (0, f))), some (.inl w), some (.inl r), some (.inl m), some (.inr (.inr (4, 7 * f + r.toNat)))]) (st' := [.inl m, .inl r, .inr (.inr (8, 0))]) (σ' := σ) 4 rfl ?_
    refine zX_call rfl rfl ?_
    refine zs_60 (o5 a1) (o6 a1) ?_
    · skip
      exact zX_ret rfl rfl (h4 a1)
  · skip
    refine zX_run (n' := 26) (ls' := [some (.inr (.inr (0, f))), some (.inl w), some (.inl r), some (.inl m), some (.inr (.inr (4, 7 * f + r.toNat)))]) (st' := [.inl m, .inr (.inr (21, 7 * f + r.toNat))]) (σ' := σ) 3 rfl ?_
    refine zX_ald1 (L := 96) rfl (by decide) rfl (o7 a1) ?_
    refine zX_run (n' := 30) (ls' := [some (.inr (.inr (0, f))), some (.inl w), some (.inl r), some (.inl m), some (.inr (.inr (4, 7 * f + r.toNat)))]) (st' := [.inl m, .inr (.inr (22, 7 * f + r.toNat)), .inl (σ.1 21 (7 * f + r.toNat) (m.toNat))]) (σ' := σ) 3 rfl ?_
    refine zX_ald1 (L := 96) rfl (by decide) rfl (o7 a1) ?_
    refine zX_run (n' := 32) (ls' := [some (.inr (.inr (0, f))), some (.inl w), some (.inl r), some (.inl m), some (.inr (.inr (4, 7 * f + r.toNat)))]) (st' := [.inl (zW ((σ.1 21 (7 * f + r.toNat) (m.toNat)) - (σ.1 22 (7 * f + r.toNat) (m.toNat))))]) (σ' := σ) 1 rfl ?_
    exact zX_ret rfl rfl (h5 a1)
  · skip
    refine zX_run (n' := 36) (ls' := [some (.inr (.inr (0, f))), some (.inl w), some (.inl r), some (.inl m), some (.inr (.inr (4, 7 * f + r.toNat)))]) (st' := [.inl m, .inl r, .inr (.inr (0, f))]) (σ' := σ) 3 rfl ?_
    refine zX_call rfl rfl ?_
    refine zs_17 (o8 a1) (o9 a1) ?_
    · skip
      exact zX_ret rfl rfl (h6 a1)
  · skip
    refine zX_run (n' := 41) (ls' := [some (.inr (.inr (0, f))), some (.inl w), some (.inl r), some (.inl m), some (.inr (.inr (4, 7 * f + r.toNat)))]) (st' := [.inl m, .inl r, .inr (.inr (0, f))]) (σ' := σ) 3 rfl ?_
    refine zX_call rfl rfl ?_
    refine zs_16 (o10 a1) (o11 a1) ?_
    · skip
      exact zX_ret rfl rfl (h7 a1)
  · skip
    refine zX_run (n' := 45) (ls' := [some (.inr (.inr (0, f))), some (.inl w), some (.inl r), some (.inl m), some (.inr (.inr (4, 7 * f + r.toNat)))]) (st' := [.inl 6, .inl r]) (σ' := σ) 2 rfl ?_
    refine zX_c1 rfl (fun a3 => ?_) (fun a3 => ?_)
    · skip
      refine zX_run (n' := 52) (ls' := [some (.inr (.inr (0, f))), some (.inl w), some (.inl r), some (.inl m), some (.inr (.inr (4, 7 * f + r.toNat)))]) (st' := [.inl 0]) (σ' := σ) 1 rfl ?_
      exact zX_ret rfl rfl (h8 a1 a3)
    · skip
      refine zX_run (n' := 49) (ls' := [some (.inr (.inr (0, f))), some (.inl w), some (.inl r), some (.inl m), some (.inr (.inr (4, 7 * f + r.toNat)))]) (st' := [.inl m, .inr (.inr (24, 7 * f + r.toNat))]) (σ' := σ) 3 rfl ?_
      refine zX_ald1 (L := 96) rfl (by decide) rfl (o12 a1 a3) ?_
      refine zX_run (n' := 52) (ls' := [some (.inr (.inr (0, f))), some (.inl w), some (.inl r), some (.inl m), some (.inr (.inr (4, 7 * f + r.toNat)))]) (st' := [.inl (σ.1 24 (7 * f + r.toNat) (m.toNat))]) (σ' := σ) 1 rfl ?_
      exact zX_ret rfl rfl (h9 a1 a3)
  · skip
    refine zX_run (n' := 55) (ls' := [some (.inr (.inr (0, f))), some (.inl w), some (.inl r), some (.inl m), some (.inr (.inr (4, 7 * f + r.toNat)))]) (st' := [.inl 6, .inl r]) (σ' := σ) 2 rfl ?_
    refine zX_c0 rfl (fun a4 => ?_) (fun a4 => ?_)
    · skip
      refine zX_run (n' := 65) (ls' := [some (.inr (.inr (0, f))), some (.inl w), some (.inl r), some (.inl m), some (.inr (.inr (4, 7 * f + r.toNat)))]) (st' := [.inl 0]) (σ' := σ) 1 rfl ?_
      exact zX_ret rfl rfl (h10 a1 a4)
    · skip
      refine zX_run (n' := 58) (ls' := [some (.inr (.inr (0, f))), some (.inl w), some (.inl r), some (.inl m), some (.inr (.inr (4, 7 * f + r.toNat)))]) (st' := [.inl 95, .inl m]) (σ' := σ) 2 rfl ?_
      refine zX_c1 rfl (fun a5 => ?_) (fun a5 => ?_)
      · skip
        refine zX_run (n' := 65) (ls' := [some (.inr (.inr (0, f))), some (.inl w), some (.inl r), some (.inl m), some (.inr (.inr (4, 7 * f + r.toNat)))]) (st' := [.inl 0]) (σ' := σ) 1 rfl ?_
        exact zX_ret rfl rfl (h11 a1 a4 a5)
      · skip
        refine zX_run (n' := 62) (ls' := [some (.inr (.inr (0, f))), some (.inl w), some (.inl r), some (.inl m), some (.inr (.inr (4, 7 * f + r.toNat)))]) (st' := [.inl m, .inr (.inr (24, 7 * f + r.toNat))]) (σ' := σ) 3 rfl ?_
        refine zX_ald1 (L := 96) rfl (by decide) rfl (o13 a1 a4 a5) ?_
        refine zX_run (n' := 65) (ls' := [some (.inr (.inr (0, f))), some (.inl w), some (.inl r), some (.inl m), some (.inr (.inr (4, 7 * f + r.toNat)))]) (st' := [.inl (σ.1 24 (7 * f + r.toNat) (m.toNat))]) (σ' := σ) 1 rfl ?_
        exact zX_ret rfl rfl (h12 a1 a4 a5)
-- X0_sumOf
theorem zb_23o {d : Nat} {σ : zS} {Q : Option zV → zS → Prop} {f : Nat} {w r v : Int} {x : Option zV}
    (h1 : 7 ≤ r → Q (some (.inr (.inl v))) σ)
    (h2 : ¬ 7 ≤ r → zX (d + 13) 23 9 [some (.inr (.inr (0, f))), some (.inl w), some (.inr (.inl v)), none, some (.inl r), some (.inl 0)] [] σ Q) :
    zX (d + 13) 23 4 [some (.inr (.inr (0, f))), some (.inl w), some (.inr (.inl v)), none, some (.inl r), x] [] σ Q := by
  refine zX_run (n' := 6) (ls' := [some (.inr (.inr (0, f))), some (.inl w), some (.inr (.inl v)), none, some (.inl r), x]) (st' := [.inl 7, .inl r]) (σ' := σ) 2 rfl ?_
  refine zX_c3 rfl (fun a1 => ?_) (fun a1 => ?_)
  · skip
    refine zX_run (n' := 26) (ls' := [some (.inr (.inr (0, f))), some (.inl w), some (.inr (.inl v)), none, some (.inl r), x]) (st' := [.inr (.inl v)]) (σ' := σ) 1 rfl ?_
    exact zX_retL rfl rfl (h1 a1)
  · skip
    refine zX_run (n' := 9) (ls' := [some (.inr (.inr (0, f))), some (.inl w), some (.inr (.inl v)), none, some (.inl r), some (.inl 0)]) (st' := []) (σ' := σ) 2 rfl ?_
    exact h2 a1
-- X0_sumOf
theorem zb_23i {d : Nat} {σ : zS} {Q : Option zV → zS → Prop} {f : Nat} {w r m v : Int}
    (h1 : 96 ≤ m → zX (d + 13) 23 4 [some (.inr (.inr (0, f))), some (.inl w), some (.inr (.inl v)), none, some (.inl (zW (r + 1))), some (.inl m)] [] σ Q)
    (h2 : ¬ 96 ≤ m → zX (d + 13) 23 17 [some (.inr (.inr (0, f))), some (.inl w), some (.inr (.inl v)), none, some (.inl r), some (.inl m)] [.inl m, .inl r, .inl w, .inr (.inr (0, f)), .inr (.inl v)] σ Q) :
    zX (d + 13) 23 9 [some (.inr (.inr (0, f))), some (.inl w), some (.inr (.inl v)), none, some (.inl r), some (.inl m)] [] σ Q := by
  refine zX_run (n' := 11) (ls' := [some (.inr (.inr (0, f))), some (.inl w), some (.inr (.inl v)), none, some (.inl r), some (.inl m)]) (st' := [.inl 96, .inl m]) (σ' := σ) 2 rfl ?_
  refine zX_c3 rfl (fun a1 => ?_) (fun a1 => ?_)
  · skip
    refine zX_run (n' := 4) (ls' := [some (.inr (.inr (0, f))), some (.inl w), some (.inr (.inl v)), none, some (.inl (zW (r + 1))), some (.inl m)]) (st' := []) (σ' := σ) 2 rfl ?_
    exact h1 a1
  · skip
    refine zX_run (n' := 17) (ls' := [some (.inr (.inr (0, f))), some (.inl w), some (.inr (.inl v)), none, some (.inl r), some (.inl m)]) (st' := [.inl m, .inl r, .inl w, .inr (.inr (0, f)), .inr (.inl v)]) (σ' := σ) 5 rfl ?_
    exact h2 a1
-- X0_sumOf
theorem zb_23p {d : Nat} {σ : zS} {Q : Option zV → zS → Prop} {f : Nat} {w r m v u a : Int}
    (h1 : zX (d + 13) 23 9 [some (.inr (.inr (0, f))), some (.inl w), some (.inr (.inl (zWl (a + u)))), none, some (.inl r), some (.inl (zW (m + 1)))] [] σ Q) :
    zX (d + 13) 23 18 [some (.inr (.inr (0, f))), some (.inl w), some (.inr (.inl v)), none, some (.inl r), some (.inl m)] [.inl u, .inr (.inl a)] σ Q := by
  refine zX_run (n' := 9) (ls' := [some (.inr (.inr (0, f))), some (.inl w), some (.inr (.inl (zWl (a + u)))), none, some (.inl r), some (.inl (zW (m + 1)))]) (st' := []) (σ' := σ) 5 rfl ?_
  exact h1
-- X0_sumOf
theorem zb_23 {d : Nat} {σ : zS} {Q : Option zV → zS → Prop} {f : Nat} {w : Int}
    (h1 : zX (d + 13) 23 4 [some (.inr (.inr (0, f))), some (.inl w), some (.inr (.inl 0)), none, some (.inl 0), none] [] σ Q) :
    zM (d + 13) 23 [.inr (.inr (0, f)), .inl w] σ Q := by
  refine zX_run (n' := 4) (ls' := [some (.inr (.inr (0, f))), some (.inl w), some (.inr (.inl 0)), none, some (.inl 0), none]) (st' := []) (σ' := σ) 4 rfl ?_
  exact h1
-- X10_sum
theorem zb_169 {d : Nat} {σ : zS} {Q : Option zV → zS → Prop} {w : Int}
    (o1 : ¬ w < 0 → w ≤ 7 → yRel σ)
    (h1 : w < 0 → Q (some (.inr (.inl (-4611686018427387904)))) σ)
    (h2 : ¬ w < 0 → w ≤ 7 → ∀ G1 : zS, mRun σ G1 96 0 → yRel (yR σ G1) → zX (d + 7) 169 13 [some (.inr (.inr (10, 0))), some (.inl w), some (.inr (.inl 0)), none, some (.inl 0), none, none] [] (yR σ G1) Q)
    (h3 : ¬ w < 0 → ¬ w ≤ 7 → Q (some (.inr (.inl (-4611686018427387904)))) σ) :
    zM (d + 7) 169 [.inr (.inr (10, 0)), .inl w] σ Q := by
  refine zX_run (n' := 1) (ls' := [some (.inr (.inr (10, 0))), some (.inl w), none, none, none, none, none]) (st' := [.inl w]) (σ' := σ) 1 rfl ?_
  refine zX_i2 rfl (fun a1 => ?_) (fun a1 => ?_)
  · skip
    refine zX_run (n' := 6) (ls' := [some (.inr (.inr (10, 0))), some (.inl w), none, none, none, none, none]) (st' := [.inr (.inl (-4611686018427387904))]) (σ' := σ) 1 rfl ?_
    exact zX_retL rfl rfl (h1 a1)
  · skip
    refine zX_run (n' := 4) (ls' := [some (.inr (.inr (10, 0))), some (.inl w), none, none, none, none, none]) (st' := [.inl 7, .inl w]) (σ' := σ) 2 rfl ?_
    refine zX_c5 rfl (fun a2 => ?_) (fun a2 => ?_)
    · skip
      refine zX_run (n' := 8) (ls' := [some (.inr (.inr (10, 0))), some (.inl w), none, none, none, none, none]) (st' := [.inr (.inr (10, 0))]) (σ' := σ) 1 rfl ?_
      refine zX_call rfl rfl ?_
      refine ys_158 (o1 a1 a2) (fun G1 a3 a4 => ?_)
      · skip
        refine zX_run (n' := 13) (ls' := [some (.inr (.inr (10, 0))), some (.inl w), some (.inr (.inl 0)), none, some (.inl 0), none, none]) (st' := []) (σ' := (yR σ G1)) 4 rfl ?_
        exact h2 a1 a2 G1 a3 a4
    · skip
      refine zX_run (n' := 6) (ls' := [some (.inr (.inr (10, 0))), some (.inl w), none, none, none, none, none]) (st' := [.inr (.inl (-4611686018427387904))]) (σ' := σ) 1 rfl ?_
      exact zX_retL rfl rfl (h3 a1 a2)
-- X10_sum
theorem zb_169m {d : Nat} {σ : zS} {Q : Option zV → zS → Prop} {w v m : Int} {x y : Option zV}
    (o1 : ¬ 96 ≤ m → w = 0 → (0 : Int) ≤ zW ((zW (7 * m)) + 6) ∧ zW ((zW (7 * m)) + 6) < (672 : Int))
    (h1 : 96 ≤ m → Q (some (.inr (.inl v))) σ)
    (h2 : ¬ 96 ≤ m → ¬ w = 0 → zX (d + 7) 169 30 [some (.inr (.inr (10, 0))), some (.inl w), some (.inr (.inl v)), none, some (.inl m), x, y] [] σ Q)
    (h3 : ¬ 96 ≤ m → w = 0 → zX (d + 7) 169 30 [some (.inr (.inr (10, 0))), some (.inl w), some (.inr (.inl (zWl (v + (σ.1 82 0 ((zW ((zW (7 * m)) + 6)).toNat)))))), none, some (.inl m), x, y] [] σ Q) :
    zX (d + 7) 169 13 [some (.inr (.inr (10, 0))), some (.inl w), some (.inr (.inl v)), none, some (.inl m), x, y] [] σ Q := by
  refine zX_run (n' := 15) (ls' := [some (.inr (.inr (10, 0))), some (.inl w), some (.inr (.inl v)), none, some (.inl m), x, y]) (st' := [.inl 96, .inl m]) (σ' := σ) 2 rfl ?_
  refine zX_c3 rfl (fun a1 => ?_) (fun a1 => ?_)
  · skip
    refine zX_run (n' := 161) (ls' := [some (.inr (.inr (10, 0))), some (.inl w), some (.inr (.inl v)), none, some (.inl m), x, y]) (st' := [.inr (.inl v)]) (σ' := σ) 1 rfl ?_
    exact zX_retL rfl rfl (h1 a1)
  · skip
    refine zX_run (n' := 17) (ls' := [some (.inr (.inr (10, 0))), some (.inl w), some (.inr (.inl v)), none, some (.inl m), x, y]) (st' := [.inl w]) (σ' := σ) 1 rfl ?_
    refine zX_i1 rfl (fun a2 => ?_) (fun a2 => ?_)
    · skip
      exact h2 a1 a2
    · skip
      refine zX_run (n' := 26) (ls' := [some (.inr (.inr (10, 0))), some (.inl w), some (.inr (.inl v)), none, some (.inl m), x, y]) (st' := [.inl (zW ((zW (7 * m)) + 6)), .inr (.inr (82, 0)), .inr (.inl v)]) (σ' := σ) 8 rfl ?_
      refine zX_ald1 (L := 672) rfl (by decide) rfl (o1 a1 a2) ?_
      refine zX_run (n' := 30) (ls' := [some (.inr (.inr (10, 0))), some (.inl w), some (.inr (.inl (zWl (v + (σ.1 82 0 ((zW ((zW (7 * m)) + 6)).toNat)))))), none, some (.inl m), x, y]) (st' := []) (σ' := σ) 3 rfl ?_
      exact h3 a1 a2
-- X10_sum
theorem zb_169r {d : Nat} {σ : zS} {Q : Option zV → zS → Prop} {w v m : Int} {x y : Option zV}
    (h1 : zX (d + 7) 169 32 [some (.inr (.inr (10, 0))), some (.inl w), some (.inr (.inl v)), none, some (.inl m), some (.inl 0), y] [] σ Q) :
    zX (d + 7) 169 30 [some (.inr (.inr (10, 0))), some (.inl w), some (.inr (.inl v)), none, some (.inl m), x, y] [] σ Q := by
  refine zX_run (n' := 32) (ls' := [some (.inr (.inr (10, 0))), some (.inl w), some (.inr (.inl v)), none, some (.inl m), some (.inl 0), y]) (st' := []) (σ' := σ) 2 rfl ?_
  exact h1
-- X10_sum
theorem zb_169a {d : Nat} {σ : zS} {Q : Option zV → zS → Prop} {w v m r : Int} {y : Option zV}
    (h1 : 7 ≤ r → zX (d + 7) 169 96 [some (.inr (.inr (10, 0))), some (.inl w), some (.inr (.inl v)), none, some (.inl m), some (.inl r), y] [] σ Q)
    (h2 : ¬ 7 ≤ r → zX (d + 7) 169 41 [some (.inr (.inr (10, 0))), some (.inl w), some (.inr (.inl v)), none, some (.inl m), some (.inl r), some (.inl (zW ((zW (7 * m)) + r)))] [] σ Q) :
    zX (d + 7) 169 32 [some (.inr (.inr (10, 0))), some (.inl w), some (.inr (.inl v)), none, some (.inl m), some (.inl r), y] [] σ Q := by
  refine zX_run (n' := 34) (ls' := [some (.inr (.inr (10, 0))), some (.inl w), some (.inr (.inl v)), none, some (.inl m), some (.inl r), y]) (st' := [.inl 7, .inl r]) (σ' := σ) 2 rfl ?_
  refine zX_c3 rfl (fun a1 => ?_) (fun a1 => ?_)
  · skip
    exact h1 a1
  · skip
    refine zX_run (n' := 41) (ls' := [some (.inr (.inr (10, 0))), some (.inl w), some (.inr (.inl v)), none, some (.inl m), some (.inl r), some (.inl (zW ((zW (7 * m)) + r)))]) (st' := []) (σ' := σ) 6 rfl ?_
    exact h2 a1
-- X10_sum
theorem zb_169b {d : Nat} {σ : zS} {Q : Option zV → zS → Prop} {w v m r k : Int}
    (o1 : w = 1 → (0 : Int) ≤ k ∧ k < (672 : Int))
    (h1 : ¬ w = 1 → zX (d + 7) 169 52 [some (.inr (.inr (10, 0))), some (.inl w), some (.inr (.inl v)), none, some (.inl m), some (.inl r), some (.inl k)] [] σ Q)
    (h2 : w = 1 → zX (d + 7) 169 52 [some (.inr (.inr (10, 0))), some (.inl w), some (.inr (.inl (zWl (v + (σ.1 78 0 (k.toNat)))))), none, some (.inl m), some (.inl r), some (.inl k)] [] σ Q) :
    zX (d + 7) 169 41 [some (.inr (.inr (10, 0))), some (.inl w), some (.inr (.inl v)), none, some (.inl m), some (.inl r), some (.inl k)] [] σ Q := by
  refine zX_run (n' := 43) (ls' := [some (.inr (.inr (10, 0))), some (.inl w), some (.inr (.inl v)), none, some (.inl m), some (.inl r), some (.inl k)]) (st' := [.inl 1, .inl w]) (σ' := σ) 2 rfl ?_
  refine zX_c1 rfl (fun a1 => ?_) (fun a1 => ?_)
  · skip
    exact h1 a1
  · skip
    refine zX_run (n' := 48) (ls' := [some (.inr (.inr (10, 0))), some (.inl w), some (.inr (.inl v)), none, some (.inl m), some (.inl r), some (.inl k)]) (st' := [.inl k, .inr (.inr (78, 0)), .inr (.inl v)]) (σ' := σ) 4 rfl ?_
    refine zX_ald1 (L := 672) rfl (by decide) rfl (o1 a1) ?_
    refine zX_run (n' := 52) (ls' := [some (.inr (.inr (10, 0))), some (.inl w), some (.inr (.inl (zWl (v + (σ.1 78 0 (k.toNat)))))), none, some (.inl m), some (.inl r), some (.inl k)]) (st' := []) (σ' := σ) 3 rfl ?_
    exact h2 a1
-- X10_sum
theorem zb_169c {d : Nat} {σ : zS} {Q : Option zV → zS → Prop} {w v m r k : Int}
    (o1 : w = 3 → (0 : Int) ≤ r ∧ r < (7 : Int))
    (o2 : w = 3 → ¬ σ.1 55 0 (r.toNat) = 0 → (0 : Int) ≤ k ∧ k < (672 : Int))
    (h1 : ¬ w = 3 → zX (d + 7) 169 68 [some (.inr (.inr (10, 0))), some (.inl w), some (.inr (.inl v)), none, some (.inl m), some (.inl r), some (.inl k)] [] σ Q)
    (h2 : w = 3 → σ.1 55 0 (r.toNat) = 0 → zX (d + 7) 169 68 [some (.inr (.inr (10, 0))), some (.inl w), some (.inr (.inl v)), none, some (.inl m), some (.inl r), some (.inl k)] [] σ Q)
    (h3 : w = 3 → ¬ σ.1 55 0 (r.toNat) = 0 → zX (d + 7) 169 68 [some (.inr (.inr (10, 0))), some (.inl w), some (.inr (.inl (zWl (v + (σ.1 88 0 (k.toNat)))))), none, some (.inl m), some (.inl r), some (.inl k)] [] σ Q) :
    zX (d + 7) 169 52 [some (.inr (.inr (10, 0))), some (.inl w), some (.inr (.inl v)), none, some (.inl m), some (.inl r), some (.inl k)] [] σ Q := by
  refine zX_run (n' := 54) (ls' := [some (.inr (.inr (10, 0))), some (.inl w), some (.inr (.inl v)), none, some (.inl m), some (.inl r), some (.inl k)]) (st' := [.inl 3, .inl w]) (σ' := σ) 2 rfl ?_
  refine zX_c1 rfl (fun a1 => ?_) (fun a1 => ?_)
  · skip
    exact h1 a1
  · skip
    refine zX_run (n' := 58) (ls' := [some (.inr (.inr (10, 0))), some (.inl w), some (.inr (.inl v)), none, some (.inl m), some (.inl r), some (.inl k)]) (st' := [.inl r, .inr (.inr (55, 0))]) (σ' := σ) 3 rfl ?_
    refine zX_ald4 (L := 7) rfl (by decide) rfl (o1 a1) ?_
    refine zX_i0 rfl (fun a2 => ?_) (fun a2 => ?_)
    · skip
      exact h2 a1 a2
    · skip
      refine zX_run (n' := 64) (ls' := [some (.inr (.inr (10, 0))), some (.inl w), some (.inr (.inl v)), none, some (.inl m), some (.inl r), some (.inl k)]) (st' := [.inl k, .inr (.inr (88, 0)), .inr (.inl v)]) (σ' := σ) 4 rfl ?_
      refine zX_ald1 (L := 672) rfl (by decide) rfl (o2 a1 a2) ?_
      refine zX_run (n' := 68) (ls' := [some (.inr (.inr (10, 0))), some (.inl w), some (.inr (.inl (zWl (v + (σ.1 88 0 (k.toNat)))))), none, some (.inl m), some (.inl r), some (.inl k)]) (st' := []) (σ' := σ) 3 rfl ?_
      exact h3 a1 a2
-- X10_sum
theorem zb_169d {d : Nat} {σ : zS} {Q : Option zV → zS → Prop} {w v m r k : Int}
    (o1 : w = 4 → (0 : Int) ≤ k ∧ k < (672 : Int))
    (h1 : ¬ w = 4 → zX (d + 7) 169 79 [some (.inr (.inr (10, 0))), some (.inl w), some (.inr (.inl v)), none, some (.inl m), some (.inl r), some (.inl k)] [] σ Q)
    (h2 : w = 4 → zX (d + 7) 169 79 [some (.inr (.inr (10, 0))), some (.inl w), some (.inr (.inl (zWl (v + (σ.1 79 0 (k.toNat)))))), none, some (.inl m), some (.inl r), some (.inl k)] [] σ Q) :
    zX (d + 7) 169 68 [some (.inr (.inr (10, 0))), some (.inl w), some (.inr (.inl v)), none, some (.inl m), some (.inl r), some (.inl k)] [] σ Q := by
  refine zX_run (n' := 70) (ls' := [some (.inr (.inr (10, 0))), some (.inl w), some (.inr (.inl v)), none, some (.inl m), some (.inl r), some (.inl k)]) (st' := [.inl 4, .inl w]) (σ' := σ) 2 rfl ?_
  refine zX_c1 rfl (fun a1 => ?_) (fun a1 => ?_)
  · skip
    exact h1 a1
  · skip
    refine zX_run (n' := 75) (ls' := [some (.inr (.inr (10, 0))), some (.inl w), some (.inr (.inl v)), none, some (.inl m), some (.inl r), some (.inl k)]) (st' := [.inl k, .inr (.inr (79, 0)), .inr (.inl v)]) (σ' := σ) 4 rfl ?_
    refine zX_ald1 (L := 672) rfl (by decide) rfl (o1 a1) ?_
    refine zX_run (n' := 79) (ls' := [some (.inr (.inr (10, 0))), some (.inl w), some (.inr (.inl (zWl (v + (σ.1 79 0 (k.toNat)))))), none, some (.inl m), some (.inl r), some (.inl k)]) (st' := []) (σ' := σ) 3 rfl ?_
    exact h2 a1
-- X10_sum
theorem zb_169e {d : Nat} {σ : zS} {Q : Option zV → zS → Prop} {w v m r k : Int}
    (o1 : w = 7 → (0 : Int) ≤ r ∧ r < (7 : Int))
    (o2 : w = 7 → ¬ σ.1 55 0 (r.toNat) = 0 → (0 : Int) ≤ k ∧ k < (672 : Int))
    (h1 : ¬ w = 7 → zX (d + 7) 169 32 [some (.inr (.inr (10, 0))), some (.inl w), some (.inr (.inl v)), none, some (.inl m), some (.inl (zW (r + 1))), some (.inl k)] [] σ Q)
    (h2 : w = 7 → σ.1 55 0 (r.toNat) = 0 → zX (d + 7) 169 32 [some (.inr (.inr (10, 0))), some (.inl w), some (.inr (.inl v)), none, some (.inl m), some (.inl (zW (r + 1))), some (.inl k)] [] σ Q)
    (h3 : w = 7 → ¬ σ.1 55 0 (r.toNat) = 0 → zX (d + 7) 169 32 [some (.inr (.inr (10, 0))), some (.inl w), some (.inr (.inl (zWl (v + (σ.2 86 0 (k.toNat)))))), none, some (.inl m), some (.inl (zW (r + 1))), some (.inl k)] [] σ Q) :
    zX (d + 7) 169 79 [some (.inr (.inr (10, 0))), some (.inl w), some (.inr (.inl v)), none, some (.inl m), some (.inl r), some (.inl k)] [] σ Q := by
  refine zX_run (n' := 81) (ls' := [some (.inr (.inr (10, 0))), some (.inl w), some (.inr (.inl v)), none, some (.inl m), some (.inl r), some (.inl k)]) (st' := [.inl 7, .inl w]) (σ' := σ) 2 rfl ?_
  refine zX_c1 rfl (fun a1 => ?_) (fun a1 => ?_)
  · skip
    refine zX_run (n' := 32) (ls' := [some (.inr (.inr (10, 0))), some (.inl w), some (.inr (.inl v)), none, some (.inl m), some (.inl (zW (r + 1))), some (.inl k)]) (st' := []) (σ' := σ) 2 rfl ?_
    exact h1 a1
  · skip
    refine zX_run (n' := 85) (ls' := [some (.inr (.inr (10, 0))), some (.inl w), some (.inr (.inl v)), none, some (.inl m), some (.inl r), some (.inl k)]) (st' := [.inl r, .inr (.inr (55, 0))]) (σ' := σ) 3 rfl ?_
    refine zX_ald4 (L := 7) rfl (by decide) rfl (o1 a1) ?_
    refine zX_i0 rfl (fun a2 => ?_) (fun a2 => ?_)
    · skip
      refine zX_run (n' := 32) (ls' := [some (.inr (.inr (10, 0))), some (.inl w), some (.inr (.inl v)), none, some (.inl m), some (.inl (zW (r + 1))), some (.inl k)]) (st' := []) (σ' := σ) 2 rfl ?_
      exact h2 a1 a2
    · skip
      refine zX_run (n' := 91) (ls' := [some (.inr (.inr (10, 0))), some (.inl w), some (.inr (.inl v)), none, some (.inl m), some (.inl r), some (.inl k)]) (st' := [.inl k, .inr (.inr (86, 0)), .inr (.inl v)]) (σ' := σ) 4 rfl ?_
      refine zX_ald2 (L := 672) rfl (by decide) rfl (o2 a1 a2) ?_
      refine zX_run (n' := 32) (ls' := [some (.inr (.inr (10, 0))), some (.inl w), some (.inr (.inl (zWl (v + (σ.2 86 0 (k.toNat)))))), none, some (.inl m), some (.inl (zW (r + 1))), some (.inl k)]) (st' := []) (σ' := σ) 4 rfl ?_
      exact h3 a1 a2
-- X10_sum
theorem zb_169f {d : Nat} {σ : zS} {Q : Option zV → zS → Prop} {w v m r : Int} {y : Option zV}
    (h1 : zX (d + 7) 169 98 [some (.inr (.inr (10, 0))), some (.inl w), some (.inr (.inl v)), none, some (.inl m), some (.inl 0), y] [] σ Q) :
    zX (d + 7) 169 96 [some (.inr (.inr (10, 0))), some (.inl w), some (.inr (.inl v)), none, some (.inl m), some (.inl r), y] [] σ Q := by
  refine zX_run (n' := 98) (ls' := [some (.inr (.inr (10, 0))), some (.inl w), some (.inr (.inl v)), none, some (.inl m), some (.inl 0), y]) (st' := []) (σ' := σ) 2 rfl ?_
  exact h1
-- X10_sum
theorem zb_169g {d : Nat} {σ : zS} {Q : Option zV → zS → Prop} {w v m r : Int} {y : Option zV}
    (h1 : σ.1 10 0 4 ≤ r → zX (d + 7) 169 13 [some (.inr (.inr (10, 0))), some (.inl w), some (.inr (.inl v)), none, some (.inl (zW (m + 1))), some (.inl r), y] [] σ Q)
    (h2 : ¬ σ.1 10 0 4 ≤ r → zX (d + 7) 169 108 [some (.inr (.inr (10, 0))), some (.inl w), some (.inr (.inl v)), none, some (.inl m), some (.inl r), some (.inl (zW ((zW (17 * m)) + r)))] [] σ Q) :
    zX (d + 7) 169 98 [some (.inr (.inr (10, 0))), some (.inl w), some (.inr (.inl v)), none, some (.inl m), some (.inl r), y] [] σ Q := by
  refine zX_run (n' := 101) (ls' := [some (.inr (.inr (10, 0))), some (.inl w), some (.inr (.inl v)), none, some (.inl m), some (.inl r), y]) (st' := [.inl (σ.1 10 0 4), .inl r]) (σ' := σ) 3 rfl ?_
  refine zX_c3 rfl (fun a1 => ?_) (fun a1 => ?_)
  · skip
    refine zX_run (n' := 13) (ls' := [some (.inr (.inr (10, 0))), some (.inl w), some (.inr (.inl v)), none, some (.inl (zW (m + 1))), some (.inl r), y]) (st' := []) (σ' := σ) 2 rfl ?_
    exact h1 a1
  · skip
    refine zX_run (n' := 108) (ls' := [some (.inr (.inr (10, 0))), some (.inl w), some (.inr (.inl v)), none, some (.inl m), some (.inl r), some (.inl (zW ((zW (17 * m)) + r)))]) (st' := []) (σ' := σ) 6 rfl ?_
    exact h2 a1
-- X10_sum
theorem zb_169h {d : Nat} {σ : zS} {Q : Option zV → zS → Prop} {w v m r k : Int}
    (o1 : w = 2 → (0 : Int) ≤ k ∧ k < (1632 : Int))
    (h1 : ¬ w = 2 → zX (d + 7) 169 119 [some (.inr (.inr (10, 0))), some (.inl w), some (.inr (.inl v)), none, some (.inl m), some (.inl r), some (.inl k)] [] σ Q)
    (h2 : w = 2 → zX (d + 7) 169 119 [some (.inr (.inr (10, 0))), some (.inl w), some (.inr (.inl (zWl (v + (σ.1 92 0 (k.toNat)))))), none, some (.inl m), some (.inl r), some (.inl k)] [] σ Q) :
    zX (d + 7) 169 108 [some (.inr (.inr (10, 0))), some (.inl w), some (.inr (.inl v)), none, some (.inl m), some (.inl r), some (.inl k)] [] σ Q := by
  refine zX_run (n' := 110) (ls' := [some (.inr (.inr (10, 0))), some (.inl w), some (.inr (.inl v)), none, some (.inl m), some (.inl r), some (.inl k)]) (st' := [.inl 2, .inl w]) (σ' := σ) 2 rfl ?_
  refine zX_c1 rfl (fun a1 => ?_) (fun a1 => ?_)
  · skip
    exact h1 a1
  · skip
    refine zX_run (n' := 115) (ls' := [some (.inr (.inr (10, 0))), some (.inl w), some (.inr (.inl v)), none, some (.inl m), some (.inl r), some (.inl k)]) (st' := [.inl k, .inr (.inr (92, 0)), .inr (.inl v)]) (σ' := σ) 4 rfl ?_
    refine zX_ald1 (L := 1632) rfl (by decide) rfl (o1 a1) ?_
    refine zX_run (n' := 119) (ls' := [some (.inr (.inr (10, 0))), some (.inl w), some (.inr (.inl (zWl (v + (σ.1 92 0 (k.toNat)))))), none, some (.inl m), some (.inl r), some (.inl k)]) (st' := []) (σ' := σ) 3 rfl ?_
    exact h2 a1
-- X10_sum
theorem zb_169i {d : Nat} {σ : zS} {Q : Option zV → zS → Prop} {w v m r k : Int}
    (o1 : w = 5 → (0 : Int) ≤ r ∧ r < (17 : Int))
    (o2 : w = 5 → σ.1 62 0 (r.toNat) = 6 → (0 : Int) ≤ k ∧ k < (1632 : Int))
    (h1 : ¬ w = 5 → zX (d + 7) 169 136 [some (.inr (.inr (10, 0))), some (.inl w), some (.inr (.inl v)), none, some (.inl m), some (.inl r), some (.inl k)] [] σ Q)
    (h2 : w = 5 → ¬ σ.1 62 0 (r.toNat) = 6 → zX (d + 7) 169 136 [some (.inr (.inr (10, 0))), some (.inl w), some (.inr (.inl v)), none, some (.inl m), some (.inl r), some (.inl k)] [] σ Q)
    (h3 : w = 5 → σ.1 62 0 (r.toNat) = 6 → zX (d + 7) 169 136 [some (.inr (.inr (10, 0))), some (.inl w), some (.inr (.inl (zWl (v + (σ.1 93 0 (k.toNat)))))), none, some (.inl m), some (.inl r), some (.inl k)] [] σ Q) :
    zX (d + 7) 169 119 [some (.inr (.inr (10, 0))), some (.inl w), some (.inr (.inl v)), none, some (.inl m), some (.inl r), some (.inl k)] [] σ Q := by
  refine zX_run (n' := 121) (ls' := [some (.inr (.inr (10, 0))), some (.inl w), some (.inr (.inl v)), none, some (.inl m), some (.inl r), some (.inl k)]) (st' := [.inl 5, .inl w]) (σ' := σ) 2 rfl ?_
  refine zX_c1 rfl (fun a1 => ?_) (fun a1 => ?_)
  · skip
    exact h1 a1
  · skip
    refine zX_run (n' := 125) (ls' := [some (.inr (.inr (10, 0))), some (.inl w), some (.inr (.inl v)), none, some (.inl m), some (.inl r), some (.inl k)]) (st' := [.inl r, .inr (.inr (62, 0))]) (σ' := σ) 3 rfl ?_
    refine zX_ald1 (L := 17) rfl (by decide) rfl (o1 a1) ?_
    refine zX_run (n' := 127) (ls' := [some (.inr (.inr (10, 0))), some (.inl w), some (.inr (.inl v)), none, some (.inl m), some (.inl r), some (.inl k)]) (st' := [.inl 6, .inl (σ.1 62 0 (r.toNat))]) (σ' := σ) 1 rfl ?_
    refine zX_c1 rfl (fun a2 => ?_) (fun a2 => ?_)
    · skip
      exact h2 a1 a2
    · skip
      refine zX_run (n' := 132) (ls' := [some (.inr (.inr (10, 0))), some (.inl w), some (.inr (.inl v)), none, some (.inl m), some (.inl r), some (.inl k)]) (st' := [.inl k, .inr (.inr (93, 0)), .inr (.inl v)]) (σ' := σ) 4 rfl ?_
      refine zX_ald1 (L := 1632) rfl (by decide) rfl (o2 a1 a2) ?_
      refine zX_run (n' := 136) (ls' := [some (.inr (.inr (10, 0))), some (.inl w), some (.inr (.inl (zWl (v + (σ.1 93 0 (k.toNat)))))), none, some (.inl m), some (.inl r), some (.inl k)]) (st' := []) (σ' := σ) 3 rfl ?_
      exact h3 a1 a2
-- X10_sum
theorem zb_169j {d : Nat} {σ : zS} {Q : Option zV → zS → Prop} {w v m r k : Int}
    (o1 : w = 6 → (0 : Int) ≤ r ∧ r < (17 : Int))
    (o2 : w = 6 → ¬ 6 ≤ σ.1 62 0 (r.toNat) → m = 95 → (0 : Int) ≤ k ∧ k < (1632 : Int))
    (h1 : ¬ w = 6 → zX (d + 7) 169 98 [some (.inr (.inr (10, 0))), some (.inl w), some (.inr (.inl v)), none, some (.inl m), some (.inl (zW (r + 1))), some (.inl k)] [] σ Q)
    (h2 : w = 6 → 6 ≤ σ.1 62 0 (r.toNat) → zX (d + 7) 169 98 [some (.inr (.inr (10, 0))), some (.inl w), some (.inr (.inl v)), none, some (.inl m), some (.inl (zW (r + 1))), some (.inl k)] [] σ Q)
    (h3 : w = 6 → ¬ 6 ≤ σ.1 62 0 (r.toNat) → ¬ m = 95 → zX (d + 7) 169 98 [some (.inr (.inr (10, 0))), some (.inl w), some (.inr (.inl v)), none, some (.inl m), some (.inl (zW (r + 1))), some (.inl k)] [] σ Q)
    (h4 : w = 6 → ¬ 6 ≤ σ.1 62 0 (r.toNat) → m = 95 → zX (d + 7) 169 98 [some (.inr (.inr (10, 0))), some (.inl w), some (.inr (.inl (zWl (v + (σ.1 93 0 (k.toNat)))))), none, some (.inl m), some (.inl (zW (r + 1))), some (.inl k)] [] σ Q) :
    zX (d + 7) 169 136 [some (.inr (.inr (10, 0))), some (.inl w), some (.inr (.inl v)), none, some (.inl m), some (.inl r), some (.inl k)] [] σ Q := by
  refine zX_run (n' := 138) (ls' := [some (.inr (.inr (10, 0))), some (.inl w), some (.inr (.inl v)), none, some (.inl m), some (.inl r), some (.inl k)]) (st' := [.inl 6, .inl w]) (σ' := σ) 2 rfl ?_
  refine zX_c1 rfl (fun a1 => ?_) (fun a1 => ?_)
  · skip
    refine zX_run (n' := 98) (ls' := [some (.inr (.inr (10, 0))), some (.inl w), some (.inr (.inl v)), none, some (.inl m), some (.inl (zW (r + 1))), some (.inl k)]) (st' := []) (σ' := σ) 2 rfl ?_
    exact h1 a1
  · skip
    refine zX_run (n' := 142) (ls' := [some (.inr (.inr (10, 0))), some (.inl w), some (.inr (.inl v)), none, some (.inl m), some (.inl r), some (.inl k)]) (st' := [.inl r, .inr (.inr (62, 0))]) (σ' := σ) 3 rfl ?_
    refine zX_ald1 (L := 17) rfl (by decide) rfl (o1 a1) ?_
    refine zX_run (n' := 144) (ls' := [some (.inr (.inr (10, 0))), some (.inl w), some (.inr (.inl v)), none, some (.inl m), some (.inl r), some (.inl k)]) (st' := [.inl 6, .inl (σ.1 62 0 (r.toNat))]) (σ' := σ) 1 rfl ?_
    refine zX_c3 rfl (fun a2 => ?_) (fun a2 => ?_)
    · skip
      refine zX_run (n' := 98) (ls' := [some (.inr (.inr (10, 0))), some (.inl w), some (.inr (.inl v)), none, some (.inl m), some (.inl (zW (r + 1))), some (.inl k)]) (st' := []) (σ' := σ) 2 rfl ?_
      exact h2 a1 a2
    · skip
      refine zX_run (n' := 147) (ls' := [some (.inr (.inr (10, 0))), some (.inl w), some (.inr (.inl v)), none, some (.inl m), some (.inl r), some (.inl k)]) (st' := [.inl 95, .inl m]) (σ' := σ) 2 rfl ?_
      refine zX_c1 rfl (fun a3 => ?_) (fun a3 => ?_)
      · skip
        refine zX_run (n' := 98) (ls' := [some (.inr (.inr (10, 0))), some (.inl w), some (.inr (.inl v)), none, some (.inl m), some (.inl (zW (r + 1))), some (.inl k)]) (st' := []) (σ' := σ) 2 rfl ?_
        exact h3 a1 a2 a3
      · skip
        refine zX_run (n' := 152) (ls' := [some (.inr (.inr (10, 0))), some (.inl w), some (.inr (.inl v)), none, some (.inl m), some (.inl r), some (.inl k)]) (st' := [.inl k, .inr (.inr (93, 0)), .inr (.inl v)]) (σ' := σ) 4 rfl ?_
        refine zX_ald1 (L := 1632) rfl (by decide) rfl (o2 a1 a2 a3) ?_
        refine zX_run (n' := 98) (ls' := [some (.inr (.inr (10, 0))), some (.inl w), some (.inr (.inl (zWl (v + (σ.1 93 0 (k.toNat)))))), none, some (.inl m), some (.inl (zW (r + 1))), some (.inl k)]) (st' := []) (σ' := σ) 5 rfl ?_
        exact h4 a1 a2 a3
