-- a month's bounds, and all months'
def uVk (D V : uT) (B : Int) : Prop := (∀ r, r < 7 → (D 3 r = 0 → V 0 r = 0) ∧ (¬ D 3 r = 0 → 0 ≤ V 0 r ∧ V 0 r ≤ D 4 r) ∧ 0 ≤ V 1 r) ∧ (∀ h, h < uN D → 0 ≤ V 2 h ∧ V 2 h ≤ 99999 ∧ V 2 h * uHun (D 8 h) ≤ 1999980 ∧ 0 ≤ V 3 h) ∧ uSum (V 1) 7 + uSum (V 3) (uN D) ≤ B
theorem uSum_step {f g : Nat → Int} {r n : Nat} : uSum (fun h => if g h < ((r + 1 : Nat) : Int) then f h else 0) n = uSum (fun h => if g h < (r : Int) then f h else 0) n + uSum (fun h => if g h = (r : Int) then f h else 0) n := by
  rw [← uSum_add]
  refine uSum_congr (fun k _ => ?_)
  try dsimp only
  by_cases h1 : g k < (r : Int)
  · rw [if_pos h1, if_pos (by omega), if_neg (by omega)]; omega
  · by_cases h2 : g k = (r : Int)
    · rw [if_neg h1, if_pos h2, if_pos (by omega)]; omega
    · rw [if_neg h1, if_neg h2, if_neg (by omega)]; omega
theorem uRet_b {D V : uT} {B : Int} {r : Nat} (hV : uVk D V B) : 0 ≤ uRet D V r ∧ 0 ≤ uRetS D V r := by
  refine ⟨uSum_nn (fun h hh => ?_), uSum_nn (fun h hh => ?_)⟩
  · (try dsimp only); split
    · have := hV.2.1 h hh; exact (uGb_b this.1 this.2.2.1).2.1
    · omega
  · (try dsimp only); split
    · have := hV.2.1 h hh; exact this.2.2.2
    · omega
theorem uReach_b {D V : uT} {B : Int} {m r : Nat} {q : uQ} (O : uOk D) (hr : r < 7) (hm : m < 96) (hV : uVk D V B) (h1 : 0 ≤ q.1) (h2 : 0 ≤ q.2.1) :
    (q.1 ≤ uCm D V m r q ∧ uCm D V m r q ≤ q.1 + 249975 + uRet D V r) ∧ (0 ≤ uCs D V m r q ∧ uCs D V m r q ≤ q.2.1 + 24748 + uRetS D V r) ∧ 0 ≤ uWat D V m r q ∧ (uWat D V m r q ≤ 19998 ∨ uWat D V m r q ≤ uCm D V m r q) ∧ 0 ≤ uWs D V m r q ∧ 0 ≤ uLsl D V m r q ∧ uWs D V m r q + uLsl D V m r q = V 1 r + uCs D V m r q ∧ (D 3 r = 0 → uLev D V m r q = 0) ∧ (¬ D 3 r = 0 → 0 ≤ uLev D V m r q ∧ uLev D V m r q ≤ D 4 r) ∧ (¬ D 3 r = 0 → 0 ≤ uStm D V r ∧ uStm D V r ≤ V 0 r ∧ V 0 r ≤ 99999 ∧ 0 ≤ uIn D V m r q ∧ 0 ≤ uOut D V m r q ∧ uOut D V m r q ≤ uIn D V m r q ∧ 0 ≤ uOutS D V m r q ∧ uOutS D V m r q ≤ uInS D V m r q) := by
  have R := uRet_b (r := r) hV
  have S := O.1 r m hr hm
  have T := O.2.2.1 r hr
  have v := hV.1 r hr
  have p1 : 0 ≤ D 0 (96 * r + m) * D 2 r := Int.mul_nonneg S.1 T.1
  have p2 : D 0 (96 * r + m) * D 2 r ≤ 249975 * 99 := Int.mul_le_mul S.2 T.2 T.1 (by decide)
  have c1 : q.1 ≤ uCm D V m r q ∧ uCm D V m r q ≤ q.1 + 249975 + uRet D V r := by unfold uCm; omega
  have c2 : 0 ≤ uCs D V m r q ∧ uCs D V m r q ≤ q.2.1 + 24748 + uRetS D V r := by unfold uCs; omega
  by_cases ht : D 3 r = 0
  · have e1 : uWat D V m r q = uCm D V m r q := if_pos ht
    have e2 : uWs D V m r q = uCs D V m r q := if_pos ht
    have e3 : uLsl D V m r q = V 1 r := if_pos ht
    have e4 : uLev D V m r q = V 0 r := if_pos ht
    rw [e1, e2, e3, e4]
    refine ⟨c1, c2, by omega, Or.inr (Int.le_refl _), c2.1, v.2.2, by omega, fun _ => v.1 ht, fun q => absurd ht q, fun q => absurd ht q⟩
  · have e1 : uWat D V m r q = uOut D V m r q := if_neg ht
    have e2 : uWs D V m r q = uOutS D V m r q := if_neg ht
    have e3 : uLsl D V m r q = uInS D V m r q - uOutS D V m r q := if_neg ht
    have e4 : uLev D V m r q = uIn D V m r q - uOut D V m r q := if_neg ht
    have K := O.2.2.2.1 r hr ht
    obtain ⟨k1, k2, k3, k4, k5, k6, k7⟩ := K
    have l := v.2.1 ht
    have st := uSteam_b (lev := V 0 r) (surf := D 6 r) ⟨l.1, by omega⟩ ⟨k4, k5⟩
    have st2 : 0 ≤ uStm D V r ∧ uStm D V r ≤ V 0 r := st
    have i1 : uIn D V m r q = V 0 r - uStm D V r + uCm D V m r q := rfl
    have i2 : uInS D V m r q = V 1 r + uCs D V m r q := rfl
    have o1 : 0 ≤ uOut D V m r q ∧ uOut D V m r q ≤ uIn D V m r q ∧ uIn D V m r q - uOut D V m r q ≤ D 4 r ∧ (uOut D V m r q ≤ 19998 ∨ uOut D V m r q ≤ uCm D V m r q) := by
      unfold uOut uMax uMin
      split <;> split <;> omega
    have s1 : 0 ≤ uOutS D V m r q ∧ uOutS D V m r q ≤ uInS D V m r q := by
      unfold uOutS
      split
      · omega
      · exact uShare (by omega) o1.1 (by omega) o1.2.1
    rw [e1, e2, e3, e4]
    refine ⟨c1, c2, o1.1, o1.2.2.2, s1.1, by omega, by omega, fun q => absurd q ht, fun _ => by omega, fun _ => by omega⟩
theorem uA_b {D V : uT} {B : Int} {m : Nat} {w : Nat → Int} (O : uOk D) (hm : m < 96) (hV : uVk D V B) (hw : ∀ h, h < uN D → 0 ≤ w h ∧ w h ≤ 99999) : ∀ r, r ≤ 7 →
    (0 ≤ (uA D V m w (uOrd D) r).1 ∧ (uA D V m w (uOrd D) r).1 ≤ 19998 + r * 249975 + uSum (fun h => if D 10 h + 1 < (r : Int) then uBack D h (V 2 h) else 0) (uN D)) ∧
    (0 ≤ (uA D V m w (uOrd D) r).2.1 ∧ (uA D V m w (uOrd D) r).2.1 + uSum (fun x => uLsl D V m x (uA D V m w (uOrd D) x)) r + uSum (fun h => if D 10 h < (r : Int) then (uA D V m w (uOrd D) r).2.2.2 h else 0) (uN D) ≤ uSum (V 1) r + uSum (fun h => if D 10 h + 1 < (r : Int) then V 3 h else 0) (uN D) + r * 24748 + uSum (fun h => if D 10 h < (r : Int) then 2000 else 0) (uN D)) ∧
    (∀ h, h < uN D → D 10 h < (r : Int) → (0 ≤ (uA D V m w (uOrd D) r).2.2.1 h ∧ (uA D V m w (uOrd D) r).2.2.1 h ≤ w h) ∧ 0 ≤ (uA D V m w (uOrd D) r).2.2.2 h)
  | 0, _ => by
    have z : ∀ (g f : Nat → Int), (∀ h, h < uN D → ¬ g h < ((0 : Nat) : Int)) → uSum (fun h => if g h < ((0 : Nat) : Int) then f h else 0) (uN D) = 0 := fun g f h => by
      rw [uSum_congr (g := fun _ => 0) (fun k hk => if_neg (h k hk)), uSum_const]; omega
    have r0 : ∀ h, h < uN D → 0 ≤ D 10 h := fun h hh => (O.2.2.2.2.2 h hh).2.2.1.1
    refine ⟨⟨Int.le_refl _, ?_⟩, ⟨Int.le_refl _, ?_⟩, fun h hh hn => absurd hn (by have := r0 h hh; omega)⟩
    · rw [z (fun h => D 10 h + 1) _ (fun h hh => by have := r0 h hh; omega)]; show (0 : Int) ≤ _; omega
    · rw [z (fun h => D 10 h) _ (fun h hh => by have := r0 h hh; omega), z (fun h => D 10 h + 1) _ (fun h hh => by have := r0 h hh; omega), z (fun h => D 10 h) _ (fun h hh => by have := r0 h hh; omega)]
      show (0 : Int) + 0 + 0 ≤ 0 + 0 + _ + 0; omega
  | r + 1, hr => by
    obtain ⟨⟨a1, a2⟩, ⟨b1, b2⟩, c⟩ := uA_b O hm hV hw r (by omega)
    have R := uReach_b (r := r) (q := uA D V m w (uOrd D) r) O (by omega) hm hV a1 b1
    obtain ⟨r1, r2, r3, r4, r5, r6, r7, -, -, -⟩ := R
    have hw2 : ∀ h, h ∈ uOrd D → 0 ≤ w h ∧ w h ≤ 99999 := fun h hh => hw h (uOrd_mem.mp hh)
    have Sb := uServe_b (D := D) (w := w) (r := r) (L := uOrd D) (q := (uWat D V m r (uA D V m w (uOrd D) r), uWs D V m r (uA D V m w (uOrd D) r), (uA D V m w (uOrd D) r).2.2.1, (uA D V m w (uOrd D) r).2.2.2)) (fun h hh => (hw2 h hh).1) r3 r5
    have Ss := uServe_s (D := D) (w := w) (r := r) (L := uOrd D) (q := (uWat D V m r (uA D V m w (uOrd D) r), uWs D V m r (uA D V m w (uOrd D) r), (uA D V m w (uOrd D) r).2.2.1, (uA D V m w (uOrd D) r).2.2.2)) uOrd_nd hw2 r3 r5
    rw [uLs_ord, uLs_ord] at Ss
    have So := fun x hx => uServe_o (D := D) (w := w) (r := r) (L := uOrd D) (q := (uWat D V m r (uA D V m w (uOrd D) r), uWs D V m r (uA D V m w (uOrd D) r), (uA D V m w (uOrd D) r).2.2.1, (uA D V m w (uOrd D) r).2.2.2)) (x := x) hx
    have Sg := fun x hx1 hx2 => uServe_g (D := D) (w := w) (r := r) (L := uOrd D) (q := (uWat D V m r (uA D V m w (uOrd D) r), uWs D V m r (uA D V m w (uOrd D) r), (uA D V m w (uOrd D) r).2.2.1, (uA D V m w (uOrd D) r).2.2.2)) (x := x) uOrd_nd (fun h hh => (hw2 h hh).1) r3 r5 hx1 hx2
    have eA : uA D V m w (uOrd D) (r + 1) = uServe D w r (uOrd D) (uWat D V m r (uA D V m w (uOrd D) r), uWs D V m r (uA D V m w (uOrd D) r), (uA D V m w (uOrd D) r).2.2.1, (uA D V m w (uOrd D) r).2.2.2) := rfl
    rw [← eA] at Sb Ss
    have e1 : uSum (fun h => if D 10 h + 1 < ((r + 1 : Nat) : Int) then uBack D h (V 2 h) else 0) (uN D) = uSum (fun h => if D 10 h + 1 < (r : Int) then uBack D h (V 2 h) else 0) (uN D) + uRet D V r := uSum_step (g := fun h => D 10 h + 1)
    have e2 : uSum (fun h => if D 10 h + 1 < ((r + 1 : Nat) : Int) then V 3 h else 0) (uN D) = uSum (fun h => if D 10 h + 1 < (r : Int) then V 3 h else 0) (uN D) + uRetS D V r := uSum_step (g := fun h => D 10 h + 1)
    have e3 : uSum (fun h => if D 10 h < ((r + 1 : Nat) : Int) then (2000 : Int) else 0) (uN D) = uSum (fun h => if D 10 h < (r : Int) then 2000 else 0) (uN D) + uSum (fun h => if D 10 h = (r : Int) then 2000 else 0) (uN D) := uSum_step (g := fun h => D 10 h)
    have e4 : uSum (fun h => if D 10 h < ((r + 1 : Nat) : Int) then (uA D V m w (uOrd D) (r + 1)).2.2.2 h else 0) (uN D) = uSum (fun h => if D 10 h < (r : Int) then (uA D V m w (uOrd D) (r + 1)).2.2.2 h else 0) (uN D) + uSum (fun h => if D 10 h = (r : Int) then (uA D V m w (uOrd D) (r + 1)).2.2.2 h else 0) (uN D) := uSum_step (g := fun h => D 10 h)
    have e5 : uSum (fun h => if D 10 h < (r : Int) then (uA D V m w (uOrd D) (r + 1)).2.2.2 h else 0) (uN D) = uSum (fun h => if D 10 h < (r : Int) then (uA D V m w (uOrd D) r).2.2.2 h else 0) (uN D) := uSum_congr (fun h _ => by
      try dsimp only
      split
      · rename_i hlt
        rw [eA, (So h (Or.inl (by omega))).2]
      · rfl)
    have e6 : ((r + 1 : Nat) : Int) = (r : Int) + 1 := rfl
    have w1 : (uA D V m w (uOrd D) (r + 1)).1 ≤ uWat D V m r (uA D V m w (uOrd D) r) := Sb.2.1
    have cum : 0 ≤ uSum (fun h => if D 10 h + 1 < (r : Int) then uBack D h (V 2 h) else 0) (uN D) := uSum_nn (fun h hh => by
      try dsimp only
      split
      · have := hV.2.1 h hh; exact (uGb_b this.1 this.2.2.1).2.1
      · omega)
    have rt := (uRet_b (r := r) hV).1
    have s1 : (uA D V m w (uOrd D) (r + 1)).2.1 + uSum (fun h => if D 10 h = (r : Int) then (uA D V m w (uOrd D) (r + 1)).2.2.2 h else 0) (uN D) ≤ uWs D V m r (uA D V m w (uOrd D) r) + uSum (fun h => if D 10 h = (r : Int) then 2000 else 0) (uN D) := Ss
    have l1 : uSum (fun x => uLsl D V m x (uA D V m w (uOrd D) x)) (r + 1) = uSum (fun x => uLsl D V m x (uA D V m w (uOrd D) x)) r + uLsl D V m r (uA D V m w (uOrd D) r) := rfl
    have l2 : uSum (V 1) (r + 1) = uSum (V 1) r + V 1 r := rfl
    refine ⟨⟨Sb.1, ?_⟩, ⟨Sb.2.2.1, ?_⟩, fun h hh hlt => ?_⟩
    · rw [e1, e6]; rcases r4 with r4 | r4 <;> omega
    · rw [e4, e5, e3, e2, l1, l2, e6]; omega
    · by_cases h2 : D 10 h < (r : Int)
      · rw [eA, (So h (Or.inl (by omega))).1, (So h (Or.inl (by omega))).2]; exact c h hh h2
      · have := Sg h (by omega) (uOrd_mem.mpr hh)
        rw [eA]; exact this
/-- all that a month's numbers keep to -/
theorem uAm_b {D V : uT} {B : Int} {m : Nat} (O : uOk D) (hm : m < 96) (hV : uVk D V B) {r : Nat} (hr : r ≤ 7) :
    (0 ≤ (uAm D V m r).1 ∧ (uAm D V m r).1 ≤ 19998 + r * 249975 + uSum (fun h => if D 10 h + 1 < (r : Int) then uBack D h (V 2 h) else 0) (uN D)) ∧
    (0 ≤ (uAm D V m r).2.1 ∧ (uAm D V m r).2.1 + uSum (fun x => uLsl D V m x (uAm D V m x)) r + uSum (fun h => if D 10 h < (r : Int) then (uAm D V m r).2.2.2 h else 0) (uN D) ≤ uSum (V 1) r + uSum (fun h => if D 10 h + 1 < (r : Int) then V 3 h else 0) (uN D) + r * 24748 + uSum (fun h => if D 10 h < (r : Int) then 2000 else 0) (uN D)) ∧
    (∀ h, h < uN D → D 10 h < (r : Int) → (0 ≤ (uAm D V m r).2.2.1 h ∧ (uAm D V m r).2.2.1 h ≤ uWants D h m (uLevs D V)) ∧ 0 ≤ (uAm D V m r).2.2.2 h) :=
  uA_b O hm hV (fun h hh => by have := uWants_b (lev := uLevs D V) O hh hm; exact ⟨this.1, this.2.1⟩) r hr
theorem uCum_b {D V : uT} {B : Int} (O : uOk D) (hV : uVk D V B) (r : Nat) : 0 ≤ uSum (fun h => if D 10 h + 1 < (r : Int) then uBack D h (V 2 h) else 0) (uN D) ∧ uSum (fun h => if D 10 h + 1 < (r : Int) then uBack D h (V 2 h) else 0) (uN D) ≤ 319984 := by
  constructor
  · exact uSum_nn (fun h hh => by
      try dsimp only
      split
      · have := hV.2.1 h hh; exact (uGb_b this.1 this.2.2.1).2.1
      · omega)
  · refine Int.le_trans (uSum_le (g := fun _ => 19999) (fun h hh => ?_)) ?_
    · try dsimp only
      split
      · have := hV.2.1 h hh; exact (uGb_b this.1 this.2.2.1).2.2
      · omega
    · rw [uSum_const]; have := O.2.2.2.2.1; omega
theorem uCnt_b {D : uT} (O : uOk D) (p : Nat → Prop) [DecidablePred p] : uSum (fun h => if p h then 2000 else 0) (uN D) ≤ 32000 := by
  refine Int.le_trans (uSum_le (g := fun _ => 2000) (fun h hh => ?_)) ?_
  · (try dsimp only); split <;> omega
  · rw [uSum_const]; have := O.2.2.2.2.1; omega
theorem uPart_b {f : Nat → Int} {p : Nat → Prop} [DecidablePred p] {n : Nat} (h : ∀ k, k < n → 0 ≤ f k) : 0 ≤ uSum (fun k => if p k then f k else 0) n ∧ uSum (fun k => if p k then f k else 0) n ≤ uSum f n := by
  constructor
  · exact uSum_nn (fun k hk => by (try dsimp only); split; exact h k hk; omega)
  · exact uSum_le (fun k hk => by (try dsimp only); split; omega; exact h k hk)
theorem uPre_le {f : Nat → Int} {a b : Nat} (h : ∀ k, k < b → 0 ≤ f k) (hab : a ≤ b) : uSum f a ≤ uSum f b := by
  induction b with
  | zero => rw [show a = 0 by omega]; exact Int.le_refl _
  | succ b ih =>
    by_cases e : a = b + 1
    · subst e; exact Int.le_refl _
    · have := ih (fun k hk => h k (by omega)) (by omega)
      have := h b (by omega)
      show _ ≤ uSum f b + f b
      omega
theorem uNx_k {D V : uT} {B : Int} {m : Nat} (O : uOk D) (hm : m < 96) (hV : uVk D V B) : uVk D (uNx D m V) (B + 205236) := by
  have A := uAm_b O hm hV (r := 7) (Nat.le_refl _)
  obtain ⟨-, ⟨b1, b2⟩, c⟩ := A
  have Rr : ∀ r, r < 7 → _ := fun r hr => uReach_b (r := r) (q := uAm D V m r) O hr hm hV (uAm_b O hm hV (r := r) (by omega)).1.1 (uAm_b O hm hV (r := r) (by omega)).2.1.1
  have r7 : ∀ h, h < uN D → D 10 h < ((7 : Nat) : Int) := fun h hh => by have := (O.2.2.2.2.2 h hh).2.2.1.2; omega
  refine ⟨fun r hr => ?_, fun h hh => ?_, ?_⟩
  · obtain ⟨-, -, -, -, -, r6, -, r8, r9, -⟩ := Rr r hr
    exact ⟨r8, r9, r6⟩
  · have ww := uWants_b (lev := uLevs D V) O hh hm
    have cc := c h hh (r7 h hh)
    have hu : 0 ≤ uHun (D 8 h) := by unfold uHun; (repeat' split) <;> omega
    refine ⟨cc.1.1, Int.le_trans cc.1.2 ww.2.1, Int.le_trans (Int.mul_le_mul_of_nonneg_right cc.1.2 hu) ww.2.2, cc.2⟩
  · have e1 : uSum (fun h => if D 10 h < ((7 : Nat) : Int) then (uAm D V m 7).2.2.2 h else 0) (uN D) = uSum (uNx D m V 3) (uN D) := uSum_congr (fun h hh => if_pos (r7 h hh))
    have e2 : uSum (fun x => uLsl D V m x (uAm D V m x)) 7 = uSum (uNx D m V 1) 7 := rfl
    have p := uPart_b (f := V 3) (p := fun h => D 10 h + 1 < ((7 : Nat) : Int)) (n := uN D) (fun h hh => (hV.2.1 h hh).2.2.2)
    have k := uCnt_b O (fun h => D 10 h < ((7 : Nat) : Int))
    have t := hV.2.2
    rw [e1, e2] at b2
    have : ((7 : Nat) : Int) = 7 := rfl
    omega
theorem uV_k {D : uT} (O : uOk D) : ∀ m, m ≤ 96 → uVk D (uV D m) (m * 205236)
  | 0, _ => by
    refine ⟨fun r hr => ⟨fun h => if_pos h, fun h => ?_, Int.le_refl _⟩, fun h hh => ⟨Int.le_refl _, by show (0 : Int) ≤ _; omega, by show (0 : Int) * _ ≤ _; rw [Int.zero_mul]; omega, Int.le_refl _⟩, ?_⟩
    · have := O.2.2.2.1 r hr h
      show 0 ≤ (if D 3 r = 0 then 0 else D 5 r) ∧ (if D 3 r = 0 then 0 else D 5 r) ≤ D 4 r
      rw [if_neg h]; exact ⟨this.1, this.2.1⟩
    · show uSum (fun _ => 0) 7 + uSum (fun _ => 0) (uN D) ≤ _
      rw [uSum_const, uSum_const]; omega
  | m + 1, hm => by
    have I := uNx_k (m := m) O (by omega) (uV_k O m (by omega))
    have e : ((m + 1 : Nat) : Int) * 205236 = (m : Int) * 205236 + 205236 := by omega
    rw [e]; exact I
/-- the numbers of month m at reach r, V its beginning -/
theorem uBd {D V : uT} {m r : Nat} (O : uOk D) (hm : m < 96) (hr : r < 7) (hV : uVk D V (m * 205236)) :
    (0 ≤ (uAm D V m r).1 ∧ (uAm D V m r).1 ≤ 2089807) ∧ (0 ≤ (uAm D V m r).2.1 ∧ (uAm D V m r).2.1 ≤ 25000000) ∧ (0 ≤ uRet D V r ∧ uRet D V r ≤ 319984) ∧ (0 ≤ uRetS D V r ∧ uRetS D V r ≤ 25000000) ∧ (0 ≤ uCm D V m r (uAm D V m r) ∧ uCm D V m r (uAm D V m r) ≤ 2089807) ∧ (0 ≤ uCs D V m r (uAm D V m r) ∧ uCs D V m r (uAm D V m r) ≤ 25000000) ∧ (0 ≤ V 1 r ∧ V 1 r ≤ 25000000) ∧ (0 ≤ uWat D V m r (uAm D V m r) ∧ uWat D V m r (uAm D V m r) ≤ 2089807) ∧ (0 ≤ uWs D V m r (uAm D V m r) ∧ uWs D V m r (uAm D V m r) ≤ 25000000) ∧ (0 ≤ uInS D V m r (uAm D V m r) ∧ uInS D V m r (uAm D V m r) ≤ 25000000) := by
  have A := uAm_b O hm hV (r := r) (by omega)
  obtain ⟨⟨a1, a2⟩, ⟨b1, b2⟩, c⟩ := A
  have R := uReach_b (r := r) (q := uAm D V m r) O hr hm hV a1 b1
  obtain ⟨r1, r2, r3, r4, r5, r6, r7, -, -, r10⟩ := R
  have cu := uCum_b O hV r
  have cu2 := uCum_b O hV (r + 1)
  have e1 : uSum (fun h => if D 10 h + 1 < ((r + 1 : Nat) : Int) then uBack D h (V 2 h) else 0) (uN D) = uSum (fun h => if D 10 h + 1 < (r : Int) then uBack D h (V 2 h) else 0) (uN D) + uRet D V r := uSum_step (g := fun h => D 10 h + 1)
  have e2 : uSum (fun h => if D 10 h + 1 < ((r + 1 : Nat) : Int) then V 3 h else 0) (uN D) = uSum (fun h => if D 10 h + 1 < (r : Int) then V 3 h else 0) (uN D) + uRetS D V r := uSum_step (g := fun h => D 10 h + 1)
  have rt := uRet_b (r := r) hV
  have p2 := uPart_b (f := V 3) (p := fun h => D 10 h + 1 < ((r + 1 : Nat) : Int)) (n := uN D) (fun h hh => (hV.2.1 h hh).2.2.2)
  have k := uCnt_b O (fun h => D 10 h < (r : Int))
  have t := hV.2.2
  have v1 : ∀ x, x < 7 → 0 ≤ V 1 x := fun x hx => (hV.1 x hx).2.2
  have q1 : uSum (V 1) (r + 1) ≤ uSum (V 1) 7 := uPre_le v1 (by omega)
  have q2 : uSum (V 1) (r + 1) = uSum (V 1) r + V 1 r := rfl
  have q3 : 0 ≤ uSum (V 1) r := uSum_nn (fun x hx => v1 x (by omega))
  have v3 : 0 ≤ uSum (V 3) (uN D) := uSum_nn (fun h hh => (hV.2.1 h hh).2.2.2)
  have l : 0 ≤ uSum (fun x => uLsl D V m x (uAm D V m x)) r := uSum_nn (fun x hx => by
    have A := uAm_b O hm hV (r := x) (by omega)
    exact (uReach_b (r := x) (q := uAm D V m x) O (by omega) hm hV A.1.1 A.2.1.1).2.2.2.2.2.1)
  have kk : 0 ≤ uSum (fun h => if D 10 h < (r : Int) then (uAm D V m r).2.2.2 h else 0) (uN D) := uSum_nn (fun h hh => by
    try dsimp only
    split
    · rename_i hlt; exact (c h hh hlt).2
    · omega)
  have p0 : 0 ≤ uSum (fun h => if D 10 h + 1 < (r : Int) then V 3 h else 0) (uN D) := (uPart_b (f := V 3) (n := uN D) (fun h hh => (hV.2.1 h hh).2.2.2)).1
  have v := v1 r hr
  have i2 : uInS D V m r (uAm D V m r) = V 1 r + uCs D V m r (uAm D V m r) := rfl
  refine ⟨⟨a1, by omega⟩, ⟨b1, by omega⟩, ⟨rt.1, by omega⟩, ⟨rt.2, by omega⟩, ⟨by omega, by omega⟩, ⟨r2.1, by omega⟩, ⟨v, by omega⟩, ⟨r3, ?_⟩, ⟨r5, by omega⟩, ⟨by omega, by omega⟩⟩
  rcases r4 with r4 | r4 <;> omega
