-- what the months stand on: of the holds, only those that are counted (wip/whole/gen/laws57.py)
def uAg (D D' : uT) : Prop := (∀ f, f < 8 ∨ 16 ≤ f → D f = D' f) ∧ (∀ f h, 8 ≤ f → f ≤ 14 → h < uN D → D f h = D' f h) ∧ (∀ h m, h < uN D → m < 96 → D 15 (96 * h + m) = D' 15 (96 * h + m))
theorem ag_n {D D' : uT} (A : uAg D D') : uN D' = uN D := by unfold uN; rw [A.1 19 (by decide)]
theorem ag_nm {D D' : uT} (A : uAg D D') {h m : Nat} {lev : Int} (hh : h < uN D) : uNm D h m lev = uNm D' h m lev := by
  refine funext fun c => ?_
  unfold uNm
  rw [A.2.1 8 h (by decide) (by decide) hh, A.2.1 12 h (by decide) (by decide) hh, A.1 1 (by decide), A.2.1 10 h (by decide) (by decide) hh, A.2.1 9 h (by decide) (by decide) hh]
theorem ag_part {D D' : uT} (A : uAg D D') {h p : Nat} (hh : h < uN D) : uPart D h p = uPart D' h p := by
  unfold uPart uCode
  rw [A.2.1 9 h (by decide) (by decide) hh, A.1 16 (by decide), A.1 17 (by decide), A.1 18 (by decide)]
theorem ag_says {D D' : uT} (A : uAg D D') {h m p : Nat} {lev : Int} (hh : h < uN D) : uSays D h m lev p = uSays D' h m lev p := by
  unfold uSays
  rw [ag_nm A hh, ag_part A hh]
theorem ag_wb {D D' : uT} (A : uAg D D') {h m : Nat} {lev : Int} (hh : h < uN D) : uWb D h m lev = uWb D' h m lev := by
  unfold uWb uAsks
  rw [ag_says A hh, ag_says A hh, A.2.1 8 h (by decide) (by decide) hh, A.2.1 11 h (by decide) (by decide) hh, A.1 1 (by decide), A.2.1 10 h (by decide) (by decide) hh]
theorem ag_wants {D D' : uT} (A : uAg D D') {h m : Nat} {lev : Int} (hh : h < uN D) (hm : m < 96) : uWants D h m lev = uWants D' h m lev := by
  unfold uWants
  rw [ag_wb A hh, A.1 19 (by decide), A.2.1 13 h (by decide) (by decide) hh, A.2.1 14 h (by decide) (by decide) hh, A.2.2 h m hh hm]
theorem uIns_cg {lt lt' : Nat → Nat → Bool} {h : Nat} : ∀ {L : List Nat}, (∀ x, x ∈ L → lt h x = lt' h x) → uIns lt h L = uIns lt' h L
  | [], _ => rfl
  | x :: L, H => by
    unfold uIns
    rw [H x List.mem_cons_self, uIns_cg (L := L) (fun y hy => H y (List.mem_cons_of_mem _ hy))]
theorem uSrt_cg {lt lt' : Nat → Nat → Bool} : ∀ {n : Nat}, (∀ h x, h < n → x < n → lt h x = lt' h x) → uSrt lt n = uSrt lt' n
  | 0, _ => rfl
  | n + 1, H => by
    unfold uSrt
    rw [uSrt_cg (n := n) (fun h x h1 h2 => H h x (by omega) (by omega))]
    exact uIns_cg (fun x hx => H n x (by omega) (by have := uSrt_mem.mp hx; omega))
theorem ag_ord {D D' : uT} (A : uAg D D') : uOrd D = uOrd D' := by
  unfold uOrd
  rw [ag_n A, uSrt_cg (fun h x h1 h2 => ?_)]
  unfold uLt
  rw [A.2.1 8 h (by decide) (by decide) h1, A.2.1 12 h (by decide) (by decide) h1, A.2.1 8 x (by decide) (by decide) h2, A.2.1 12 x (by decide) (by decide) h2]
theorem ag_ordC {D D' : uT} (A : uAg D D') : uOrdC D = uOrdC D' := by
  unfold uOrdC
  rw [ag_n A, uSrt_cg (fun h x h1 h2 => ?_)]
  unfold uLtC
  rw [A.2.1 8 h (by decide) (by decide) h1, A.2.1 12 h (by decide) (by decide) h1, A.2.1 8 x (by decide) (by decide) h2, A.2.1 12 x (by decide) (by decide) h2, A.2.1 10 h (by decide) (by decide) h1, A.2.1 10 x (by decide) (by decide) h2]
theorem ag_serve {D D' : uT} {w w' : Nat → Int} {r : Nat} : ∀ {L : List Nat} {q : uQ}, (∀ h, h ∈ L → w h = w' h ∧ D 10 h = D' 10 h) → uServe D w r L q = uServe D' w' r L q
  | [], _, _ => rfl
  | h :: L, q, H => by
    have a := H h List.mem_cons_self
    unfold uServe
    rw [a.1, a.2]
    exact ag_serve (fun x hx => H x (List.mem_cons_of_mem _ hx))
theorem ag_ret {D D' V : uT} (A : uAg D D') {r : Nat} : uRet D V r = uRet D' V r ∧ uRetS D V r = uRetS D' V r := by
  constructor
  · unfold uRet
    rw [ag_n A]
    refine uSum_congr (fun h hh => ?_)
    show (if _ then uGb (D 8 h) _ else 0) = if _ then uGb (D' 8 h) _ else 0
    rw [A.2.1 8 h (by decide) (by decide) hh, A.2.1 10 h (by decide) (by decide) hh]
  · unfold uRetS
    rw [ag_n A]
    refine uSum_congr (fun h hh => ?_)
    show (if D 10 h + 1 = (r : Int) then V 3 h else 0) = if D' 10 h + 1 = (r : Int) then V 3 h else 0
    rw [A.2.1 10 h (by decide) (by decide) hh]
theorem ag_r {D D' V : uT} (A : uAg D D') {m r : Nat} {q : uQ} : uCm D V m r q = uCm D' V m r q ∧ uCs D V m r q = uCs D' V m r q ∧ uStm D V r = uStm D' V r ∧ uWat D V m r q = uWat D' V m r q ∧ uWs D V m r q = uWs D' V m r q ∧ uLev D V m r q = uLev D' V m r q ∧ uLsl D V m r q = uLsl D' V m r q := by
  have c : uCm D V m r q = uCm D' V m r q := by unfold uCm; rw [A.1 0 (by decide), (ag_ret A).1]
  have s : uCs D V m r q = uCs D' V m r q := by unfold uCs; rw [A.1 0 (by decide), A.1 2 (by decide), (ag_ret A).2]
  have st : uStm D V r = uStm D' V r := by unfold uStm; rw [A.1 6 (by decide)]
  have i : uIn D V m r q = uIn D' V m r q := by unfold uIn; rw [st, c]
  have is : uInS D V m r q = uInS D' V m r q := by unfold uInS; rw [s]
  have o : uOut D V m r q = uOut D' V m r q := by unfold uOut; rw [i, A.1 7 (by decide), A.1 4 (by decide)]
  have os : uOutS D V m r q = uOutS D' V m r q := by unfold uOutS; rw [i, is, o]
  refine ⟨c, s, st, ?_, ?_, ?_, ?_⟩
  · unfold uWat; rw [A.1 3 (by decide), c, o]
  · unfold uWs; rw [A.1 3 (by decide), s, os]
  · unfold uLev; rw [A.1 3 (by decide), i, o]
  · unfold uLsl; rw [A.1 3 (by decide), is, os]
theorem ag_A {D D' V : uT} (A : uAg D D') {m : Nat} {w w' : Nat → Int} (hw : ∀ h, h < uN D → w h = w' h) : ∀ {r : Nat}, uA D V m w (uOrd D) r = uA D' V m w' (uOrd D') r
  | 0 => rfl
  | r + 1 => by
    unfold uA
    rw [ag_A (r := r) A hw, (ag_r A).2.2.2.1, (ag_r A).2.2.2.2.1, ← ag_ord A]
    exact ag_serve (fun h hh => ⟨hw h (uOrd_mem.mp hh), A.2.1 10 h (by decide) (by decide) (uOrd_mem.mp hh)⟩)
theorem ag_lev {D D' V : uT} (A : uAg D D') : uLevs D V = uLevs D' V := by unfold uLevs; rw [A.1 3 (by decide)]
theorem ag_Am {D D' V : uT} (A : uAg D D') {m r : Nat} (hm : m < 96) : uAm D V m r = uAm D' V m r := by
  unfold uAm
  rw [← ag_lev A]
  exact ag_A A (fun h hh => ag_wants A hh hm)
theorem ag_Nx {D D' V : uT} (A : uAg D D') {m : Nat} (hm : m < 96) : uNx D m V = uNx D' m V := by
  refine funext fun f => funext fun x => ?_
  rcases f with _ | _ | _ | f
  · show uLev D V m x (uAm D V m x) = uLev D' V m x (uAm D' V m x)
    rw [ag_Am A hm, (ag_r A).2.2.2.2.2.1]
  · show uLsl D V m x (uAm D V m x) = uLsl D' V m x (uAm D' V m x)
    rw [ag_Am A hm, (ag_r A).2.2.2.2.2.2]
  · show (uAm D V m 7).2.2.1 x = (uAm D' V m 7).2.2.1 x
    rw [ag_Am A hm]
  · show (uAm D V m 7).2.2.2 x = (uAm D' V m 7).2.2.2 x
    rw [ag_Am A hm]
theorem ag_V {D D' : uT} (A : uAg D D') : ∀ {m : Nat}, m ≤ 96 → uV D m = uV D' m
  | 0, _ => by
    show uV0 D = uV0 D'
    unfold uV0
    rw [A.1 3 (by decide), A.1 5 (by decide)]
  | m + 1, hm => by
    show uNx D m (uV D m) = uNx D' m (uV D' m)
    rw [ag_V A (m := m) (by omega), ag_Nx A (by omega)]
theorem cFl_ag {s : zS} {D D' : uT} {k rd : Nat} (A : uAg D D') (F : cFl s 0 D k rd) : cFl s 0 D' k rd := by
  obtain ⟨⟨w1, w2, w3, w4, w5, w6⟩, ⟨h1, h2, h3, h4, h5⟩, od, aa, rm, l0, mn⟩ := F
  have n := ag_n A
  have e8 : ∀ h j, h < uN D → j < 7 → D (8 + j) h = D' (8 + j) h := fun h j hh hj => A.2.1 (8 + j) h (by omega) (by omega) hh
  refine ⟨⟨fun r m hr hm => ?_, fun r hr => ?_, fun r hr ht => ?_, ?_, ?_, fun h j hh hj => ?_⟩, ⟨fun r m hr hm => ?_, fun h hh => ?_, ?_, h4, fun h m hh hm => ?_⟩, ?_, aa, fun m hm => ?_, fun r hr ht => ?_, fun m hm => ?_⟩
  · rw [← A.1 0 (by decide)]; exact w1 r m hr hm
  · rw [← A.1 2 (by decide), ← A.1 3 (by decide)]; exact w2 r hr
  · rw [← A.1 3 (by decide)] at ht
    rw [← A.1 4 (by decide), ← A.1 6 (by decide), ← A.1 7 (by decide)]; exact w3 r hr ht
  · rw [← A.1 19 (by decide)]; exact w4
  · rw [← A.1 19 (by decide)]; exact w5
  · rw [n] at hh
    rw [← e8 h j hh hj]; exact w6 h j hh hj
  · rw [← A.1 1 (by decide)]; exact h1 r m hr hm
  · rw [n] at hh
    rw [← ag_part A hh, ← ag_part A hh]; exact h2 h hh
  · rw [← A.1 19 (by decide)]; exact h3
  · rw [n] at hh
    rw [← A.2.2 h m hh hm]; exact h5 h m hh hm
  · unfold cOrd
    rw [← ag_ordC A]; exact od
  · have t := rm m hm
    refine ⟨t.1, fun h hh => ?_⟩
    rw [n] at hh
    have u := t.2 h hh
    rw [u]
    have m96 : m < 96 := by omega
    unfold cRdv
    rw [A.2.1 13 h (by decide) (by decide) hh, A.2.1 14 h (by decide) (by decide) hh, A.2.2 h m hh m96, ag_wb A hh]
  · rw [← A.1 3 (by decide)] at ht
    rw [← A.1 5 (by decide)]; exact l0 r hr ht
  · have m96 : m < 96 := by omega
    have t := mn m hm
    refine ⟨fun r hr => ?_, fun h hh => ?_⟩
    · have u := t.1 r hr
      unfold cRow at u ⊢
      rw [← ag_V A (by omega), ← ag_Nx A m96, ← ag_Am A m96, ← ag_Am A m96, ← (ag_r A).1, ← (ag_r A).2.1, ← (ag_r A).2.2.2.1, ← (ag_ret A).1, ← (ag_ret A).2, ← A.1 3 (by decide)]
      exact u
    · rw [n] at hh
      rw [← ag_V A (by omega), ← ag_V A (by omega), ← ag_lev A, ← ag_wants A hh m96]
      exact t.2 h hh
