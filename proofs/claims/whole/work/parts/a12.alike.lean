-- what the months stand on, the texts by their parts (wip/whole/gen/laws83.py, out of part 82)
def uAh (D D' : uT) : Prop := (∀ f, f < 8 ∨ 19 ≤ f → D f = D' f) ∧ (∀ f h, 8 ≤ f → f ≤ 14 → h < uN D → D f h = D' f h) ∧ (∀ h m, h < uN D → m < 96 → D 15 (96 * h + m) = D' 15 (96 * h + m)) ∧ (∀ h p, h < uN D → uPart D h p = uPart D' h p)
theorem ah_n {D D' : uT} (A : uAh D D') : uN D' = uN D := by unfold uN; rw [A.1 19 (by decide)]
theorem ah_nm {D D' : uT} (A : uAh D D') {h m : Nat} {lev : Int} (hh : h < uN D) : uNm D h m lev = uNm D' h m lev := by
  refine funext fun c => ?_
  unfold uNm
  rw [A.2.1 8 h (by decide) (by decide) hh, A.2.1 12 h (by decide) (by decide) hh, A.1 1 (by decide), A.2.1 10 h (by decide) (by decide) hh, A.2.1 9 h (by decide) (by decide) hh]
theorem ah_part {D D' : uT} (A : uAh D D') {h p : Nat} (hh : h < uN D) : uPart D h p = uPart D' h p := A.2.2.2 h p hh
theorem ah_says {D D' : uT} (A : uAh D D') {h m p : Nat} {lev : Int} (hh : h < uN D) : uSays D h m lev p = uSays D' h m lev p := by
  unfold uSays
  rw [ah_nm A hh, ah_part A hh]
theorem ah_wb {D D' : uT} (A : uAh D D') {h m : Nat} {lev : Int} (hh : h < uN D) : uWb D h m lev = uWb D' h m lev := by
  unfold uWb uAsks
  rw [ah_says A hh, ah_says A hh, A.2.1 8 h (by decide) (by decide) hh, A.2.1 11 h (by decide) (by decide) hh, A.1 1 (by decide), A.2.1 10 h (by decide) (by decide) hh]
theorem ah_wants {D D' : uT} (A : uAh D D') {h m : Nat} {lev : Int} (hh : h < uN D) (hm : m < 96) : uWants D h m lev = uWants D' h m lev := by
  unfold uWants
  rw [ah_wb A hh, A.1 19 (by decide), A.2.1 13 h (by decide) (by decide) hh, A.2.1 14 h (by decide) (by decide) hh, A.2.2.1 h m hh hm]
theorem ah_ord {D D' : uT} (A : uAh D D') : uOrd D = uOrd D' := by
  unfold uOrd
  rw [ah_n A, uSrt_cg (fun h x h1 h2 => ?_)]
  unfold uLt
  rw [A.2.1 8 h (by decide) (by decide) h1, A.2.1 12 h (by decide) (by decide) h1, A.2.1 8 x (by decide) (by decide) h2, A.2.1 12 x (by decide) (by decide) h2]
theorem ah_ordC {D D' : uT} (A : uAh D D') : uOrdC D = uOrdC D' := by
  unfold uOrdC
  rw [ah_n A, uSrt_cg (fun h x h1 h2 => ?_)]
  unfold uLtC
  rw [A.2.1 8 h (by decide) (by decide) h1, A.2.1 12 h (by decide) (by decide) h1, A.2.1 8 x (by decide) (by decide) h2, A.2.1 12 x (by decide) (by decide) h2, A.2.1 10 h (by decide) (by decide) h1, A.2.1 10 x (by decide) (by decide) h2]
theorem ah_ret {D D' V : uT} (A : uAh D D') {r : Nat} : uRet D V r = uRet D' V r ∧ uRetS D V r = uRetS D' V r := by
  constructor
  · unfold uRet
    rw [ah_n A]
    refine uSum_congr (fun h hh => ?_)
    show (if _ then uGb (D 8 h) _ else 0) = if _ then uGb (D' 8 h) _ else 0
    rw [A.2.1 8 h (by decide) (by decide) hh, A.2.1 10 h (by decide) (by decide) hh]
  · unfold uRetS
    rw [ah_n A]
    refine uSum_congr (fun h hh => ?_)
    show (if D 10 h + 1 = (r : Int) then V 3 h else 0) = if D' 10 h + 1 = (r : Int) then V 3 h else 0
    rw [A.2.1 10 h (by decide) (by decide) hh]
theorem ah_r {D D' V : uT} (A : uAh D D') {m r : Nat} {q : uQ} : uCm D V m r q = uCm D' V m r q ∧ uCs D V m r q = uCs D' V m r q ∧ uStm D V r = uStm D' V r ∧ uWat D V m r q = uWat D' V m r q ∧ uWs D V m r q = uWs D' V m r q ∧ uLev D V m r q = uLev D' V m r q ∧ uLsl D V m r q = uLsl D' V m r q := by
  have c : uCm D V m r q = uCm D' V m r q := by unfold uCm; rw [A.1 0 (by decide), (ah_ret A).1]
  have s : uCs D V m r q = uCs D' V m r q := by unfold uCs; rw [A.1 0 (by decide), A.1 2 (by decide), (ah_ret A).2]
  have st : uStm D V r = uStm D' V r := by unfold uStm; rw [A.1 6 (by decide)]
  have i : uIn D V m r q = uIn D' V m r q := by unfold uIn; rw [st, c]
  have is : uInS D V m r q = uInS D' V m r q := by unfold uInS; rw [s]
  have o : uOut D V m r q = uOut D' V m r q := by unfold uOut; rw [i, A.1 7 (by decide), A.1 4 (by decide)]
  have os : uOutS D V m r q = uOutS D' V m r q := by unfold uOutS; rw [i, is, o]
  refine ⟨c, s, st, ?_, ?_, ?_, ?_⟩
  · unfold uWat; rw [A.1 3 (by decide), c, o]
  · unfold uWs; rw [A.1 3 (by decide), s, os]
  · unfold uLev; rw [A.1 3 (by decide), i, o]
  · unfold uLsl; rw [A.1 3 (by decide), is, os]
theorem ah_A {D D' V : uT} (A : uAh D D') {m : Nat} {w w' : Nat → Int} (hw : ∀ h, h < uN D → w h = w' h) : ∀ {r : Nat}, uA D V m w (uOrd D) r = uA D' V m w' (uOrd D') r
  | 0 => rfl
  | r + 1 => by
    unfold uA
    rw [ah_A (r := r) A hw, (ah_r A).2.2.2.1, (ah_r A).2.2.2.2.1, ← ah_ord A]
    exact ag_serve (fun h hh => ⟨hw h (uOrd_mem.mp hh), A.2.1 10 h (by decide) (by decide) (uOrd_mem.mp hh)⟩)
theorem ah_lev {D D' V : uT} (A : uAh D D') : uLevs D V = uLevs D' V := by unfold uLevs; rw [A.1 3 (by decide)]
theorem ah_Am {D D' V : uT} (A : uAh D D') {m r : Nat} (hm : m < 96) : uAm D V m r = uAm D' V m r := by
  unfold uAm
  rw [← ah_lev A]
  exact ah_A A (fun h hh => ah_wants A hh hm)
theorem ah_Nx {D D' V : uT} (A : uAh D D') {m : Nat} (hm : m < 96) : uNx D m V = uNx D' m V := by
  refine funext fun f => funext fun x => ?_
  rcases f with _ | _ | _ | f
  · show uLev D V m x (uAm D V m x) = uLev D' V m x (uAm D' V m x)
    rw [ah_Am A hm, (ah_r A).2.2.2.2.2.1]
  · show uLsl D V m x (uAm D V m x) = uLsl D' V m x (uAm D' V m x)
    rw [ah_Am A hm, (ah_r A).2.2.2.2.2.2]
  · show (uAm D V m 7).2.2.1 x = (uAm D' V m 7).2.2.1 x
    rw [ah_Am A hm]
  · show (uAm D V m 7).2.2.2 x = (uAm D' V m 7).2.2.2 x
    rw [ah_Am A hm]
theorem ah_V {D D' : uT} (A : uAh D D') : ∀ {m : Nat}, m ≤ 96 → uV D m = uV D' m
  | 0, _ => by
    show uV0 D = uV0 D'
    unfold uV0
    rw [A.1 3 (by decide), A.1 5 (by decide)]
  | m + 1, hm => by
    show uNx D m (uV D m) = uNx D' m (uV D' m)
    rw [ah_V A (m := m) (by omega), ah_Nx A (by omega)]
theorem cFl_ah {s : zS} {D D' : uT} {k rd : Nat} (A : uAh D D') (F : cFl s 0 D k rd) : cFl s 0 D' k rd := by
  obtain ⟨⟨w1, w2, w3, w4, w5, w6⟩, ⟨h1, h2, h3, h4, h5⟩, od, aa, rm, l0, mn⟩ := F
  have n := ah_n A
  have e8 : ∀ h j, h < uN D → j < 7 → D (8 + j) h = D' (8 + j) h := fun h j hh hj => A.2.1 (8 + j) h (by omega) (by omega) hh
  refine ⟨⟨fun r m hr hm => ?_, fun r hr => ?_, fun r hr ht => ?_, ?_, ?_, fun h j hh hj => ?_⟩, ⟨fun r m hr hm => ?_, fun h hh => ?_, ?_, h4, fun h m hh hm => ?_⟩, ?_, aa, fun m hm => ?_, fun r hr ht => ?_, fun m hm => ?_⟩
  · rw [← A.1 0 (by decide)]; exact w1 r m hr hm
  · rw [← A.1 2 (by decide), ← A.1 3 (by decide)]; exact w2 r hr
  · rw [← A.1 3 (by decide)] at ht
    rw [← A.1 4 (by decide), ← A.1 6 (by decide), ← A.1 7 (by decide)]; exact w3 r hr ht
  · rw [← A.1 19 (by decide)]; exact w4
  · rw [← A.1 19 (by decide)]; exact w5
  · rw [n] at hh
    rw [← e8 h j hh hj]; exact w6 h j hh hj
  · rw [← A.1 1 (by decide)]; exact h1 r m hr hm
  · rw [n] at hh
    rw [← ah_part A hh, ← ah_part A hh]; exact h2 h hh
  · rw [← A.1 19 (by decide)]; exact h3
  · rw [n] at hh
    rw [← A.2.2.1 h m hh hm]; exact h5 h m hh hm
  · unfold cOrd
    rw [← ah_ordC A]; exact od
  · have t := rm m hm
    refine ⟨t.1, fun h hh => ?_⟩
    rw [n] at hh
    have u := t.2 h hh
    rw [u]
    have m96 : m < 96 := by omega
    unfold cRdv
    rw [A.2.1 13 h (by decide) (by decide) hh, A.2.1 14 h (by decide) (by decide) hh, A.2.2.1 h m hh m96, ah_wb A hh]
  · rw [← A.1 3 (by decide)] at ht
    rw [← A.1 5 (by decide)]; exact l0 r hr ht
  · have m96 : m < 96 := by omega
    have t := mn m hm
    refine ⟨fun r hr => ?_, fun h hh => ?_⟩
    · have u := t.1 r hr
      unfold cRow at u ⊢
      rw [← ah_V A (by omega), ← ah_Nx A m96, ← ah_Am A m96, ← ah_Am A m96, ← (ah_r A).1, ← (ah_r A).2.1, ← (ah_r A).2.2.2.1, ← (ah_ret A).1, ← (ah_ret A).2, ← A.1 3 (by decide)]
      exact u
    · rw [n] at hh
      rw [← ah_V A (by omega), ← ah_V A (by omega), ← ah_lev A, ← ah_wants A hh m96]
      exact t.2 h hh
