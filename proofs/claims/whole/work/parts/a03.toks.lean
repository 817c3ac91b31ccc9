-- reading a text: what the reference does with each token, pure (wip/whole/gen/laws75.py)
def qSg (x : Int) : Int := if x = 10 then 1 else if x = 11 then 2 else if x = 12 then 3 else if x = 13 then 4 else if x = 14 then 4 else if x = 15 then 5 else if x = 16 then 5 else if x = 17 then 6 else if x = 18 then 7 else 0
def qPp (s : Int) : List Int → List Int → List Int × List Int
  | [], c => ([], c)
  | x :: O, c => if s ≤ qSg x then qPp s O (x :: c) else (x :: O, c)
def qTop (O : List Int) : Int := match O with
  | [] => 0
  | x :: _ => qSg x
abbrev qIsD (x : Int) : Prop := x = 12 ∨ x = 18 ∨ x = 19
def qDp : List Int → Nat
  | [] => 0
  | x :: O => if qIsD x then qDp O + 1 else qDp O
/-- a state: a ONE is wanted, a not may stand, what waits, the comparisons of the open brackets, the steps (newest first) -/
abbrev qS : Type := Bool × Bool × List Int × List Int × List Int
def qStp (t : Int) (S : qS) : Option (qS ⊕ List Int) :=
  if S.1 = true then
    (if t < 6 ∨ 100 ≤ t then some (.inl ⟨false, false, (qPp 7 S.2.2.1 (t :: S.2.2.2.2)).1, S.2.2.2.1, (qPp 7 S.2.2.1 (t :: S.2.2.2.2)).2⟩)
    else if t = 16 then (if qDp S.2.2.1 = 5 then none else some (.inl ⟨true, false, 18 :: S.2.2.1, S.2.2.2.1, S.2.2.2.2⟩))
    else if t = 19 then (if qDp S.2.2.1 = 5 then none else some (.inl ⟨true, true, 19 :: S.2.2.1, 0 :: S.2.2.2.1, S.2.2.2.2⟩))
    else if t = 12 ∧ S.2.1 = true then (if qDp S.2.2.1 = 5 then none else some (.inl ⟨true, S.2.1, 12 :: S.2.2.1, S.2.2.2.1, S.2.2.2.2⟩))
    else none)
  else if t = 21 ∧ S.2.2.2.1.length = 1 then some (.inr (qPp 1 S.2.2.1 S.2.2.2.2).2)
  else if t = 20 ∧ 1 < S.2.2.2.1.length then some (.inl ⟨false, S.2.1, (qPp 7 (qPp 1 S.2.2.1 S.2.2.2.2).1.tail (qPp 1 S.2.2.1 S.2.2.2.2).2).1, S.2.2.2.1.tail, (qPp 7 (qPp 1 S.2.2.1 S.2.2.2.2).1.tail (qPp 1 S.2.2.1 S.2.2.2.2).2).2⟩)
  else if t = 10 ∨ t = 11 then some (.inl ⟨true, true, t :: (qPp (qSg t) S.2.2.1 S.2.2.2.2).1, 0 :: S.2.2.2.1.tail, (qPp (qSg t) S.2.2.1 S.2.2.2.2).2⟩)
  else if (t = 13 ∨ t = 14) ∧ S.2.2.2.1.headD 0 = 0 then some (.inl ⟨true, S.2.1, t :: (qPp 4 S.2.2.1 S.2.2.2.2).1, 1 :: S.2.2.2.1.tail, (qPp 4 S.2.2.1 S.2.2.2.2).2⟩)
  else if t = 15 ∨ t = 16 ∨ t = 17 then some (.inl ⟨true, S.2.1, t :: (qPp (qSg t) S.2.2.1 S.2.2.2.2).1, S.2.2.2.1, (qPp (qSg t) S.2.2.1 S.2.2.2.2).2⟩)
  else none
/-- a run over the tokens K from the k-th on: it ends at the j-th, with its steps or a fault -/
def qRunF (K : Nat → Int) : Nat → Nat → qS → Option (Nat × Option (List Int))
  | 0, _, _ => none
  | F + 1, k, S => match qStp (K k) S with
    | none => some (k, none)
    | some (.inr c) => some (k, some c)
    | some (.inl S') => qRunF K F (k + 1) S'
def qRun (K : Nat → Int) (k : Nat) (S : qS) (j : Nat) (r : Option (List Int)) : Prop := ∃ F, qRunF K F k S = some (j, r)
theorem qRunF_none {K : Nat → Int} {F k : Nat} {S : qS} (h : qStp (K k) S = none) : qRunF K (F + 1) k S = some (k, none) := by unfold qRunF; rw [h]
theorem qRunF_fin {K : Nat → Int} {F k : Nat} {S : qS} {c : List Int} (h : qStp (K k) S = some (.inr c)) : qRunF K (F + 1) k S = some (k, some c) := by unfold qRunF; rw [h]
theorem qRunF_go {K : Nat → Int} {F k : Nat} {S S' : qS} (h : qStp (K k) S = some (.inl S')) : qRunF K (F + 1) k S = qRunF K F (k + 1) S' := by
  show (match qStp (K k) S with
    | none => some (k, none)
    | some (.inr c) => some (k, some c)
    | some (.inl S') => qRunF K F (k + 1) S') = _
  rw [h]
theorem qRun.bad {K : Nat → Int} {k : Nat} {S : qS} (h : qStp (K k) S = none) : qRun K k S k none := ⟨1, qRunF_none h⟩
theorem qRun.fin {K : Nat → Int} {k : Nat} {S : qS} {c : List Int} (h : qStp (K k) S = some (.inr c)) : qRun K k S k (some c) := ⟨1, qRunF_fin h⟩
theorem qRun.go {K : Nat → Int} {k : Nat} {S S' : qS} {j : Nat} {r : Option (List Int)} (h : qStp (K k) S = some (.inl S')) (g : qRun K (k + 1) S' j r) : qRun K k S j r := by
  obtain ⟨F, g⟩ := g
  exact ⟨F + 1, (qRunF_go h).trans g⟩
theorem qRun_eq {K : Nat → Int} {k : Nat} {S S' : qS} {j : Nat} {r : Option (List Int)} (e : qStp (K k) S' = qStp (K k) S) (h : qRun K k S j r) : qRun K k S' j r := by
  obtain ⟨F, h⟩ := h
  cases F with
  | zero => cases h
  | succ F =>
    refine ⟨F + 1, ?_⟩
    rw [← h]
    show (match qStp (K k) S' with
      | none => some (k, none)
      | some (.inr c) => some (k, some c)
      | some (.inl S') => qRunF K F (k + 1) S') = (match qStp (K k) S with
      | none => some (k, none)
      | some (.inr c) => some (k, some c)
      | some (.inl S') => qRunF K F (k + 1) S')
    rw [e]
theorem qPp_le {s x : Int} {O c : List Int} (h : s ≤ qSg x) : qPp s (x :: O) c = qPp s O (x :: c) := if_pos h
theorem qPp_id {s : Int} {O c : List Int} (h : qTop O < s) : qPp s O c = (O, c) := by
  cases O with
  | nil => rfl
  | cons x O => exact if_neg (Int.not_le.mpr h)
/-- what stands on top may be taken off before a weaker token comes -/
theorem qStp_pop {t x : Int} {mn : Bool} {O f c : List Int} (h1 : 1 ≤ qSg x) (h7 : t = 17 → 6 ≤ qSg x) (h5 : t = 15 ∨ t = 16 → 5 ≤ qSg x) (h4 : t = 13 ∨ t = 14 → f.headD 0 = 0 → 4 ≤ qSg x) (h2 : t = 11 → 2 ≤ qSg x) :
    qStp t ⟨false, mn, x :: O, f, c⟩ = qStp t ⟨false, mn, O, f, x :: c⟩ := by
  unfold qStp
  simp only [Bool.false_eq_true, if_false, qPp_le h1]
  by_cases a1 : t = 21 ∧ f.length = 1
  · rw [if_pos a1, if_pos a1]
  rw [if_neg a1, if_neg a1]
  by_cases a2 : t = 20 ∧ 1 < f.length
  · rw [if_pos a2, if_pos a2]
  rw [if_neg a2, if_neg a2]
  by_cases a3 : t = 10 ∨ t = 11
  · rw [if_pos a3, if_pos a3]
    have : qSg t ≤ qSg x := by
      rcases a3 with rfl | rfl
      · exact h1
      · exact h2 rfl
    rw [qPp_le this]
  rw [if_neg a3, if_neg a3]
  by_cases a4 : (t = 13 ∨ t = 14) ∧ f.headD 0 = 0
  · rw [if_pos a4, if_pos a4, qPp_le (h4 a4.1 a4.2)]
  rw [if_neg a4, if_neg a4]
  by_cases a5 : t = 15 ∨ t = 16 ∨ t = 17
  · rw [if_pos a5, if_pos a5]
    have : qSg t ≤ qSg x := by
      rcases a5 with rfl | rfl | rfl
      · exact h5 (.inl rfl)
      · exact h5 (.inr rfl)
      · exact h7 rfl
    rw [qPp_le this]
  rw [if_neg a5, if_neg a5]
def qAft (O f c : List Int) : qS := ⟨false, false, (qPp 7 O c).1, f, (qPp 7 O c).2⟩
theorem qAft_id {O f c : List Int} (h : qTop O < 7) : qAft O f c = ⟨false, false, O, f, c⟩ := by unfold qAft; rw [qPp_id h]
/-- what may stand where a part of level lv begins -/
def pPre (lv : Int) (o : Nat) (t : Int) (mn : Bool) (O : List Int) (e : Int) : Prop := qDp O = o ∧ qTop O < lv ∧ (lv ≤ 4 → mn = true ∧ e = 0) ∧ (4 < lv → mn = true → ¬ t = 12)
/-- the token behind a part of level lv -/
def pPost (lv t e : Int) : Prop := (lv ≤ 6 → ¬ t = 17) ∧ (lv ≤ 5 → ¬ t = 15 ∧ ¬ t = 16) ∧ (lv ≤ 4 → (t = 13 ∨ t = 14) → e = 1) ∧ (lv ≤ 2 → ¬ t = 11) ∧ (lv ≤ 1 → ¬ t = 10)
theorem qSg_le {x : Int} : 0 ≤ qSg x ∧ qSg x ≤ 7 := by
  unfold qSg
  repeat' split
  all_goals omega
theorem qTop_le {O : List Int} : 0 ≤ qTop O ∧ qTop O ≤ 7 := by
  cases O with
  | nil => exact ⟨by decide, by decide⟩
  | cons x O => exact qSg_le
theorem qRun_pop {K : Nat → Int} {k : Nat} {x lc e : Int} {O f c : List Int} {j : Nat} {r : Option (List Int)} (h1 : 1 ≤ qSg x) (hx : qSg x < 7) (hO : qTop O < 7) (hp : pPost lc (K k) e) (h7 : 6 ≤ qSg x ∨ lc ≤ 6) (h5 : 5 ≤ qSg x ∨ lc ≤ 5) (h4 : 4 ≤ qSg x ∨ lc ≤ 4) (h2 : 2 ≤ qSg x ∨ lc ≤ 2) (h : qRun K k (qAft O (e :: f) (x :: c)) j r) :
    qRun K k (qAft (x :: O) (e :: f) c) j r := by
  rw [qAft_id hO] at h
  rw [qAft_id (show qTop (x :: O) < 7 from hx)]
  obtain ⟨p1, p2, p3, p4, p5⟩ := hp
  refine qRun_eq (qStp_pop h1 (fun a => ?_) (fun a => ?_) (fun a b => ?_) (fun a => ?_)) h
  · rcases h7 with h7 | h7
    · exact h7
    · exact absurd a (p1 h7)
  · rcases h5 with h5 | h5
    · exact h5
    · rcases a with a | a
      · exact absurd a (p2 h5).1
      · exact absurd a (p2 h5).2
  · rcases h4 with h4 | h4
    · exact h4
    · have := p3 h4 a
      have b : e = 0 := b
      omega
  · rcases h2 with h2 | h2
    · exact h2
    · exact absurd a (p4 h2)
theorem qHt_app : ∀ {A B : List Int} {n m : Nat}, uHt A n = some m → uHt (A ++ B) n = uHt B m
  | [], B, n, m, h => by
    have : n = m := by simpa [uHt] using h
    rw [this]; rfl
  | a :: A, B, n, m, h => by
    have h : (if 100 ≤ a ∨ a < 6 then uHt A (n + 1) else if a = 12 ∨ a = 18 then (if 1 ≤ n then uHt A n else none) else (if 2 ≤ n then uHt A (n - 1) else none)) = some m := h
    show (if 100 ≤ a ∨ a < 6 then uHt (A ++ B) (n + 1) else if a = 12 ∨ a = 18 then (if 1 ≤ n then uHt (A ++ B) n else none) else (if 2 ≤ n then uHt (A ++ B) (n - 1) else none)) = _
    by_cases c1 : 100 ≤ a ∨ a < 6
    · rw [if_pos c1] at h ⊢; exact qHt_app h
    · rw [if_neg c1] at h ⊢
      by_cases c2 : a = 12 ∨ a = 18
      · rw [if_pos c2] at h ⊢
        by_cases c3 : 1 ≤ n
        · rw [if_pos c3] at h ⊢; exact qHt_app h
        · rw [if_neg c3] at h; cases h
      · rw [if_neg c2] at h ⊢
        by_cases c3 : 2 ≤ n
        · rw [if_pos c3] at h ⊢; exact qHt_app h
        · rw [if_neg c3] at h; cases h
def qHs (C : List Int) : Prop := ∀ s, uHt C s = some (s + 1)
theorem qHs_bin {A B : List Int} {t : Int} (ha : qHs A) (hb : qHs B) (ht : 10 ≤ t ∧ t < 18 ∧ ¬ t = 12) : qHs (A ++ B ++ [t]) := fun s => by
  rw [List.append_assoc, qHt_app (ha s), qHt_app (hb _)]
  show (if 100 ≤ t ∨ t < 6 then uHt [] (s + 1 + 1 + 1) else if t = 12 ∨ t = 18 then (if 1 ≤ s + 1 + 1 then uHt [] (s + 1 + 1) else none) else (if 2 ≤ s + 1 + 1 then uHt [] (s + 1 + 1 - 1) else none)) = _
  rw [if_neg (by omega), if_neg (by omega), if_pos (by omega)]; rfl
theorem qHs_un {A : List Int} {t : Int} (ha : qHs A) (ht : t = 12 ∨ t = 18) : qHs (A ++ [t]) := fun s => by
  rw [qHt_app (ha s)]
  show (if 100 ≤ t ∨ t < 6 then uHt [] (s + 1 + 1) else if t = 12 ∨ t = 18 then (if 1 ≤ s + 1 then uHt [] (s + 1) else none) else (if 2 ≤ s + 1 then uHt [] (s + 1 - 1) else none)) = _
  rw [if_neg (by omega), if_pos ht, if_pos (by omega)]; rfl
theorem qHs_one {t : Int} (ht : 100 ≤ t ∨ t < 6) : qHs [t] := fun s => by
  show (if 100 ≤ t ∨ t < 6 then uHt [] (s + 1) else if t = 12 ∨ t = 18 then (if 1 ≤ s then uHt [] s else none) else (if 2 ≤ s then uHt [] (s - 1) else none)) = _
  rw [if_pos ht]; rfl
/-- the reference's token or step as the class's -/
def qRC (t : Int) : Int := if t < 6 then -1 - t else if 100 ≤ t then t - 100 else if t ≤ 18 then 3 - t else if t ≤ 21 then 1 - t else if t = 22 then -16 else if t = 23 then -17 else if t = 24 then -22 else -21
def qTv (t : Int) : Prop := (0 ≤ t ∧ t < 6) ∨ (10 ≤ t ∧ t ≤ 25 ∧ ¬ t = 18) ∨ (100 ≤ t ∧ t ≤ 10099)
def qCv (t : Int) : Prop := (0 ≤ t ∧ t < 6) ∨ (10 ≤ t ∧ t ≤ 18) ∨ (100 ≤ t ∧ t ≤ 10099)
theorem qRC_inj {t : Int} (h : qTv t) (x : Int) (hx : qTv x) : qRC t = qRC x ↔ t = x := by
  constructor
  · unfold qTv at h hx
    unfold qRC
    repeat' split
    all_goals omega
  · intro e; rw [e]
theorem qRC_can {t : Int} (h : qCv t) : uCan (qRC t) = t ∧ -15 ≤ qRC t ∧ qRC t ≤ 9999 ∧ (qRC t = -4 ↔ t = 3) := by
  unfold qCv at h
  unfold qRC uCan
  repeat' split
  all_goals omega

def qOk (K : Nat → Int) (lv : Int) (o k : Nat) (c : List Int) (k1 : Nat) (c1 : List Int) (e1 : Int) : Prop := ∀ mn O e f j r, pPre lv o (K k) mn O e → qRun K k1 (qAft O ((if lv ≤ 4 then e1 else e) :: f) c1) j r → qRun K k ⟨true, mn, O, e :: f, c⟩ j r
def qBad (K : Nat → Int) (lv : Int) (o k : Nat) (c : List Int) (j : Nat) : Prop := ∀ mn O e f, pPre lv o (K k) mn O e → qRun K k ⟨true, mn, O, e :: f, c⟩ j none
theorem qS_ar {t : Int} {mn : Bool} {O f c : List Int} (ht : t = 15 ∨ t = 16 ∨ t = 17) (hO : qTop O < qSg t) : qStp t ⟨false, mn, O, f, c⟩ = some (.inl ⟨true, mn, t :: O, f, c⟩) := by
  unfold qStp
  simp only [Bool.false_eq_true, if_false, qPp_id hO]
  rw [if_neg (by omega), if_neg (by omega), if_neg (by omega), if_neg (by omega), if_pos ht]
theorem qS_log {t : Int} {mn : Bool} {O f c : List Int} (ht : t = 10 ∨ t = 11) (hO : qTop O < qSg t) : qStp t ⟨false, mn, O, f, c⟩ = some (.inl ⟨true, true, t :: O, 0 :: f.tail, c⟩) := by
  unfold qStp
  simp only [Bool.false_eq_true, if_false, qPp_id hO]
  rw [if_neg (by omega), if_neg (by omega), if_pos ht]
theorem qS_cmp {t : Int} {mn : Bool} {O f c : List Int} (ht : t = 13 ∨ t = 14) (hO : qTop O < 4) : qStp t ⟨false, mn, O, 0 :: f, c⟩ = some (.inl ⟨true, mn, t :: O, 1 :: f, c⟩) := by
  unfold qStp
  simp only [Bool.false_eq_true, if_false, qPp_id hO]
  rw [if_neg (by omega), if_neg (by omega), if_neg (by omega), if_pos ⟨ht, rfl⟩]; rfl
theorem qDp_op {t : Int} {O : List Int} (h : ¬ qIsD t) : qDp (t :: O) = qDp O := if_neg h
theorem qDp_in {t : Int} {O : List Int} (h : qIsD t) : qDp (t :: O) = qDp O + 1 := if_pos h
/-- the three kinds of operators with two sides -/
def qTri (t lv lc : Int) : Prop := (t = 17 ∧ lv = 6 ∧ lc = 8) ∨ ((t = 15 ∨ t = 16) ∧ lv = 5 ∧ lc = 6) ∨ (t = 11 ∧ lv = 2 ∧ lc = 4) ∨ (t = 10 ∧ lv = 1 ∧ lc = 2)
theorem qTri_f {t lv lc : Int} (h : qTri t lv lc) : qSg t = lv ∧ ¬ qIsD t ∧ 1 ≤ lv ∧ lv < lc ∧ lv ≤ 6 ∧ (lv ≤ 4 ↔ lc ≤ 4) ∧ (lv ≤ 4 → t = 10 ∨ t = 11) ∧ (4 < lv → t = 15 ∨ t = 16 ∨ t = 17) ∧ (10 ≤ t ∧ t < 18 ∧ ¬ t = 12) ∧ ((6 ≤ lv ∨ lc ≤ 6) ∧ (5 ≤ lv ∨ lc ≤ 5) ∧ (4 ≤ lv ∨ lc ≤ 4) ∧ (2 ≤ lv ∨ lc ≤ 2)) := by
  rcases h with ⟨rfl, rfl, rfl⟩ | ⟨rfl | rfl, rfl, rfl⟩ | ⟨rfl, rfl, rfl⟩ | ⟨rfl, rfl, rfl⟩ <;> decide
theorem qBin_go {K : Nat → Int} {t lv lc : Int} {o k k1 : Nat} {c c1 : List Int} {e1 : Int} (T : qTri t lv lc) (A : qOk K lv o k c k1 c1 e1) (ht : K k1 = t) {mn : Bool} {O : List Int} {e : Int} {f : List Int} {j : Nat} {r : Option (List Int)} (p : pPre lv o (K k) mn O e)
    (h : ∀ mn' e', (lc ≤ 4 → mn' = true ∧ e' = 0) → (4 < lc → mn' = false ∧ e' = e) → qRun K (k1 + 1) ⟨true, mn', t :: O, e' :: f, c1⟩ j r) : qRun K k ⟨true, mn, O, e :: f, c⟩ j r := by
  obtain ⟨q1, q2, q3, q4, q5, q6, q7, q8, q9, q10⟩ := qTri_f T
  have hO := p.2.1
  refine A mn O e f j r p ?_
  rw [qAft_id (by omega)]
  by_cases hl : lv ≤ 4
  · rw [if_pos hl]
    refine .go (by rw [ht]; exact qS_log (q7 hl) (by omega)) ?_
    exact h _ _ (fun _ => ⟨rfl, rfl⟩) (fun x => absurd (q6.mp hl) (Int.not_le.mpr x))
  · rw [if_neg hl]
    refine .go (by rw [ht]; exact qS_ar (q8 (by omega)) (by omega)) ?_
    exact h _ _ (fun x => absurd (q6.mpr x) hl) (fun _ => ⟨rfl, rfl⟩)
theorem qBin_pre {t lv lc : Int} {o : Nat} {t2 : Int} {mn mn' : Bool} {O : List Int} {e e' : Int} {s : Int} (T : qTri t lv lc) (p : pPre lv o t2 mn O e) (h1 : lc ≤ 4 → mn' = true ∧ e' = 0) (h2 : 4 < lc → mn' = false ∧ e' = e) : pPre lc o s mn' (t :: O) e' := by
  obtain ⟨q1, q2, q3, q4, q5, q6, q7, q8, q9, q10⟩ := qTri_f T
  refine ⟨(qDp_op q2).trans p.1, ?_, h1, fun x y => ?_⟩
  · show qSg t < lc
    omega
  · rw [(h2 x).1] at y; cases y
theorem qBin_bad {K : Nat → Int} {t lv lc : Int} {o k k1 j : Nat} {c c1 : List Int} {e1 : Int} (T : qTri t lv lc) (A : qOk K lv o k c k1 c1 e1) (ht : K k1 = t) (B : qBad K lc o (k1 + 1) c1 j) : qBad K lv o k c j := fun mn O e f p =>
  qBin_go T A ht p (fun mn' e' h1 h2 => B mn' (t :: O) e' f (qBin_pre T p h1 h2))
theorem qBin_ok {K : Nat → Int} {t lv lc : Int} {o k k1 k2 : Nat} {c c1 c2 : List Int} {e1 e2 : Int} (T : qTri t lv lc) (A : qOk K lv o k c k1 c1 e1) (ht : K k1 = t) (B : qOk K lc o (k1 + 1) c1 k2 c2 e2) (hp : pPost lc (K k2) e2) : qOk K lv o k c k2 (t :: c2) e2 := fun mn O e f j r p h => by
  obtain ⟨q1, q2, q3, q4, q5, q6, q7, q8, q9, q10⟩ := qTri_f T
  have hO := p.2.1
  refine qBin_go T A ht p (fun mn' e' h1 h2 => B mn' (t :: O) e' f j r (qBin_pre T p h1 h2) ?_)
  have ee : (if lc ≤ 4 then e2 else e') = (if lv ≤ 4 then e2 else e) := by
    by_cases hl : lv ≤ 4
    · rw [if_pos hl, if_pos (q6.mp hl)]
    · rw [if_neg hl, if_neg (fun x => hl (q6.mpr x))]; exact (h2 (by omega)).2
  rw [ee]
  refine qRun_pop (lc := lc) (by omega) (by omega) (by omega) ?_ (by omega) (by omega) (by omega) (by omega) h
  by_cases hl : lv ≤ 4
  · rw [if_pos hl]; exact hp
  · rw [if_neg hl]
    exact ⟨hp.1, hp.2.1, fun x => absurd (q6.mpr x) hl, hp.2.2.2.1, hp.2.2.2.2⟩
-- a NOT
theorem qNot_bad {K : Nat → Int} {o k j : Nat} {c : List Int} (hk : ¬ K k = 12) (B : qBad K 5 o k c j) : qBad K 4 o k c j := fun mn O e f p => B mn O e f ⟨p.1, by have := p.2.1; omega, fun x => absurd x (by decide), fun _ _ => hk⟩
theorem qNot_ok {K : Nat → Int} {o k k1 : Nat} {c c1 : List Int} {e1 : Int} (hk : ¬ K k = 12) (B : qOk K 5 o k c k1 c1 e1) : qOk K 4 o k c k1 c1 0 := fun mn O e f j r p h => B mn O e f j r ⟨p.1, by have := p.2.1; omega, fun x => absurd x (by decide), fun _ _ => hk⟩ (by
  rw [if_neg (by decide), (p.2.2.1 (by decide)).2]; exact h)
theorem qCmp_go {K : Nat → Int} {o k k1 : Nat} {c c1 : List Int} {e1 : Int} (hk : ¬ K k = 12) (A : qOk K 5 o k c k1 c1 e1) (ht : K k1 = 13 ∨ K k1 = 14) {mn : Bool} {O : List Int} {e : Int} {f : List Int} {j : Nat} {r : Option (List Int)} (p : pPre 4 o (K k) mn O e)
    (h : qRun K (k1 + 1) ⟨true, false, K k1 :: O, 1 :: f, c1⟩ j r) : qRun K k ⟨true, mn, O, e :: f, c⟩ j r := by
  have hO := p.2.1
  refine A mn O e f j r ⟨p.1, by omega, fun x => absurd x (by decide), fun _ _ => hk⟩ ?_
  rw [qAft_id (by omega), if_neg (by decide), (p.2.2.1 (by decide)).2]
  exact .go (qS_cmp ht (by omega)) h
theorem qCmp_t {t : Int} (h : t = 13 ∨ t = 14) : qSg t = 4 ∧ ¬ qIsD t := by rcases h with rfl | rfl <;> decide
theorem qCmp_bad {K : Nat → Int} {o k k1 j : Nat} {c c1 : List Int} {e1 : Int} (hk : ¬ K k = 12) (A : qOk K 5 o k c k1 c1 e1) (ht : K k1 = 13 ∨ K k1 = 14) (B : qBad K 5 o (k1 + 1) c1 j) : qBad K 4 o k c j := fun mn O e f p =>
  qCmp_go hk A ht p (B _ _ _ _ ⟨(qDp_op (qCmp_t ht).2).trans p.1, by show qSg (K k1) < 5; rw [(qCmp_t ht).1]; decide, fun x => absurd x (by decide), fun _ x => by cases x⟩)
theorem qCmp_ok {K : Nat → Int} {o k k1 k2 : Nat} {c c1 c2 : List Int} {e1 e2 : Int} (hk : ¬ K k = 12) (A : qOk K 5 o k c k1 c1 e1) (ht : K k1 = 13 ∨ K k1 = 14) (B : qOk K 5 o (k1 + 1) c1 k2 c2 e2) (hp : pPost 5 (K k2) e2) : qOk K 4 o k c k2 (K k1 :: c2) 1 ∧ pPost 4 (K k2) 1 := by
  have P4 : pPost 4 (K k2) 1 := ⟨fun _ => hp.1 (by decide), fun _ => hp.2.1 (by decide), fun _ _ => rfl, fun x => absurd x (by decide), fun x => absurd x (by decide)⟩
  refine ⟨fun mn O e f j r p h => ?_, P4⟩
  have hO := p.2.1
  obtain ⟨s1, s2⟩ := qCmp_t ht
  refine qCmp_go hk A ht p (B _ _ _ _ j r ⟨(qDp_op s2).trans p.1, by show qSg (K k1) < 5; omega, fun x => absurd x (by decide), fun _ x => by cases x⟩ ?_)
  rw [if_neg (by decide)]
  exact qRun_pop (lc := 4) (by omega) (by omega) (by omega) P4 (by omega) (by omega) (by omega) (by omega) h
theorem qStp_in {t t' : Int} {mn mn' : Bool} {O f f' c : List Int} (h : (t = 16 ∧ t' = 18 ∧ mn' = false ∧ f' = f) ∨ (t = 19 ∧ t' = 19 ∧ mn' = true ∧ f' = 0 :: f) ∨ (t = 12 ∧ t' = 12 ∧ mn = true ∧ mn' = true ∧ f' = f)) : qStp t ⟨true, mn, O, f, c⟩ = if qDp O = 5 then none else some (.inl ⟨true, mn', t' :: O, f', c⟩) := by
  rcases h with ⟨rfl, rfl, rfl, rfl⟩ | ⟨rfl, rfl, rfl, rfl⟩ | ⟨rfl, rfl, rfl, rfl, rfl⟩ <;> rfl
theorem qIn_full {K : Nat → Int} {lv : Int} {k : Nat} {c : List Int} (h : (lv = 8 ∧ (K k = 16 ∨ K k = 19)) ∨ (lv = 4 ∧ K k = 12)) : qBad K lv 5 k c k := fun mn O e f p => by
  refine .bad ?_
  have e5 : qDp O = 5 := p.1
  rcases h with ⟨rfl, h | h⟩ | ⟨rfl, h⟩
  · rw [h, qStp_in (.inl ⟨rfl, rfl, rfl, rfl⟩), if_pos e5]
  · rw [h, qStp_in (.inr (.inl ⟨rfl, rfl, rfl, rfl⟩)), if_pos e5]
  · rw [h, qStp_in (.inr (.inr ⟨rfl, rfl, (p.2.2.1 (by decide)).1, rfl, rfl⟩)), if_pos e5]
theorem qNeg_go {K : Nat → Int} {o k : Nat} {c : List Int} (ho : o < 5) (h : K k = 16) {mn : Bool} {O : List Int} {e : Int} {f : List Int} {j : Nat} {r : Option (List Int)} (p : pPre 8 o (K k) mn O e) (g : qRun K (k + 1) ⟨true, false, 18 :: O, e :: f, c⟩ j r) : qRun K k ⟨true, mn, O, e :: f, c⟩ j r := by
  refine .go (S' := ⟨true, false, 18 :: O, e :: f, c⟩) ?_ g
  have := p.1
  rw [h, qStp_in (.inl ⟨rfl, rfl, rfl, rfl⟩), if_neg (by omega)]
theorem qNeg_bad {K : Nat → Int} {o k j : Nat} {c : List Int} (ho : o < 5) (h : K k = 16) (B : qBad K 8 (o + 1) (k + 1) c j) : qBad K 8 o k c j := fun mn O e f p =>
  qNeg_go ho h p (B _ _ _ _ ⟨(qDp_in (.inr (.inl rfl))).trans (congrArg (· + 1) p.1), (by show qSg 18 < 8; decide), fun x => absurd x (by decide), fun _ x => by cases x⟩)
theorem qNeg_ok {K : Nat → Int} {o k k1 : Nat} {c c1 : List Int} {e1 e2 : Int} (ho : o < 5) (h : K k = 16) (B : qOk K 8 (o + 1) (k + 1) c k1 c1 e1) : qOk K 8 o k c k1 (18 :: c1) e2 := fun mn O e f j r p g =>
  qNeg_go ho h p (B _ _ _ _ j r ⟨(qDp_in (.inr (.inl rfl))).trans (congrArg (· + 1) p.1), (by show qSg 18 < 8; decide), fun x => absurd x (by decide), fun _ x => by cases x⟩ (by
    rw [if_neg (by decide)] at g ⊢
    unfold qAft at g ⊢
    rw [qPp_le (by decide)]; exact g))
theorem qNo_go {K : Nat → Int} {o k : Nat} {c : List Int} (ho : o < 5) (h : K k = 12) {mn : Bool} {O : List Int} {e : Int} {f : List Int} {j : Nat} {r : Option (List Int)} (p : pPre 4 o (K k) mn O e) (g : qRun K (k + 1) ⟨true, true, 12 :: O, e :: f, c⟩ j r) : qRun K k ⟨true, mn, O, e :: f, c⟩ j r := by
  refine .go (S' := ⟨true, true, 12 :: O, e :: f, c⟩) ?_ g
  have := p.1
  rw [h, qStp_in (.inr (.inr ⟨rfl, rfl, (p.2.2.1 (by decide)).1, rfl, rfl⟩)), if_neg (by omega)]
theorem qNo_bad {K : Nat → Int} {o k j : Nat} {c : List Int} (ho : o < 5) (h : K k = 12) (B : qBad K 4 (o + 1) (k + 1) c j) : qBad K 4 o k c j := fun mn O e f p =>
  qNo_go ho h p (B _ _ _ _ ⟨(qDp_in (.inl rfl)).trans (congrArg (· + 1) p.1), (by show qSg 12 < 4; decide), fun _ => ⟨rfl, (p.2.2.1 (by decide)).2⟩, fun x => absurd x (by decide)⟩)
theorem qNo_ok {K : Nat → Int} {o k k1 : Nat} {c c1 : List Int} {e1 : Int} (ho : o < 5) (h : K k = 12) (B : qOk K 4 (o + 1) (k + 1) c k1 c1 e1) (hp : pPost 4 (K k1) e1) : qOk K 4 o k c k1 (12 :: c1) e1 := fun mn O e f j r p g =>
  qNo_go ho h p (B _ _ _ _ j r ⟨(qDp_in (.inl rfl)).trans (congrArg (· + 1) p.1), (by show qSg 12 < 4; decide), fun _ => ⟨rfl, (p.2.2.1 (by decide)).2⟩, fun x => absurd x (by decide)⟩ (by
    have hO := p.2.1
    have s : qSg 12 = 3 := rfl
    rw [if_pos (by decide)] at g ⊢
    exact qRun_pop (lc := 4) (by omega) (by omega) (by omega) hp (by omega) (by omega) (by omega) (by omega) g))
-- a ONE
theorem qAtom_ok {K : Nat → Int} {o k : Nat} {c : List Int} {e1 : Int} (h : K k < 6 ∨ 100 ≤ K k) : qOk K 8 o k c (k + 1) (K k :: c) e1 := fun mn O e f j r p g => by
  rw [if_neg (by decide)] at g
  refine .go ?_ g
  unfold qStp qAft
  rw [if_pos rfl, if_pos h]
theorem qOne_bad {K : Nat → Int} {o k : Nat} {c : List Int} (h1 : ¬ (K k < 6 ∨ 100 ≤ K k)) (h2 : ¬ K k = 16) (h3 : ¬ K k = 19) : qBad K 8 o k c k := fun mn O e f p => by
  refine .bad ?_
  unfold qStp
  rw [if_pos rfl, if_neg h1, if_neg h2, if_neg h3, if_neg (fun x => p.2.2.2 (by decide) x.2 x.1)]
theorem qOp_go {K : Nat → Int} {o k : Nat} {c : List Int} (ho : o < 5) (h : K k = 19) {mn : Bool} {O : List Int} {e : Int} {f : List Int} {j : Nat} {r : Option (List Int)} (p : pPre 8 o (K k) mn O e) (g : qRun K (k + 1) ⟨true, true, 19 :: O, 0 :: e :: f, c⟩ j r) : qRun K k ⟨true, mn, O, e :: f, c⟩ j r := by
  refine .go (S' := ⟨true, true, 19 :: O, 0 :: e :: f, c⟩) ?_ g
  have := p.1
  rw [h, qStp_in (.inr (.inl ⟨rfl, rfl, rfl, rfl⟩)), if_neg (by omega)]
theorem qOp_pre {o k : Nat} {K : Nat → Int} {t : Int} {mn : Bool} {O : List Int} {e : Int} (p : pPre 8 o t mn O e) : pPre 1 (o + 1) (K k) true (19 :: O) 0 := ⟨(qDp_in (.inr (.inr rfl))).trans (congrArg (· + 1) p.1), (by show qSg 19 < 1; decide), fun _ => ⟨rfl, rfl⟩, fun x => absurd x (by decide)⟩
theorem qOp_bad {K : Nat → Int} {o k j : Nat} {c : List Int} (ho : o < 5) (h : K k = 19) (B : qBad K 1 (o + 1) (k + 1) c j) : qBad K 8 o k c j := fun mn O e f p =>
  qOp_go ho h p (B _ _ _ _ (qOp_pre p))
theorem qStp_cl {t e : Int} {f O c : List Int} (hp : pPost 1 t e) (h : ¬ t = 20 ∨ f = []) (h2 : ¬ t = 21 ∨ ¬ f = []) : qStp t ⟨false, false, O, e :: f, c⟩ = none := by
  obtain ⟨p1, p2, p3, p4, p5⟩ := hp
  unfold qStp
  have lf : (e :: f).length = f.length + 1 := rfl
  have l0 : f.length = 0 ↔ f = [] := List.length_eq_zero_iff
  rw [if_neg Bool.false_ne_true, if_neg (fun x => ?_), if_neg (fun x => ?_), if_neg (fun x => ?_), if_neg (fun x => ?_), if_neg (fun x => ?_)]
  · rcases x with x | x | x
    · exact (p2 (by decide)).1 x
    · exact (p2 (by decide)).2 x
    · exact p1 (by decide) x
  · have a : e = 1 := p3 (by decide) x.1
    have b : e = 0 := x.2
    omega
  · rcases x with x | x
    · exact p5 (by decide) x
    · exact p4 (by decide) x
  · have x2 : 1 < (e :: f).length := x.2
    rcases h with h | h
    · exact h x.1
    · rw [h] at x2; exact absurd x2 (by simp)
  · have x2 : (e :: f).length = 1 := x.2
    rcases h2 with h2 | h2
    · exact h2 x.1
    · exact h2 (l0.mp (by omega))
theorem qOp_no {K : Nat → Int} {o k k1 : Nat} {c c1 : List Int} {e1 : Int} (ho : o < 5) (h : K k = 19) (B : qOk K 1 (o + 1) (k + 1) c k1 c1 e1) (hp : pPost 1 (K k1) e1) (hn : ¬ K k1 = 20) : qBad K 8 o k c k1 := fun mn O e f p => by
  refine qOp_go ho h p (B _ _ _ _ _ _ (qOp_pre p) ?_)
  rw [if_pos (by decide), qAft_id (show qTop (19 :: O) < 7 by show qSg 19 < 7; decide)]
  exact .bad (qStp_cl hp (.inl hn) (.inr (by simp)))
theorem qOp_ok {K : Nat → Int} {o k k1 : Nat} {c c1 : List Int} {e1 e2 : Int} (ho : o < 5) (h : K k = 19) (B : qOk K 1 (o + 1) (k + 1) c k1 c1 e1) (hn : K k1 = 20) : qOk K 8 o k c (k1 + 1) c1 e2 := fun mn O e f j r p g => by
  refine qOp_go ho h p (B _ _ _ _ j r (qOp_pre p) ?_)
  rw [if_neg (by decide)] at g
  rw [if_pos (by decide), qAft_id (show qTop (19 :: O) < 7 by show qSg 19 < 7; decide)]
  refine .go ?_ g
  unfold qStp
  rw [if_neg Bool.false_ne_true, if_neg (fun x => by rw [hn] at x; exact absurd x.1 (by decide)), if_pos ⟨hn, by show 1 < (e1 :: e :: f).length; simp⟩]
  show some (Sum.inl ((false, false, (qPp 7 (qPp 1 (19 :: O) c1).1.tail (qPp 1 (19 :: O) c1).2).1, e :: f, (qPp 7 (qPp 1 (19 :: O) c1).1.tail (qPp 1 (19 :: O) c1).2).2) : qS)) = _
  rw [qPp_id (show qTop (19 :: O) < 1 by show qSg 19 < 1; decide)]; rfl
-- the whole of an expression
theorem qE_bad {K : Nat → Int} {k j : Nat} {c : List Int} (B : qBad K 1 0 k c j) : qRun K k ⟨true, true, [], [0], c⟩ j none := B true [] 0 [] ⟨rfl, by decide, fun _ => ⟨rfl, rfl⟩, fun x => absurd x (by decide)⟩
theorem qE_no {K : Nat → Int} {k k1 : Nat} {c c1 : List Int} {e1 : Int} (B : qOk K 1 0 k c k1 c1 e1) (hp : pPost 1 (K k1) e1) (hn : ¬ K k1 = 21) : qRun K k ⟨true, true, [], [0], c⟩ k1 none := by
  refine B true [] 0 [] _ _ ⟨rfl, by decide, fun _ => ⟨rfl, rfl⟩, fun x => absurd x (by decide)⟩ ?_
  rw [if_pos (by decide), qAft_id (by decide)]
  exact .bad (qStp_cl hp (.inr rfl) (.inl hn))
theorem qE_ok {K : Nat → Int} {k k1 : Nat} {c c1 : List Int} {e1 : Int} (B : qOk K 1 0 k c k1 c1 e1) (hn : K k1 = 21) : qRun K k ⟨true, true, [], [0], c⟩ k1 (some c1) := by
  refine B true [] 0 [] _ _ ⟨rfl, by decide, fun _ => ⟨rfl, rfl⟩, fun x => absurd x (by decide)⟩ ?_
  rw [if_pos (by decide), qAft_id (by decide)]
  refine .fin ?_
  unfold qStp
  rw [if_neg Bool.false_ne_true, if_pos ⟨hn, rfl⟩]; rfl
