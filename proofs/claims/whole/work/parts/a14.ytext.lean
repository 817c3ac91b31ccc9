-- a text read by both (wip/whole/gen/laws85.py)
/-- the kinds that reading a text changes -/
def tk (K : Nat) : Bool := Nat.beq K 5 || Nat.beq K 7 || Nat.beq K 29 || Nat.beq K 30 || Nat.beq K 31 || Nat.beq K 33 || Nat.beq K 71 || Nat.beq K 72 || Nat.beq K 73 || Nat.beq K 95 || Nat.beq K 96 || Nat.beq K 97
def zY (σ : zS) (H : Nat → Nat → Nat → Int) : zS := (fun K => if tk K = true then H K else if K = 8 then (fun n j => if n = 0 ∧ ¬ j = 13 then σ.1 8 n j else H 8 n j) else if K = 10 then (fun n j => if n = 0 ∧ ¬ (j = 6 ∨ j = 7 ∨ (55 ≤ j ∧ j ≤ 64)) then σ.1 10 n j else H 10 n j) else σ.1 K, σ.2)
theorem tk_ne {K : Nat} (h : ¬ tk K = true) : ¬ K = 5 ∧ ¬ K = 7 ∧ ¬ K = 29 ∧ ¬ K = 30 ∧ ¬ K = 31 ∧ ¬ K = 33 ∧ ¬ K = 71 ∧ ¬ K = 72 ∧ ¬ K = 73 ∧ ¬ K = 95 ∧ ¬ K = 96 ∧ ¬ K = 97 := by
  refine ⟨?_, ?_, ?_, ?_, ?_, ?_, ?_, ?_, ?_, ?_, ?_, ?_⟩ <;> (intro e; subst e; exact h rfl)
theorem zY_of {σ s : zS} (f1 : ∀ K, ¬ tk K = true → ¬ K = 8 → ¬ K = 10 → s.1 K = σ.1 K) (f8 : ∀ j, ¬ j = 13 → s.1 8 0 j = σ.1 8 0 j) (f10 : ∀ j, ¬ (j = 6 ∨ j = 7 ∨ (55 ≤ j ∧ j ≤ 64)) → s.1 10 0 j = σ.1 10 0 j) (f2 : s.2 = σ.2) : s = zY σ s.1 := by
  refine Prod.ext (funext fun K => ?_) f2
  show s.1 K = if tk K = true then s.1 K else if K = 8 then (fun n j => if n = 0 ∧ ¬ j = 13 then σ.1 8 n j else s.1 8 n j) else if K = 10 then (fun n j => if n = 0 ∧ ¬ (j = 6 ∨ j = 7 ∨ (55 ≤ j ∧ j ≤ 64)) then σ.1 10 n j else s.1 10 n j) else σ.1 K
  by_cases a : tk K = true
  · rw [if_pos a]
  rw [if_neg a]
  by_cases b : K = 8
  · rw [if_pos b, b]
    funext n j
    by_cases c : n = 0 ∧ ¬ j = 13
    · rw [if_pos c, c.1]; exact f8 j c.2
    · rw [if_neg c]
  rw [if_neg b]
  by_cases c : K = 10
  · rw [if_pos c, c]
    funext n j
    by_cases e : n = 0 ∧ ¬ (j = 6 ∨ j = 7 ∨ (55 ≤ j ∧ j ≤ 64))
    · rw [if_pos e, e.1]; exact f10 j e.2
    · rw [if_neg e]
  rw [if_neg c]; exact f1 K a b c
/-- the u-th text is as it was -/
def tSm (σ : zS) (H : Nat → Nat → Nat → Int) (u : Nat) : Prop := H 7 (6 * 0 + u) = σ.1 7 (6 * 0 + u) ∧ H 33 (6 * 0 + u) = σ.1 33 (6 * 0 + u) ∧ H 72 0 u = σ.1 72 0 u ∧ H 73 0 u = σ.1 73 0 u ∧ ∀ j, j < 200 → H 71 0 (200 * u + j) = σ.1 71 0 (200 * u + j)
theorem yT_part {σ : zS} {H : Nat → Nat → Nat → Int} {u : Nat} {p : Int} (g : tSm σ H u) (b : σ.1 73 0 u ≤ σ.1 72 0 u ∧ σ.1 72 0 u ≤ 160) : mPart (zY σ H) u p = mPart σ u p := by
  obtain ⟨g1, g2, g3, g4, g5⟩ := g
  show (if p = 0 then uSeq (fun k => H 71 0 (200 * u + k)) 0 (H 73 0 u).toNat else uSeq (fun k => H 71 0 (200 * u + k)) (H 73 0 u).toNat ((H 72 0 u).toNat - (H 73 0 u).toNat)) = (if p = 0 then uSeq (fun k => σ.1 71 0 (200 * u + k)) 0 (σ.1 73 0 u).toNat else uSeq (fun k => σ.1 71 0 (200 * u + k)) (σ.1 73 0 u).toNat ((σ.1 72 0 u).toNat - (σ.1 73 0 u).toNat))
  rw [g3, g4]
  by_cases c : p = 0
  · rw [if_pos c, if_pos c]; exact uSeq_congr (fun k h1 h2 => g5 k (by omega))
  · rw [if_neg c, if_neg c]; exact uSeq_congr (fun k h1 h2 => g5 k (by omega))
theorem yT_rTx {σ : zS} {H : Nat → Nat → Nat → Int} {u : Nat} (g : tSm σ H u) (T : rTx σ u) : rTx (zY σ H) u := by
  have q0 := yT_part (p := 0) g ⟨T.2.1.2.1, T.2.1.2.2⟩
  have q1 := yT_part (p := 1) g ⟨T.2.1.2.1, T.2.1.2.2⟩
  obtain ⟨T1, T2, T3, T4, T5, T6⟩ := T
  obtain ⟨g1, g2, g3, g4, g5⟩ := g
  have e7 : (zY σ H).1 7 (6 * 0 + u) = σ.1 7 (6 * 0 + u) := g1
  have e33 : (zY σ H).1 33 (6 * 0 + u) = σ.1 33 (6 * 0 + u) := g2
  have e72 : (zY σ H).1 72 0 u = σ.1 72 0 u := g3
  have e73 : (zY σ H).1 73 0 u = σ.1 73 0 u := g4
  unfold rTx
  rw [e7, e33, e72, e73, q0, q1]
  refine ⟨T1, T2, fun j hj => ?_, T4, T5, fun h j hj => ?_⟩
  · have e : (zY σ H).1 71 0 (200 * u + j) = σ.1 71 0 (200 * u + j) := g5 j (by omega)
    rw [e]; exact T3 j hj
  · have e : (zY σ H).1 71 0 (200 * u + j) = σ.1 71 0 (200 * u + j) := g5 j (by omega)
    rw [e]; exact T6 h j hj
theorem yT_cTok {σ : zS} {H : Nat → Nat → Nat → Int} {w : Nat} (g7 : (zY σ H).1 7 w = σ.1 7 w) (g33 : (zY σ H).1 33 w = σ.1 33 w) : (cTok (zY σ H) w ↔ cTok σ w) ∧ ∀ p, cPart (zY σ H) w p = cPart σ w p := by
  constructor
  · unfold cTok cPart cCode; rw [g7, g33]
  · intro p; unfold cPart cCode; rw [g7, g33]
theorem yT_uPart {σ : zS} {H : Nat → Nat → Nat → Int} {h p : Nat} (g : tSm σ H (mRul σ (σ.1 61 0 h).toNat)) (b : σ.1 73 0 (mRul σ (σ.1 61 0 h).toNat) ≤ σ.1 72 0 (mRul σ (σ.1 61 0 h).toNat) ∧ σ.1 72 0 (mRul σ (σ.1 61 0 h).toNat) ≤ 160) : uPart (mD σ) h p = uPart (mD (zY σ H)) h p := by
  obtain ⟨g1, g2, g3, g4, g5⟩ := g
  have e16 : ∀ k, k < 200 → mD (zY σ H) 16 (200 * (σ.1 61 0 h).toNat + k) = mD σ 16 (200 * (σ.1 61 0 h).toNat + k) := fun k hk => by
    show H 71 0 (200 * mRul σ ((200 * (σ.1 61 0 h).toNat + k) / 200) + (200 * (σ.1 61 0 h).toNat + k) % 200) = σ.1 71 0 (200 * mRul σ ((200 * (σ.1 61 0 h).toNat + k) / 200) + (200 * (σ.1 61 0 h).toNat + k) % 200)
    rw [show (200 * (σ.1 61 0 h).toNat + k) / 200 = (σ.1 61 0 h).toNat by omega, show (200 * (σ.1 61 0 h).toNat + k) % 200 = k by omega]
    exact g5 k hk
  show (if p = 0 then uSeq (fun k => mD σ 16 (200 * (σ.1 61 0 h).toNat + k)) 0 ((σ.1 73 0 (mRul σ (σ.1 61 0 h).toNat)).toNat - 0) else uSeq (fun k => mD σ 16 (200 * (σ.1 61 0 h).toNat + k)) (σ.1 73 0 (mRul σ (σ.1 61 0 h).toNat)).toNat ((σ.1 72 0 (mRul σ (σ.1 61 0 h).toNat)).toNat - (σ.1 73 0 (mRul σ (σ.1 61 0 h).toNat)).toNat)) = (if p = 0 then uSeq (fun k => mD (zY σ H) 16 (200 * (σ.1 61 0 h).toNat + k)) 0 ((H 73 0 (mRul σ (σ.1 61 0 h).toNat)).toNat - 0) else uSeq (fun k => mD (zY σ H) 16 (200 * (σ.1 61 0 h).toNat + k)) (H 73 0 (mRul σ (σ.1 61 0 h).toNat)).toNat ((H 72 0 (mRul σ (σ.1 61 0 h).toNat)).toNat - (H 73 0 (mRul σ (σ.1 61 0 h).toNat)).toNat))
  rw [g3, g4]
  by_cases c : p = 0
  · rw [if_pos c, if_pos c]; exact uSeq_congr (fun k h1 h2 => (e16 k (by omega)).symm)
  · rw [if_neg c, if_neg c]; exact uSeq_congr (fun k h1 h2 => (e16 k (by omega)).symm)
theorem yT_D {σ : zS} {H : Nat → Nat → Nat → Int} : ∀ f, ¬ f = 16 → ¬ f = 17 → ¬ f = 18 → mD σ f = mD (zY σ H) f
  | 0, _, _, _ => rfl
  | 1, _, _, _ => rfl
  | 2, _, _, _ => rfl
  | 3, _, _, _ => rfl
  | 4, _, _, _ => rfl
  | 5, _, _, _ => rfl
  | 6, _, _, _ => rfl
  | 7, _, _, _ => rfl
  | 8, _, _, _ => rfl
  | 9, _, _, _ => rfl
  | 10, _, _, _ => rfl
  | 11, _, _, _ => rfl
  | 12, _, _, _ => rfl
  | 13, _, _, _ => rfl
  | 14, _, _, _ => rfl
  | 15, _, _, _ => rfl
  | 16, h, _, _ => absurd rfl h
  | 17, _, h, _ => absurd rfl h
  | 18, _, _, h => absurd rfl h
  | 19, _, _, _ => rfl
  | f + 20, _, _, _ => rfl
theorem yText {σ : zS} {H : Nat → Nat → Nat → Int} {t : Nat} (R : yRel σ) (P : Pb σ) (ht : σ.1 10 0 6 = (t : Int)) (h1 : H 5 0 1 = 0) (h2 : H 10 0 7 = 0) (h3 : H 8 0 13 = H 10 0 6) (h4 : H 10 0 6 = (t : Int) ∨ (H 10 0 6 = ((t + 1 : Nat) : Int) ∧ t < 6 ∧ rTx (zY σ H) t)) (f7 : ∀ u, u < t → tSm σ H u) : yRel (zY σ H) := by
  obtain ⟨S, G, L, Ho, C, Tx, Ru, K, Tp, Sh, B⟩ := R
  obtain ⟨⟨T1, T2, T3⟩, T4⟩ := Tx
  have rt : ∀ u : Nat, u < t → rTx σ u := fun u hu => T4 u (by omega)
  have ru : ∀ st, st < 4 → mRul σ st < t := fun st hs => by
    have := Ru st hs
    have e : mRul σ st = (σ.1 70 0 st).toNat := rfl
    omega
  have hs4 : ∀ h : Nat, h < uN (mD σ) → (σ.1 61 0 h).toNat < 4 := fun h hh => by
    have := (Ho.2.2 h (((rN Ho).2 h).mp hh)).2.1
    omega
  have Ag : uAh (mD σ) (mD (zY σ H)) := ⟨fun f hf => yT_D f (by omega) (by omega) (by omega), fun f h h8 h14 _ => congrFun (yT_D f (by omega) (by omega) (by omega)) h, fun h m _ _ => congrFun (yT_D 15 (by decide) (by decide) (by decide)) _, fun h p hh => by
    have u := ru _ (hs4 h hh)
    have b := (rt _ u).2.1
    exact yT_uPart (f7 _ u) ⟨b.2.1, b.2.2⟩⟩
  refine ⟨S, G, L, Ho, C, ⟨⟨h3, ?_, ?_⟩, fun u hu => ?_⟩, fun st hs => ?_, K, ⟨⟨h1.trans h2.symm, ?_, ?_⟩, fun i hi => ?_⟩, Sh, ⟨B.1, fun st => ?_⟩⟩
  · show 1 ≤ H 10 0 6
    rcases h4 with h4 | h4 <;> omega
  · show H 10 0 6 ≤ 6
    rcases h4 with h4 | h4 <;> omega
  · have hu : (u : Int) < H 10 0 6 := hu
    by_cases c : u < t
    · exact yT_rTx (f7 u c) (rt u c)
    · rcases h4 with h4 | h4
      · omega
      · have e : u = t := by omega
        rw [e]; exact h4.2.2
  · have r := Ru st hs
    refine ⟨r.1, r.2.1, ?_⟩
    show σ.1 70 0 st < H 10 0 6
    rcases h4 with h4 | h4 <;> omega
  · show 0 ≤ H 10 0 7
    omega
  · show H 10 0 7 ≤ 160
    omega
  · have hi : (i : Int) < H 10 0 7 := hi
    omega
  · obtain ⟨k, rd, hk, F⟩ := B.2 st
    refine ⟨k, rd, hk, cFl_ah Ag ?_⟩
    obtain ⟨w, ⟨a1, a2, a3, a4, a5⟩, od, aa, rm, l0, mn⟩ := F
    have tx : ∀ h, h < uN (mD σ) → (zY σ H).1 7 (6 * 0 + cTx σ 0 h) = σ.1 7 (6 * 0 + cTx σ 0 h) ∧ (zY σ H).1 33 (6 * 0 + cTx σ 0 h) = σ.1 33 (6 * 0 + cTx σ 0 h) := fun h hh => by
      have q := (a2 h hh).1
      have u : cTx σ 0 h < t := by
        unfold cTx
        by_cases c : σ.1 0 0 8 = -1
        · rw [if_pos c]
          have q1 := q.1 c
          have r := Ru (σ.1 1 (16 * 0 + h) 1).toNat (by omega)
          omega
        · rw [if_neg c]
          rcases P with P | P
          · exact absurd P c
          · omega
      exact ⟨(f7 _ u).1, (f7 _ u).2.1⟩
    refine ⟨w, ⟨a1, fun h hh => ?_, a3, a4, a5⟩, od, aa, fun m hm => ?_, l0, mn⟩
    · obtain ⟨b1, b2, b3, b4, b5⟩ := a2 h hh
      obtain ⟨g7, g33⟩ := tx h hh
      have E := yT_cTok g7 g33
      refine ⟨b1, E.1.mpr b2, (E.2 0).trans b3, (E.2 1).trans b4, fun z => b5 ?_⟩
      have z : (zY σ H).1 7 (6 * 0 + cTx σ 0 h) 3 = 0 := z
      rw [g7] at z; exact z
    · obtain ⟨b1, b2⟩ := rm m hm
      refine ⟨b1, fun h hh => (b2 h hh).trans ?_⟩
      obtain ⟨g7, g33⟩ := tx h hh
      show _ = if mD σ 13 h ≤ (m : Int) ∧ (m : Int) < mD σ 14 h ∧ mD σ 15 (96 * h + m) = 0 then (if (zY σ H).1 7 (6 * 0 + cTx σ 0 h) 3 = 0 then uWb (mD σ) h m 0 else -1) else 0
      rw [g7]; rfl
-- the steps as a list
theorem uSeq_snoc {f : Nat → Int} : ∀ {n a : Nat}, uSeq f a (n + 1) = uSeq f a n ++ [f (a + n)]
  | 0, a => rfl
  | n + 1, a => by
    show f a :: uSeq f (a + 1) (n + 1) = f a :: uSeq f (a + 1) n ++ [f (a + (n + 1))]
    rw [uSeq_snoc (n := n) (a := a + 1), show a + 1 + n = a + (n + 1) by omega]; rfl
theorem qCl_app {c : List Int} : ∀ {X : List Int} {i : Nat}, i < c.length → qCl (X ++ c) i = qCl c i
  | [], i, h => rfl
  | x :: X, i, h => by
    have e : qCl (x :: (X ++ c)) i = qCl (X ++ c) i := qCl_lt (by rw [List.length_append]; omega)
    exact e.trans (qCl_app h)
theorem uSeq_qCl {c : List Int} : ∀ {X : List Int}, uSeq (fun i => qCl (X ++ c) i) c.length X.length = X.reverse
  | [] => rfl
  | x :: X => by
    have I := uSeq_qCl (c := c) (X := X)
    show uSeq (fun i => qCl (x :: (X ++ c)) i) c.length (X.length + 1) = (x :: X).reverse
    rw [uSeq_snoc, List.reverse_cons]
    have e1 : uSeq (fun i => qCl (x :: (X ++ c)) i) c.length X.length = X.reverse := by
      rw [← I]
      exact uSeq_congr (fun k h1 h2 => qCl_lt (by rw [List.length_append]; omega))
    have e2 : qCl (x :: (X ++ c)) (c.length + X.length) = x := if_pos (by rw [List.length_append]; omega)
    rw [e1, e2]
theorem qCl_mem : ∀ {c : List Int} {i : Nat}, i < c.length → qCl c i ∈ c
  | [], i, h => absurd h (Nat.not_lt_zero _)
  | x :: c, i, h => by
    by_cases e : i = c.length
    · rw [show qCl (x :: c) i = x from if_pos e]; exact List.mem_cons_self
    · have h : i < c.length + 1 := h
      rw [show qCl (x :: c) i = qCl c i from if_neg e]
      exact List.mem_cons_of_mem _ (qCl_mem (by omega))
theorem yT_new {s : zS} {t : Nat} {D1 D2 : List Int} (Hs : qHs D1) (Hs2 : qHs D2) (Cv : ∀ x, x ∈ D1 → qCv x) (Cv2 : ∀ x, x ∈ D2 → qCv x) (hl : (D2.reverse ++ (D1.reverse ++ [])).length ≤ 160)
    (e71 : s.1 7 (6 * 0 + t) 1 = ((D1.reverse ++ []).length : Int)) (e72 : s.1 7 (6 * 0 + t) 2 = ((D2.reverse ++ (D1.reverse ++ [])).length : Int)) (m73 : s.1 73 0 t = ((D1.reverse ++ []).length : Int)) (m72 : s.1 72 0 t = ((D2.reverse ++ (D1.reverse ++ [])).length : Int))
    (e33 : ∀ i, i < (D2.reverse ++ (D1.reverse ++ [])).length → s.1 33 (6 * 0 + t) i = qRC (qCl (D2.reverse ++ (D1.reverse ++ [])) i)) (m71 : ∀ i, i < (D2.reverse ++ (D1.reverse ++ [])).length → s.1 71 0 (200 * t + i) = qCl (D2.reverse ++ (D1.reverse ++ [])) i)
    (ul : s.1 7 (6 * 0 + t) 3 = 0 → ∀ x, x ∈ (D2.reverse ++ (D1.reverse ++ [])) → ¬ x = 3) : rTx s t := by
  have l1 : (D1.reverse ++ []).length = D1.length := by simp
  have l2 : (D2.reverse ++ (D1.reverse ++ [])).length = D2.length + D1.length := by simp
  have cv : ∀ x, x ∈ (D2.reverse ++ (D1.reverse ++ [])) → qCv x := fun x hx => by
    rcases List.mem_append.mp hx with h | h
    · exact Cv2 x (List.mem_reverse.mp h)
    · rcases List.mem_append.mp h with h | h
      · exact Cv x (List.mem_reverse.mp h)
      · cases h
  have p0 : mPart s t 0 = D1 := by
    show uSeq (fun k => s.1 71 0 (200 * t + k)) 0 (s.1 73 0 t).toNat = D1
    rw [m73]
    have a : uSeq (fun k => s.1 71 0 (200 * t + k)) 0 (D1.reverse ++ []).length = uSeq (fun i => qCl (D1.reverse ++ []) i) 0 (D1.reverse ++ []).length := uSeq_congr (fun k h1 h2 => (m71 k (by omega)).trans (qCl_app (by omega)))
    have b := uSeq_qCl (c := []) (X := D1.reverse)
    rw [List.reverse_reverse] at b
    show uSeq (fun k => s.1 71 0 (200 * t + k)) 0 (D1.reverse ++ []).length = D1
    rw [a, List.append_nil]
    rw [List.append_nil] at b
    exact b
  have p1 : mPart s t 1 = D2 := by
    show uSeq (fun k => s.1 71 0 (200 * t + k)) (s.1 73 0 t).toNat ((s.1 72 0 t).toNat - (s.1 73 0 t).toNat) = D2
    rw [m73, m72]
    have n : ((D2.reverse ++ (D1.reverse ++ [])).length : Int).toNat - ((D1.reverse ++ []).length : Int).toNat = D2.reverse.length := by rw [l1, l2, List.length_reverse]; omega
    rw [n]
    have a : uSeq (fun k => s.1 71 0 (200 * t + k)) (D1.reverse ++ []).length D2.reverse.length = uSeq (fun i => qCl (D2.reverse ++ (D1.reverse ++ [])) i) (D1.reverse ++ []).length D2.reverse.length := uSeq_congr (fun k h1 h2 => m71 k (by rw [List.length_append]; omega))
    have b := uSeq_qCl (c := D1.reverse ++ []) (X := D2.reverse)
    rw [List.reverse_reverse] at b
    exact a.trans b
  refine ⟨⟨e71.trans m73.symm, e72.trans m72.symm⟩, ⟨by omega, by omega, by omega⟩, fun j hj => ?_, by rw [p0]; exact Hs 0, by rw [p1]; exact Hs2 0, fun h j hj => ?_⟩
  · have hj : j < (D2.reverse ++ (D1.reverse ++ [])).length := by omega
    have q := qRC_can (cv _ (qCl_mem hj))
    rw [e33 j hj, m71 j hj]
    exact ⟨q.1, q.2.1, q.2.2.1⟩
  · have hj : j < (D2.reverse ++ (D1.reverse ++ [])).length := by omega
    rw [m71 j hj]
    exact ul h _ (qCl_mem hj)
/-- a text read by both -/
theorem yp_text {d : Nat} {σ : zS} (R : yRel σ) (P : Pb σ) : yPi d 83 151 [] σ := by
  have R0 := R
  obtain ⟨S, G, L, Ho, C, Tx, Ru, K, Tp, Sh, B⟩ := R
  obtain ⟨⟨T1, T2, T3⟩, T4⟩ := Tx
  obtain ⟨⟨P1, P2, P3⟩, P4⟩ := Tp
  obtain ⟨t, ht⟩ := Int.eq_ofNat_of_zero_le (show 0 ≤ σ.1 10 0 6 by omega)
  obtain ⟨N, hN⟩ := Int.eq_ofNat_of_zero_le P2
  have cT : cTp σ (fun i => σ.1 69 0 i) N := ⟨P1.trans hN, by omega, fun i hi => P4 i (by omega)⟩
  have mT : mTp σ (fun i => σ.1 69 0 i) N := ⟨hN, by omega, fun i hi => ⟨rfl, (P4 i (by omega)).2⟩⟩
  refine zb_83 (d := d + 10) (fun a => ?_) (fun a => ?_)
  rotate_left
  · exact zb_151 (d := d + 36) (fun b => absurd b (by omega)) (fun _ => ⟨⟨-4, rfl, rfl⟩, R0⟩)
  have t6 : t < 6 := by omega
  refine zX_call rfl rfl ?_
  refine zs_32 cT (fun G j hB g2 => ?_) (fun G D1 D2 hG Hs Hs2 Cv Cv2 g3 gN g31 gU => ?_)
  · have f : (zQ σ G).1 5 0 2 = (qP (fun i => σ.1 69 0 i) N j : Int) := g2
    refine zb_83b (d := d + 10) (fun a => absurd a (by omega)) (fun a => absurd a (by omega)) (fun _ => ?_)
    rw [zQ_5, f]
    refine zs_151B (d := d + 36) (σ := zQ σ (uG G 5 0 1 0)) (t := t) mT ht t6 hB (fun s2 K2 => ⟨⟨_, rfl, rfl⟩, ?_⟩)
    have fK : ∀ k, ¬ k = 10 → ¬ k = 95 → ¬ k = 96 → ¬ k = 97 → (zU s2 10 0 7 0).1 k = (zQ σ (uG G 5 0 1 0)).1 k := fun k h1 h2 h3 h4 => (zU_off h1).trans (K2.2.1 k h1 h2 h3 h4)
    have fQ : ∀ k, ¬ qk k = true → (zQ σ (uG G 5 0 1 0)).1 k = σ.1 k := fun k hk => if_neg hk
    have nq : ∀ k, ¬ k = 5 → ¬ k = 29 → ¬ k = 30 → ¬ k = 31 → ¬ qk k = true := fun k h1 h2 h3 h4 h => by
      unfold qk at h
      simp only [Bool.or_eq_true, beq_iff_eq] at h
      omega
    have f10 : ∀ j, ¬ (j = 6 ∨ j = 7 ∨ (55 ≤ j ∧ j ≤ 64)) → (zU s2 10 0 7 0).1 10 0 j = σ.1 10 0 j := fun j hj => (zU_ne (fun q => by omega)).trans (K2.1 0 j (by omega))
    have e := zY_of (σ := σ) (s := zU s2 10 0 7 0) (fun k hk h8 h10 => by
      obtain ⟨n1, n2, n3, n4, n5, n6, n7, n8, n9, n10, n11, n12⟩ := tk_ne hk
      exact (fK k h10 n10 n11 n12).trans (fQ k (nq k n1 n3 n4 n5))) (fun j _ => by rw [fK 8 (by decide) (by decide) (by decide) (by decide)]; rfl) f10 K2.2.2
    rw [e]
    refine yText R0 P ht ?_ zU_same ?_ (.inl ?_) (fun u hu => ⟨?_, ?_, ?_, ?_, fun j hj => ?_⟩)
    · rw [fK 5 (by decide) (by decide) (by decide) (by decide)]; rfl
    · rw [fK 8 (by decide) (by decide) (by decide) (by decide)]
      exact T1.trans ((K2.1 0 6 (by omega)).symm)
    · exact (K2.1 0 6 (by omega)).trans ht
    · rw [fK 7 (by decide) (by decide) (by decide) (by decide)]; rfl
    · rw [fK 33 (by decide) (by decide) (by decide) (by decide)]; rfl
    · rw [fK 72 (by decide) (by decide) (by decide) (by decide)]; rfl
    · rw [fK 73 (by decide) (by decide) (by decide) (by decide)]; rfl
    · rw [fK 71 (by decide) (by decide) (by decide) (by decide)]; rfl
  · obtain ⟨g2, g8, g9⟩ := g3
    obtain ⟨gU1, gU2⟩ := gU
    have f2 : (zQ σ G).1 5 0 2 = -1 := g2
    have e8 : (zQ σ G).1 8 0 13 = (t : Int) := T1.trans ht
    have hl : (D2.reverse ++ (D1.reverse ++ [])).length ≤ 160 := by omega
    have b5 : (zU (zQ σ G) 5 0 1 0).1 5 0 8 = ((D2.reverse ++ (D1.reverse ++ [])).length : Int) := g8
    refine zb_83b (d := d + 10) (fun _ => by omega) (fun _ => ?_) (fun a => absurd f2 a)
    rw [e8]
    refine zX_call rfl rfl ?_
    refine zb_33 (t := 6 * 0 + t) (by rw [b5]; omega) gU1 ?_
    refine zb_83c (d := d + 10) ?_
    rw [b5]
    show zM (d + 60) 151 _ (zU (zU (zU (zU (zCp (zU (zQ σ G) 5 0 1 0) 31 0 0 33 (6 * 0 + t) 0 (D2.reverse ++ (D1.reverse ++ [])).length) 7 (6 * 0 + t) 1 (G 5 0 9)) 7 (6 * 0 + t) 2 (G 5 0 8)) 7 (6 * 0 + t) 3 (G 5 0 10)) 8 0 13 (zW (σ.1 8 0 13 + 1))) (fun b s' => (∃ v : Int, some (Sum.inl (σ.1 8 0 13)) = some (Sum.inl v) ∧ b = some (Sum.inl v)) ∧ yRel s')
    rw [show σ.1 8 0 13 = (t : Int) from T1.trans ht, qW1 (by omega), g9, g8]
    generalize hC : zU (zU (zU (zU (zCp (zU (zQ σ G) 5 0 1 0) 31 0 0 33 (6 * 0 + t) 0 (D2.reverse ++ (D1.reverse ++ [])).length) 7 (6 * 0 + t) 1 ((D1.reverse ++ []).length : Int)) 7 (6 * 0 + t) 2 ((D2.reverse ++ (D1.reverse ++ [])).length : Int)) 7 (6 * 0 + t) 3 (G 5 0 10)) 8 0 13 ((t + 1 : Nat) : Int) = Cs
    have cK : ∀ k, ¬ k = 5 → ¬ k = 7 → ¬ k = 8 → ¬ k = 29 → ¬ k = 30 → ¬ k = 31 → ¬ k = 33 → Cs.1 k = σ.1 k := fun k h5 h7 h8 h29 h30 h31 h33 => by
      rw [← hC, zU_off h8, zU_off h7, zU_off h7, zU_off h7]
      have a : (zCp (zU (zQ σ G) 5 0 1 0) 31 0 0 33 (6 * 0 + t) 0 (D2.reverse ++ (D1.reverse ++ [])).length).1 k = (zU (zQ σ G) 5 0 1 0).1 k := funext fun n => funext fun j => if_neg (fun q => h33 q.1)
      rw [a, zU_off h5]
      refine if_neg (fun h => ?_)
      unfold qk at h
      simp only [Bool.or_eq_true, beq_iff_eq] at h
      omega
    have c10 := cK 10 (by decide) (by decide) (by decide) (by decide) (by decide) (by decide) (by decide)
    have c69 := cK 69 (by decide) (by decide) (by decide) (by decide) (by decide) (by decide) (by decide)
    have mC : mTp Cs (fun i => σ.1 69 0 i) N := ⟨by rw [c10]; exact hN, by omega, fun i hi => by rw [c69]; exact mT.2.2 i hi⟩
    refine zs_151G (d := d + 36) (t := t) mC (by rw [c10]; exact ht) t6 hG (fun s2 K2 s97 => ⟨⟨_, rfl, rfl⟩, ?_⟩)
    generalize hF : zU (zFl (zU (zU (zU s2 10 0 7 0) 73 0 t ((D1.reverse ++ []).length : Int)) 72 0 t ((D2.reverse ++ (D1.reverse ++ [])).length : Int)) 71 0 (200 * t) (200 * t + (D2.reverse ++ (D1.reverse ++ [])).length) (fun j => s2.1 97 0 (j - 200 * t))) 10 0 6 ((t + 1 : Nat) : Int) = Fs
    have zk : ∀ {τ : zS} {a lo hi k : Nat} {g : Nat → Int}, ¬ k = a → (zFl τ a 0 lo hi g).1 k = τ.1 k := fun h => funext fun n => funext fun j => if_neg (fun q => h q.1)
    have fK : ∀ k, ¬ k = 10 → ¬ k = 71 → ¬ k = 72 → ¬ k = 73 → ¬ k = 95 → ¬ k = 96 → ¬ k = 97 → Fs.1 k = Cs.1 k := fun k h1 h2 h3 h4 h5 h6 h7 => by
      rw [← hF, zU_off h1, zk h2, zU_off h3, zU_off h4, zU_off h1]
      exact K2.2.1 k h1 h5 h6 h7
    have f10 : ∀ j, ¬ j = 6 → Fs.1 10 0 j = (zU s2 10 0 7 0).1 10 0 j := fun j hj => by
      rw [← hF]
      refine (zU_ne (fun q => hj q.2.1)).trans ?_
      rw [zk (by decide), zU_off (by decide), zU_off (by decide)]
    have f6 : Fs.1 10 0 6 = ((t + 1 : Nat) : Int) := by rw [← hF]; exact zU_same
    have f8 : Fs.1 8 = Cs.1 8 := fK 8 (by decide) (by decide) (by decide) (by decide) (by decide) (by decide) (by decide)
    have c13 : Cs.1 8 0 13 = ((t + 1 : Nat) : Int) := by rw [← hC]; exact zU_same
    have c8 : ∀ j, ¬ j = 13 → Cs.1 8 0 j = σ.1 8 0 j := fun j hj => by
      rw [← hC]
      exact zU_ne (fun q => hj q.2.1)
    have c7 : ∀ n j, ¬ (n = 6 * 0 + t) → Cs.1 7 n j = σ.1 7 n j := fun n j hn => by
      rw [← hC]
      exact (zU_ne (fun q => hn q.2.2)).trans ((zU_ne (fun q => hn q.2.2)).trans (zU_ne (fun q => hn q.2.2)))
    have c7t : Cs.1 7 (6 * 0 + t) 1 = ((D1.reverse ++ []).length : Int) ∧ Cs.1 7 (6 * 0 + t) 2 = ((D2.reverse ++ (D1.reverse ++ [])).length : Int) ∧ Cs.1 7 (6 * 0 + t) 3 = G 5 0 10 := by
      rw [← hC]
      exact ⟨(zU_ne (fun q => absurd q.2.1 (by decide))).trans ((zU_ne (fun q => absurd q.2.1 (by decide))).trans zU_same), (zU_ne (fun q => absurd q.2.1 (by decide))).trans zU_same, zU_same⟩
    have c33 : ∀ n j, ¬ (n = 6 * 0 + t) → Cs.1 33 n j = σ.1 33 n j := fun n j hn => by
      rw [← hC]
      exact if_neg (fun q => hn q.2.1)
    have c33t : ∀ j, j < (D2.reverse ++ (D1.reverse ++ [])).length → Cs.1 33 (6 * 0 + t) j = qRC (qCl (D2.reverse ++ (D1.reverse ++ [])) j) := fun j hj => by
      rw [← hC]
      refine (if_pos ⟨rfl, rfl, Nat.zero_le _, by omega⟩).trans ?_
      show G 31 0 (0 + (j - 0)) = _
      rw [Nat.sub_zero, Nat.zero_add]; exact g31 j hj
    have m71 : ∀ j, Fs.1 71 0 j = if 200 * t ≤ j ∧ j < 200 * t + (D2.reverse ++ (D1.reverse ++ [])).length then s2.1 97 0 (j - 200 * t) else σ.1 71 0 j := fun j => by
      rw [← hF]
      show (if 71 = 71 ∧ (200 * t ≤ j ∧ j < 200 * t + (D2.reverse ++ (D1.reverse ++ [])).length) ∧ 0 = 0 then s2.1 97 0 (j - 200 * t) else s2.1 71 0 j) = _
      rw [K2.2.1 71 (by decide) (by decide) (by decide) (by decide), cK 71 (by decide) (by decide) (by decide) (by decide) (by decide) (by decide) (by decide)]
      by_cases c : 200 * t ≤ j ∧ j < 200 * t + (D2.reverse ++ (D1.reverse ++ [])).length
      · rw [if_pos ⟨rfl, c, rfl⟩, if_pos c]
      · rw [if_neg (fun q => c q.2.1), if_neg c]
    have m72 : ∀ j, Fs.1 72 0 j = if j = t then ((D2.reverse ++ (D1.reverse ++ [])).length : Int) else σ.1 72 0 j := fun j => by
      rw [← hF]
      show (if 72 = 72 ∧ j = t ∧ 0 = 0 then ((D2.reverse ++ (D1.reverse ++ [])).length : Int) else s2.1 72 0 j) = _
      rw [ifk, K2.2.1 72 (by decide) (by decide) (by decide) (by decide), cK 72 (by decide) (by decide) (by decide) (by decide) (by decide) (by decide) (by decide)]
    have m73 : ∀ j, Fs.1 73 0 j = if j = t then ((D1.reverse ++ []).length : Int) else σ.1 73 0 j := fun j => by
      rw [← hF]
      show (if 73 = 73 ∧ j = t ∧ 0 = 0 then ((D1.reverse ++ []).length : Int) else s2.1 73 0 j) = _
      rw [ifk, K2.2.1 73 (by decide) (by decide) (by decide) (by decide), cK 73 (by decide) (by decide) (by decide) (by decide) (by decide) (by decide) (by decide)]
    have F7 : Fs.1 7 = Cs.1 7 := fK 7 (by decide) (by decide) (by decide) (by decide) (by decide) (by decide) (by decide)
    have F33 : Fs.1 33 = Cs.1 33 := fK 33 (by decide) (by decide) (by decide) (by decide) (by decide) (by decide) (by decide)
    have new : rTx Fs t := by
      refine yT_new Hs Hs2 Cv Cv2 hl (by rw [F7]; exact c7t.1) (by rw [F7]; exact c7t.2.1) ((m73 t).trans (if_pos rfl)) ((m72 t).trans (if_pos rfl)) (fun i hi => by rw [F33]; exact c33t i hi) (fun i hi => ?_) (fun z => gU2 ?_)
      · rw [m71, if_pos (by omega), show 200 * t + i - 200 * t = i by omega]
        exact s97 i hi
      · rw [F7, c7t.2.2] at z; exact z
    have F2 : Fs.2 = σ.2 := by
      rw [← hF]
      refine K2.2.2.trans ?_
      rw [← hC]; rfl
    have e := zY_of (σ := σ) (s := Fs) (fun k hk h8 h10 => by
      obtain ⟨n1, n2, n3, n4, n5, n6, n7, n8, n9, n10, n11, n12⟩ := tk_ne hk
      exact (fK k h10 n7 n8 n9 n10 n11 n12).trans (cK k n1 n2 h8 n3 n4 n5 n6)) (fun j hj => by rw [f8]; exact c8 j hj) (fun j hj => by
      rw [f10 j (by omega)]
      refine (zU_ne (fun q => by omega)).trans ?_
      rw [K2.1 0 j (by omega), c10]) F2
    rw [e] at new ⊢
    refine yText R0 P ht ?_ ?_ ?_ (.inr ⟨f6, t6, new⟩) (fun u hu => ⟨?_, ?_, ?_, ?_, fun j hj => ?_⟩)
    · rw [fK 5 (by decide) (by decide) (by decide) (by decide) (by decide) (by decide) (by decide), ← hC]
      rfl
    · exact (f10 7 (by decide)).trans zU_same
    · rw [f8, c13, f6]
    · rw [F7]; exact funext fun j => c7 _ j (by omega)
    · rw [F33]; exact funext fun j => c33 _ j (by omega)
    · rw [m72, if_neg (by omega)]
    · rw [m73, if_neg (by omega)]
    · rw [m71, if_neg (by omega)]
