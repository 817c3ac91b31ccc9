-- the tape as tokens, pure; blocks of the class that find them (wip/whole/gen/laws76.py)
def qSp (T : Nat → Int) (lo hi : Int) : Nat → Nat → Nat
  | 0, p => p
  | f + 1, p => if lo ≤ T p ∧ T p ≤ hi then qSp T lo hi f (p + 1) else p
/-- where the token that begins at p ends -/
def qEnd (T : Nat → Int) (N p : Nat) : Nat := if 97 ≤ T p ∧ T p ≤ 122 then qSp T 97 122 (N - (p + 1)) (p + 1) else if 48 ≤ T p ∧ T p ≤ 57 then qSp T 48 57 (N - (p + 1)) (p + 1) else p + 1
def qBt (w i : Nat) : Int := ((rvSb.getD w []).getD i 0).toInt
def qEqW (T : Nat → Int) (w p : Nat) : Nat → Nat → Bool
  | 0, _ => true
  | f + 1, i => if T (p + i) = qBt w i then qEqW T w p f (i + 1) else false
def qIsW (T : Nat → Int) (p n w : Nat) : Bool := if rvSn.getD w 0 = n then qEqW T w p n 0 else false
def qWord (T : Nat → Int) (p n : Nat) : Int := if qIsW T p n 0 = true then 0 else if qIsW T p n 1 = true then 1 else if qIsW T p n 2 = true then 2 else if qIsW T p n 3 = true then 3 else if qIsW T p n 4 = true then 4 else if qIsW T p n 5 = true then 5 else if qIsW T p n 6 = true then 22 else if qIsW T p n 7 = true then 23 else if qIsW T p n 8 = true then 10 else if qIsW T p n 9 = true then 11 else if qIsW T p n 10 = true then 12 else 24
def qHo (T : Nat → Int) (p : Nat) : Nat → Int
  | 0 => 0
  | i + 1 => qHo T p i * 10 + T (p + i) - 48
def qSgn (c : Int) : Int := if c = 40 then 19 else if c = 41 then 20 else if c = 59 then 21 else if c = 43 then 15 else if c = 45 then 16 else if c = 42 then 17 else if c = 60 then 13 else if c = 61 then 14 else 24
def qTok (T : Nat → Int) (p q : Nat) : Int := if 97 ≤ T p ∧ T p ≤ 122 then qWord T p (q - p) else if 48 ≤ T p ∧ T p ≤ 57 then (if 4 < q - p then 24 else 100 + qHo T p (q - p)) else qSgn (T p)
def qSk (T : Nat → Int) : Nat → Nat → Nat
  | 0, p => p
  | f + 1, p => if T p = 32 ∨ T p = 10 then qSk T f (p + 1) else p
/-- where the reading stands ahead of the k-th token -/
def qA (T : Nat → Int) (N : Nat) : Nat → Nat
  | 0 => 0
  | k + 1 => if qSk T (N - qA T N k) (qA T N k) = N then N else qEnd T N (qSk T (N - qA T N k) (qA T N k))
/-- the k-th token's place -/
def qP (T : Nat → Int) (N k : Nat) : Nat := qSk T (N - qA T N k) (qA T N k)
/-- the k-th token -/
def qK (T : Nat → Int) (N k : Nat) : Int := if qP T N k = N then 25 else qTok T (qP T N k) (qEnd T N (qP T N k))
theorem qSp_le {T : Nat → Int} {lo hi : Int} : ∀ {f p : Nat}, p ≤ qSp T lo hi f p ∧ qSp T lo hi f p ≤ p + f
  | 0, p => ⟨Nat.le_refl p, Nat.le_refl p⟩
  | f + 1, p => by
    have I := qSp_le (T := T) (lo := lo) (hi := hi) (f := f) (p := p + 1)
    unfold qSp
    split <;> omega
theorem qSp_in {T : Nat → Int} {lo hi : Int} : ∀ {f p : Nat}, ∀ i, p ≤ i → i < qSp T lo hi f p → lo ≤ T i ∧ T i ≤ hi
  | 0, p => fun i h1 h2 => absurd h2 (Nat.not_lt.mpr h1)
  | f + 1, p => fun i h1 h2 => by
    unfold qSp at h2
    split at h2
    · rename_i c
      by_cases e : i = p
      · rw [e]; exact c
      · exact qSp_in (f := f) (p := p + 1) i (by omega) h2
    · omega
theorem qEnd_le {T : Nat → Int} {N p : Nat} (h : p < N) : p < qEnd T N p ∧ qEnd T N p ≤ N := by
  have a := qSp_le (T := T) (lo := 97) (hi := 122) (f := N - (p + 1)) (p := p + 1)
  have b := qSp_le (T := T) (lo := 48) (hi := 57) (f := N - (p + 1)) (p := p + 1)
  unfold qEnd
  (repeat' split) <;> omega
theorem qEnd_num {T : Nat → Int} {N p : Nat} (h1 : ¬ (97 ≤ T p ∧ T p ≤ 122)) (h2 : 48 ≤ T p ∧ T p ≤ 57) : ∀ i, i < qEnd T N p - p → 48 ≤ T (p + i) ∧ T (p + i) ≤ 57 := fun i hi => by
  unfold qEnd at hi
  rw [if_neg h1, if_pos h2] at hi
  by_cases e : i = 0
  · rw [e]; exact h2
  · exact qSp_in (T := T) (f := N - (p + 1)) (p := p + 1) (p + i) (by omega) (by omega)
theorem qSk_le {T : Nat → Int} : ∀ {f p : Nat}, p ≤ qSk T f p ∧ qSk T f p ≤ p + f
  | 0, p => ⟨Nat.le_refl p, Nat.le_refl p⟩
  | f + 1, p => by
    have I := qSk_le (T := T) (f := f) (p := p + 1)
    unfold qSk
    split <;> omega
theorem qSk_at {T : Nat → Int} {f p : Nat} (h : ¬ (T p = 32 ∨ T p = 10)) : qSk T f p = p := by
  cases f with
  | zero => rfl
  | succ f => exact if_neg h
theorem qSk_bl {T : Nat → Int} {N p : Nat} (hp : p < N) (h : T p = 32 ∨ T p = 10) : qSk T (N - p) p = qSk T (N - (p + 1)) (p + 1) := by
  rw [show N - p = (N - (p + 1)) + 1 by omega]
  exact if_pos h
theorem qSk_no {T : Nat → Int} : ∀ {f p : Nat}, qSk T f p < p + f → ¬ (T (qSk T f p) = 32 ∨ T (qSk T f p) = 10)
  | 0, p => fun h => absurd h (Nat.lt_irrefl _)
  | f + 1, p => fun h => by
    unfold qSk at h ⊢
    split at h
    · rename_i c
      rw [if_pos c]
      exact qSk_no (f := f) (p := p + 1) (by omega)
    · rename_i c
      rw [if_neg c]; exact c
theorem qA_le {T : Nat → Int} {N : Nat} : ∀ {k : Nat}, qA T N k ≤ N
  | 0 => Nat.zero_le _
  | k + 1 => by
    have I := qA_le (T := T) (N := N) (k := k)
    have S := qSk_le (T := T) (f := N - qA T N k) (p := qA T N k)
    unfold qA
    split
    · exact Nat.le_refl _
    · exact (qEnd_le (by omega)).2
theorem qP_le {T : Nat → Int} {N k : Nat} : qA T N k ≤ qP T N k ∧ qP T N k ≤ N := by
  have I := qA_le (T := T) (N := N) (k := k)
  have S := qSk_le (T := T) (f := N - qA T N k) (p := qA T N k)
  unfold qP
  omega
theorem qA_s {T : Nat → Int} {N k : Nat} (h : ¬ qP T N k = N) : qA T N (k + 1) = qEnd T N (qP T N k) := if_neg h
theorem qA_N {T : Nat → Int} {N k : Nat} (h : qP T N k = N) : qA T N (k + 1) = N := if_pos h
theorem qP_no {T : Nat → Int} {N k : Nat} (h : ¬ qP T N k = N) : ¬ (T (qP T N k) = 32 ∨ T (qP T N k) = 10) := by
  have := qP_le (T := T) (N := N) (k := k)
  have I := qA_le (T := T) (N := N) (k := k)
  exact qSk_no (by unfold qP at h this; omega)
theorem qHo_b {T : Nat → Int} {p : Nat} : ∀ {n : Nat}, (∀ i, i < n → 48 ≤ T (p + i) ∧ T (p + i) ≤ 57) → 0 ≤ qHo T p n ∧ (n ≤ 4 → qHo T p n ≤ 9999) ∧ (n ≤ 3 → qHo T p n ≤ 999) ∧ (n ≤ 2 → qHo T p n ≤ 99) ∧ (n ≤ 1 → qHo T p n ≤ 9) ∧ (n = 0 → qHo T p n = 0)
  | 0, _ => by unfold qHo; omega
  | n + 1, h => by
    have I := qHo_b (T := T) (p := p) (n := n) (fun i hi => h i (by omega))
    have e := h n (by omega)
    unfold qHo
    omega
theorem qWord_tv {T : Nat → Int} {p n : Nat} : qTv (qWord T p n) ∧ ¬ qWord T p n = 25 := by
  unfold qWord qTv
  (repeat' split) <;> omega
theorem qSgn_tv {c : Int} : qTv (qSgn c) ∧ ¬ qSgn c = 25 := by
  unfold qSgn qTv
  (repeat' split) <;> omega
theorem qTok_tv {T : Nat → Int} {N p : Nat} : qTv (qTok T p (qEnd T N p)) ∧ ¬ qTok T p (qEnd T N p) = 25 := by
  unfold qTok
  by_cases c1 : 97 ≤ T p ∧ T p ≤ 122
  · rw [if_pos c1]; exact qWord_tv
  · rw [if_neg c1]
    by_cases c2 : 48 ≤ T p ∧ T p ≤ 57
    · rw [if_pos c2]
      have B := qHo_b (qEnd_num (N := N) c1 c2)
      unfold qTv
      split <;> omega
    · rw [if_neg c2]; exact qSgn_tv
theorem qK_tv {T : Nat → Int} {N k : Nat} : qTv (qK T N k) ∧ (qK T N k = 25 ↔ qP T N k = N) := by
  unfold qK
  split
  · rename_i h; exact ⟨by unfold qTv; omega, by simp [h]⟩
  · rename_i h; exact ⟨qTok_tv.1, iff_of_false qTok_tv.2 h⟩
theorem qBt_b (w i : Nat) : 0 ≤ qBt w i ∧ qBt w i < 128 := by
  have H : rvSb.all (fun l => l.all (fun b => decide (0 ≤ b.toInt ∧ b.toInt < 128))) = true := by decide +kernel
  rw [List.all_eq_true] at H
  unfold qBt
  rw [List.getD_eq_getElem?_getD, List.getD_eq_getElem?_getD]
  cases h : rvSb[w]? with
  | none =>
    show 0 ≤ (0 : Int32).toInt ∧ (0 : Int32).toInt < 128
    decide
  | some l =>
    have h1 := H l (List.mem_of_getElem? h)
    rw [List.all_eq_true] at h1
    show 0 ≤ (l[i]?.getD 0).toInt ∧ (l[i]?.getD 0).toInt < 128
    cases g : l[i]? with
    | none => exact ⟨by decide, by decide⟩
    | some b => exact of_decide_eq_true (h1 b (List.mem_of_getElem? g))
theorem qSn_b (w : Nat) : rvSn.getD w 0 ≤ 5 := by
  have H : rvSn.all (fun l => decide (l ≤ 5)) = true := by decide +kernel
  rw [List.all_eq_true] at H
  rw [List.getD_eq_getElem?_getD]
  cases h : rvSn[w]? with
  | none => exact Nat.zero_le _
  | some l => exact of_decide_eq_true (H l (List.mem_of_getElem? h))
def cTp (σ : zS) (T : Nat → Int) (N : Nat) : Prop := σ.1 5 0 1 = (N : Int) ∧ N ≤ 160 ∧ ∀ i, i < N → σ.1 28 0 i = (T i + 128) % 256 - 128 ∧ 0 ≤ T i ∧ T i < 256
def mTp (σ : zS) (T : Nat → Int) (N : Nat) : Prop := σ.1 10 0 7 = (N : Int) ∧ N ≤ 160 ∧ ∀ i, i < N → σ.1 69 0 i = T i ∧ 0 ≤ T i ∧ T i < 256
theorem qBy {b t lo hi : Int} (e : b = (t + 128) % 256 - 128 ∧ 0 ≤ t ∧ t < 256) (hl : 0 ≤ lo ∧ hi < 128) : (lo ≤ b ∧ b ≤ hi) ↔ (lo ≤ t ∧ t ≤ hi) := by omega
theorem qBe {b t c : Int} (e : b = (t + 128) % 256 - 128 ∧ 0 ≤ t ∧ t < 256) (hc : 0 ≤ c ∧ c < 128) : b = c ↔ t = c := by omega
theorem qW1 {k : Nat} (h : k < 100000) : zW ((k : Int) + 1) = ((k + 1 : Nat) : Int) := by unfold zW; omega
theorem qWa {a b : Nat} (h : a + b < 100000) : zW ((a : Int) + (b : Int)) = ((a + b : Nat) : Int) := by unfold zW; omega
theorem qWs {a b : Nat} (h : b ≤ a) (h2 : a < 100000) : zW ((a : Int) - (b : Int)) = ((a - b : Nat) : Int) := by unfold zW; omega
theorem zs_40 {d : Nat} {σ : zS} {Q : Option zV → zS → Prop} {x : Int} 
    (h1 : 97 ≤ x ∧ x ≤ 122 → Q (some (.inl 1)) σ) (h2 : ¬ (97 ≤ x ∧ x ≤ 122) → Q (some (.inl 0)) σ) :
    zM (d + 1) 40 [.inl x] σ Q :=
  zm_40 (fun a0 => h2 (by omega)) (fun a0 a1 => h2 (by omega)) (fun a0 a1 => h1 (by omega))
theorem zs_41 {d : Nat} {σ : zS} {Q : Option zV → zS → Prop} {x : Int} 
    (h1 : 48 ≤ x ∧ x ≤ 57 → Q (some (.inl 1)) σ) (h2 : ¬ (48 ≤ x ∧ x ≤ 57) → Q (some (.inl 0)) σ) :
    zM (d + 1) 41 [.inl x] σ Q :=
  zm_41 (fun a0 => h2 (by omega)) (fun a0 a1 => h2 (by omega)) (fun a0 a1 => h1 (by omega))
