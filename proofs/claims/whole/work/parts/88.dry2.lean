-- dry: a set tried (wip/whole/gen/laws60.py)
def uDry (D : uT) (x : Int) : uT := fun f j => if f = 19 ∧ ¬ j = 0 then x else D f j
theorem uDry_f {D : uT} {x : Int} {f : Nat} (h : ¬ f = 19) : uDry D x f = D f := funext fun j => if_neg (fun k => h k.1)
theorem mD_dry {σ : zS} {x : Int} : mD (zU σ 10 0 66 x) = uDry (mD σ) x := by
  refine funext fun f => funext fun j => ?_
  by_cases e : f = 19
  · subst e
    cases j with
    | zero => rfl
    | succ j => exact (if_pos ⟨rfl, Nat.succ_ne_zero j⟩).symm
  · rw [uDry_f e]
    match f, e with
    | 0, _ => rfl
    | 1, _ => rfl
    | 2, _ => rfl
    | 3, _ => rfl
    | 4, _ => rfl
    | 5, _ => rfl
    | 6, _ => rfl
    | 7, _ => rfl
    | 8, _ => rfl
    | 9, _ => rfl
    | 10, _ => rfl
    | 11, _ => rfl
    | 12, _ => rfl
    | 13, _ => rfl
    | 14, _ => rfl
    | 15, _ => rfl
    | 16, _ => rfl
    | 17, _ => rfl
    | 18, _ => rfl
    | 19, h => exact absurd rfl h
    | f + 20, _ => rfl
theorem zs_5 {d : Nat} {t : zS} {Q : Option zV → zS → Prop} {D : uT} {y b : Int} {k rd x : Nat} (O : uOk (uDry D (x : Int))) (hx : x < 65536) (l0 : ∀ r, r < 7 → ¬ D 3 r = 0 → t.1 3 (7 * 0 + r) 2 = D 5 r) (F : cFl t 1 (uDry D y) k rd)
    (q1 : ∀ G k' rd', k' ≤ rd' → cFl (zG t G) 1 (uDry D (x : Int)) k' rd' → cOth t G 1 → (∀ m, m < 96 → vShp (uDry D (x : Int)) m ≤ b) → Q (some (.inl 1)) (zG t G))
    (q0 : ∀ G k' rd', k' ≤ rd' → cFl (zG t G) 1 (uDry D (x : Int)) k' rd' → cOth t G 1 → ¬ (∀ m, m < 96 → vShp (uDry D (x : Int)) m ≤ b) → Q (some (.inl 0)) (zG t G)) :
    zM (d + 16) 5 [.inr (.inr (0, 1)), .inl (x : Int), .inl b] t Q := by
  refine zb_5 (d := d) (f := 1) ?_
  refine zX_call rfl rfl ?_
  refine zs_1 (d := d + 15) (fun G C => ?_)
  have e0 : zU t 0 1 9 (x : Int) = zG t (uG t.1 0 1 9 (x : Int)) := by
    conv => lhs; rw [zG_self (σ := t)]
    exact zG_U rfl
  obtain ⟨c1, c2, c3, c4⟩ := C
  have C1 : cRd1 t G (x : Int) := ⟨c1, c2, fun n j => (c3 n j).trans (by
    show (if j = 11 ∧ n = 1 then 0 else if 0 = 0 ∧ j = 9 ∧ n = 1 then (x : Int) else t.1 0 n j) = if n = 1 ∧ j = 11 then 0 else if n = 1 ∧ j = 9 then (x : Int) else t.1 0 n j
    by_cases a : n = 1 ∧ j = 11
    · rw [if_pos a, if_pos ⟨a.2, a.1⟩]
    · rw [if_neg a, if_neg (fun k => a ⟨k.2, k.1⟩)]
      by_cases a2 : n = 1 ∧ j = 9
      · rw [if_pos a2, if_pos ⟨rfl, a2.2, a2.1⟩]
      · rw [if_neg a2, if_neg (fun k => a2 ⟨k.2.2, k.2.1⟩)]), fun k hk h0 h26 h27 => (c4 k h0 h26 h27).trans (by
    refine funext fun n => funext fun j => ?_
    exact if_neg (fun p => h0 p.1))⟩
  rw [e0, zG_H]
  have Z := cFl_dry (x := (x : Int)) (D := uDry D y) (D' := uDry D (x : Int)) (fun f hf => by rw [uDry_f hf, uDry_f hf]) rfl rfl ⟨Int.natCast_nonneg _, by omega⟩ (fun r hr ht => l0 r hr ht) C1 F
  refine zb_5b (d := d) (f := 1) ?_
  have L := zLoop (P := fun m => ∀ G k rd, k ≤ rd → m ≤ k → cFl (zG t G) 1 (uDry D (x : Int)) k rd → cOth t G 1 → (∀ j, j < m → vShp (uDry D (x : Int)) j ≤ b) → zX (d + 16) 5 7 [some (.inr (.inr (0, 1))), some (.inl (x : Int)), some (.inl b), some (.inl (m : Int))] [] (zG t G) Q) (k := 0) (N := 96) (Nat.zero_le _) (fun G k rd h1 h2 F O1 A => ?_) (fun m _ hm ih G k rd h1 h2 F O1 A => ?_)
  · exact L G 0 rd (Nat.zero_le _) (Nat.le_refl _) Z.1 Z.2 (fun j hj => absurd hj (Nat.not_lt_zero _))
  · exact zb_5l (fun _ => q1 G k rd h1 F O1 A) (fun a => absurd (by decide) a)
  · have nl : ¬ (96 : Int) ≤ (m : Int) := by omega
    have im : (0 : Int) ≤ (m : Int) ∧ (m : Int) < 96 := by omega
    have iM : (0 : Int) ≤ ((m + 1 : Nat) : Int) ∧ ((m + 1 : Nat) : Int) ≤ 96 := by omega
    have lt : (m : Int) < ((m + 1 : Nat) : Int) := by omega
    have hz : zW ((m : Int) + 1) = ((m + 1 : Nat) : Int) := zWs (by omega)
    refine zb_5l (fun a => absurd a nl) (fun _ => ?_)
    rw [hz]
    refine zX_call rfl rfl ?_
    refine ys_2t (d := d + 1) O iM h1 F (fun G3 W3 O3 => ?_)
    rw [zG_H] at W3 ⊢
    have O4 := cOth_t1 O1 O3
    have sh := cw_shp W3 lt
    obtain ⟨k', rd', g1, g2, F'⟩ := W3
    refine zb_5c (d := d) im (fun a => ?_) (fun a => ?_)
    · rw [hz]
      have a' : vShp (uDry D (x : Int)) m ≤ b := by rw [← sh]; exact a
      exact ih G3 k' rd' g2 (by omega) F' O4 (fun j hj => by
        by_cases e : j = m
        · rw [e]; exact a'
        · exact A j (by omega))
    · have a' : ¬ vShp (uDry D (x : Int)) m ≤ b := by rw [← sh]; exact a
      exact q0 G3 k' rd' g2 F' O4 (fun k => a' (k m hm))
