-- held, the reference's loops (wip/whole/gen/laws70.py)
/-- what the reference keeps of the lakes: their releases, and the lakes in order -/
def zAL (σ : zS) (A L : Nat → Nat → Int) : zS := (fun k n j => if k = 104 then A n j else if k = 103 then L n j else σ.1 k n j, σ.2)
theorem zAL_A {σ : zS} {A L : Nat → Nat → Int} {j : Nat} {v : Int} : zU (zAL σ A L) 104 0 j v = zAL σ (fun n i => if i = j ∧ n = 0 then v else A n i) L := by
  refine Prod.ext (funext fun k => funext fun n => funext fun i => ?_) rfl
  show (if k = 104 ∧ i = j ∧ n = 0 then v else if k = 104 then A n i else if k = 103 then L n i else σ.1 k n i) = if k = 104 then (if i = j ∧ n = 0 then v else A n i) else if k = 103 then L n i else σ.1 k n i
  by_cases c : k = 104
  · rw [if_pos c, if_pos c]
    by_cases e : i = j ∧ n = 0
    · rw [if_pos e, if_pos ⟨c, e⟩]
    · rw [if_neg e, if_neg (fun q => e q.2)]
  · rw [if_neg c, if_neg c, if_neg (fun q => c q.1)]
theorem zAL_L {σ : zS} {A L : Nat → Nat → Int} {j : Nat} {v : Int} : zU (zAL σ A L) 103 0 j v = zAL σ A (fun n i => if i = j ∧ n = 0 then v else L n i) := by
  refine Prod.ext (funext fun k => funext fun n => funext fun i => ?_) rfl
  show (if k = 103 ∧ i = j ∧ n = 0 then v else if k = 104 then A n i else if k = 103 then L n i else σ.1 k n i) = if k = 104 then A n i else if k = 103 then (if i = j ∧ n = 0 then v else L n i) else σ.1 k n i
  by_cases c : k = 103
  · subst c
    show (if 103 = 103 ∧ i = j ∧ n = 0 then v else L n i) = if i = j ∧ n = 0 then v else L n i
    by_cases e : i = j ∧ n = 0
    · rw [if_pos e, if_pos ⟨rfl, e⟩]
    · rw [if_neg e, if_neg (fun q => e q.2)]
  · rw [if_neg c, if_neg c, if_neg (fun q => c q.1)]
theorem zAL_0 {σ : zS} : zAL σ (σ.1 104) (σ.1 103) = σ := by
  refine Prod.ext (funext fun k => funext fun n => funext fun i => ?_) rfl
  show (if k = 104 then σ.1 104 n i else if k = 103 then σ.1 103 n i else σ.1 k n i) = σ.1 k n i
  by_cases c : k = 104
  · rw [if_pos c, c]
  · rw [if_neg c]
    by_cases c : k = 103
    · rw [if_pos c, c]
    · rw [if_neg c]
theorem uCnt_lt {th : Nat → Int} {a b : Nat} (h : a < b) (ha : ¬ th a = 0) : uCnt th a < uCnt th b := by
  have m := uCnt_m (th := th) (a := a + 1) (b - (a + 1))
  rw [show a + 1 + (b - (a + 1)) = b by omega] at m
  have e : uCnt th (a + 1) = uCnt th a + 1 := if_neg ha
  omega
theorem zH_a {d : Nat} {σ : zS} {Q : Option zV → zS → Prop} {p u : Int} {x5 x6 x7 x8 x9 x10 x11 x12 x13 x14 x15 : Option zV}
    (q : ∀ A L : Nat → Nat → Int, (∀ j, j < 7 → A 0 j = σ.1 59 0 j) → (∀ j, j < 7 → ¬ σ.1 55 0 j = 0 → L 0 (uCnt (σ.1 55 0) j) = (j : Int)) → ∀ r : Int, zX (d + 10) 181 40 [some (.inr (.inr (10, 0))), some (.inl p), some (.inl u), some (.inl (uCnt (σ.1 55 0) 7 : Int)), some (.inl r), x5, x6, x7, x8, x9, x10, x11, x12, x13, x14, x15] [] (zAL σ A L) Q) :
    zX (d + 10) 181 16 [some (.inr (.inr (10, 0))), some (.inl p), some (.inl u), some (.inl 0), some (.inl 0), x5, x6, x7, x8, x9, x10, x11, x12, x13, x14, x15] [] σ Q := by
  have L := zLoop (P := fun r => ∀ A L : Nat → Nat → Int, (∀ j, j < r → A 0 j = σ.1 59 0 j) → (∀ j, j < r → ¬ σ.1 55 0 j = 0 → L 0 (uCnt (σ.1 55 0) j) = (j : Int)) → zX (d + 10) 181 16 [some (.inr (.inr (10, 0))), some (.inl p), some (.inl u), some (.inl (uCnt (σ.1 55 0) r : Int)), some (.inl (r : Int)), x5, x6, x7, x8, x9, x10, x11, x12, x13, x14, x15] [] (zAL σ A L) Q) (k := 0) (N := 7) (Nat.zero_le _) (fun A L hA hL => ?_) (fun r _ hr ih A L hA hL => ?_)
  · have L := L (σ.1 104) (σ.1 103) (fun j hj => absurd hj (Nat.not_lt_zero _)) (fun j hj => absurd hj (Nat.not_lt_zero _))
    rw [zAL_0] at L
    exact L
  · exact zb_181a (fun a => absurd (by decide) a) (fun a => absurd (by decide) a) (fun _ => q A L hA hL _) (fun a => absurd (by decide) a) (fun a => absurd (by decide) a)
  · have nl : ¬ (7 : Int) ≤ (r : Int) := by clear q ih; omega
    have ir : (0 : Int) ≤ (r : Int) ∧ (r : Int) < 7 := by clear q ih; omega
    have hz : zW ((r : Int) + 1) = ((r + 1 : Nat) : Int) := zWs (by clear q ih; omega)
    have cl := uCnt_le (th := σ.1 55 0) (r := r)
    have ic : (0 : Int) ≤ (uCnt (σ.1 55 0) r : Int) ∧ (uCnt (σ.1 55 0) r : Int) < 7 := by clear q ih; omega
    have cz : zW ((uCnt (σ.1 55 0) r : Int) + 1) = ((uCnt (σ.1 55 0) r + 1 : Nat) : Int) := zWs (by clear q ih; omega)
    have hA' : ∀ j, j < r + 1 → (fun n i => if i = r ∧ n = 0 then σ.1 59 0 r else A n i) 0 j = σ.1 59 0 j := fun j hj => by
      show (if j = r ∧ 0 = 0 then σ.1 59 0 r else A 0 j) = σ.1 59 0 j
      by_cases e : j = r
      · rw [if_pos ⟨e, rfl⟩, e]
      · rw [if_neg (fun k => e k.1)]; exact hA j (by clear q ih; omega)
    refine zb_181a (fun _ => ir) (fun _ _ => ic) (fun a => absurd a nl) (fun _ c => ?_) (fun _ c => ?_)
    · have c : σ.1 55 0 r = 0 := c
      have e : uCnt (σ.1 55 0) (r + 1) = uCnt (σ.1 55 0) r := if_pos c
      rw [e] at ih
      rw [hz, Int.toNat_natCast, show (zAL σ A L).1 59 0 r = σ.1 59 0 r from rfl, zAL_A]
      refine ih _ L hA' (fun j hj ht => hL j ?_ ht)
      have ne : ¬ j = r := fun x => ht (by rw [x]; exact c)
      clear q ih; omega
    · have c : ¬ σ.1 55 0 r = 0 := c
      have e : uCnt (σ.1 55 0) (r + 1) = uCnt (σ.1 55 0) r + 1 := if_neg c
      rw [e] at ih
      rw [hz, cz, Int.toNat_natCast, Int.toNat_natCast, show (zAL σ A L).1 59 0 r = σ.1 59 0 r from rfl, zAL_A, zAL_L]
      refine ih _ _ hA' (fun j hj ht => ?_)
      show (if uCnt (σ.1 55 0) j = uCnt (σ.1 55 0) r ∧ 0 = 0 then (r : Int) else L 0 (uCnt (σ.1 55 0) j)) = (j : Int)
      by_cases e2 : j = r
      · rw [e2, if_pos ⟨rfl, rfl⟩]
      · have jr : j < r := by clear q ih; omega
        have lt := uCnt_lt jr ht
        rw [if_neg (fun k => by omega)]
        exact hL j jr ht
theorem zH_c {d : Nat} {t : zS} {Q : Option zV → zS → Prop} {p u : Int} {n : Nat} {x6 x7 x8 x9 x10 x11 x12 x13 x14 x15 : Option zV} (hn : n ≤ 3)
    (q : zX (d + 10) 181 58 [some (.inr (.inr (10, 0))), some (.inl p), some (.inl u), some (.inl (n : Int)), some (.inl ((4 ^ n : Nat) : Int)), some (.inl (n : Int)), x6, x7, x8, x9, x10, x11, x12, x13, x14, x15] [] t Q) :
    zX (d + 10) 181 49 [some (.inr (.inr (10, 0))), some (.inl p), some (.inl u), some (.inl (n : Int)), some (.inl 1), some (.inl 0), x6, x7, x8, x9, x10, x11, x12, x13, x14, x15] [] t Q := by
  refine zLoop (P := fun i => zX (d + 10) 181 49 [some (.inr (.inr (10, 0))), some (.inl p), some (.inl u), some (.inl (n : Int)), some (.inl ((4 ^ i : Nat) : Int)), some (.inl (i : Int)), x6, x7, x8, x9, x10, x11, x12, x13, x14, x15] [] t Q) (k := 0) (N := n) (Nat.zero_le _) ?_ (fun i _ hi ih => ?_)
  · exact zb_181c (fun _ => q) (fun a => absurd (Int.le_refl _) a)
  · have nl : ¬ (n : Int) ≤ (i : Int) := by clear q ih; omega
    have hz : zW ((i : Int) + 1) = ((i + 1 : Nat) : Int) := zWs (by clear q ih; omega)
    have p4 : 4 ^ i ≤ 64 := Nat.le_trans (Nat.pow_le_pow_right (by decide) (show i ≤ 3 by omega)) (by decide)
    have h4 : zW (((4 ^ i : Nat) : Int) * 4) = ((4 ^ (i + 1) : Nat) : Int) := by
      rw [Nat.pow_succ]
      generalize 4 ^ i = y at *
      clear q ih hz
      unfold zW; omega
    refine zb_181c (fun a => absurd a nl) (fun _ => ?_)
    rw [h4, hz]; exact ih
/-- the reference with releases g -/
def zR59 (s : zS) (g : Nat → Int) : zS := (fun k n j => if k = 59 ∧ n = 0 then g j else s.1 k n j, s.2)
theorem zR59_U {s τ : zS} {g : Nat → Int} {j : Nat} {v : Int} : zU (yR (zR59 s g) τ) 59 0 j v = yR (zR59 s (fun i => if i = j then v else g i)) τ := by
  refine Prod.ext (funext fun k => funext fun n => funext fun i => ?_) rfl
  show (if k = 59 ∧ i = j ∧ n = 0 then v else (if fm k = true then τ.1 k else (zR59 s g).1 k) n i) = (if fm k = true then τ.1 k else (zR59 s (fun i => if i = j then v else g i)).1 k) n i
  by_cases m : fm k = true
  · rw [if_pos m, if_pos m, if_neg (fun q => ?_)]
    rw [q.1] at m
    exact absurd m (by decide)
  · rw [if_neg m, if_neg m]
    show (if k = 59 ∧ i = j ∧ n = 0 then v else if k = 59 ∧ n = 0 then g i else s.1 k n i) = if k = 59 ∧ n = 0 then (if i = j then v else g i) else s.1 k n i
    by_cases c : k = 59 ∧ n = 0
    · rw [if_pos c, if_pos c]
      by_cases e : i = j
      · rw [if_pos e, if_pos ⟨c.1, e, c.2⟩]
      · rw [if_neg e, if_neg (fun q => e q.2.1)]
    · rw [if_neg c, if_neg c, if_neg (fun q => c ⟨q.1, q.2.2⟩)]
theorem zR59_0 {s : zS} {g : Nat → Int} (h : ∀ j, g j = s.1 59 0 j) : zR59 s g = s := by
  refine Prod.ext (funext fun k => funext fun n => funext fun i => ?_) rfl
  show (if k = 59 ∧ n = 0 then g i else s.1 k n i) = s.1 k n i
  by_cases c : k = 59 ∧ n = 0
  · rw [if_pos c, c.1, c.2, h]
  · rw [if_neg c]
/-- the releases by digits w, from reach r on -/
def hG (D : uT) (w r : Nat) (g : Nat → Int) : Nat → Int := fun i => if (r ≤ i ∧ i < 7) ∧ ¬ D 3 i = 0 then cRel ((hDig (D 3) w i : Nat) : Int) (D 7 i) else g i
theorem hG_7 {D : uT} {w : Nat} {g : Nat → Int} : hG D w 7 g = g := funext fun i => if_neg (fun q => by omega)
theorem hG_n {D : uT} {w r : Nat} {g : Nat → Int} (h : D 3 r = 0) : hG D w r g = hG D w (r + 1) g := by
  refine funext fun i => ?_
  unfold hG
  by_cases c : (r + 1 ≤ i ∧ i < 7) ∧ ¬ D 3 i = 0
  · rw [if_pos c, if_pos ⟨⟨by omega, c.1.2⟩, c.2⟩]
  · rw [if_neg c, if_neg (fun q => c ⟨⟨?_, q.1.2⟩, q.2⟩)]
    have ne : ¬ i = r := fun x => q.2 (by rw [x]; exact h)
    omega
theorem hG_s {D : uT} {w r : Nat} {g : Nat → Int} (hr : r < 7) (h : ¬ D 3 r = 0) : (fun i => if i = r then cRel ((hDig (D 3) w r : Nat) : Int) (D 7 r) else hG D w (r + 1) g i) = hG D w r g := by
  refine funext fun i => ?_
  unfold hG
  by_cases e : i = r
  · subst e
    rw [if_pos rfl, if_pos ⟨⟨Nat.le_refl _, hr⟩, h⟩]
  · rw [if_neg e]
    by_cases c : (r + 1 ≤ i ∧ i < 7) ∧ ¬ D 3 i = 0
    · rw [if_pos c, if_pos ⟨⟨by omega, c.1.2⟩, c.2⟩]
    · rw [if_neg c, if_neg (fun q => c ⟨⟨by omega, q.1.2⟩, q.2⟩)]
theorem cRel_d {d e : Int} : cRel d e = if d = 0 then 0 else if d = 1 then zW (e.tdiv 2) else if d = 2 then e else zW (2 * e) := rfl
theorem hc1 {c : Nat} (h : c < 7) : ((c + 1 : Nat) : Int) - 1 = (c : Int) ∧ ¬ (c : Int) < 0 ∧ ((0 : Int) ≤ (c : Int) ∧ (c : Int) < 7) ∧ zW ((c : Int) + (-1)) = (c : Int) - 1 := by
  refine ⟨by omega, by omega, by omega, ?_⟩
  unfold zW; omega
theorem hz2 {y : Nat} (h : y < 65536) : zW ((y : Int).tdiv 4) = ((y / 4 : Nat) : Int) ∧ zW ((y : Int) - zW (zW ((y : Int).tdiv 4) * 4)) = ((y % 4 : Nat) : Int) := by
  have e : zW ((y : Int).tdiv 4) = ((y / 4 : Nat) : Int) := by
    rw [Int.tdiv_eq_ediv_of_nonneg (by omega)]
    unfold zW; omega
  refine ⟨e, ?_⟩
  rw [e]
  unfold zW; omega
theorem zH_f {d : Nat} {σ τ : zS} {Q : Option zV → zS → Prop} {A L : Nat → Nat → Int} {g : Nat → Int} {p u a best least w0 : Int} {w : Nat} (hw : w < 65536) (hA : ∀ j, j < 7 → A 0 j = σ.1 59 0 j) (hL : ∀ j, j < 7 → ¬ σ.1 55 0 j = 0 → L 0 (uCnt (σ.1 55 0) j) = (j : Int)) {n : Int}
    (q : ∀ (q i : Int) (x11 x12 x13 x14 x15 : Option zV), zX (d + 10) 181 122 [some (.inr (.inr (10, 0))), some (.inl p), some (.inl u), some (.inl n), some (.inl a), some (.inl best), some (.inr (.inl least)), none, some (.inl w0), some (.inl q), some (.inl i), x11, x12, x13, x14, x15] [] (yR (zR59 (zAL σ A L) (hG (mD σ) w 0 g)) τ) Q) : ∀ (r : Nat) (x11 x12 x13 x14 x15 : Option zV), r ≤ 7 →
    zX (d + 10) 181 73 [some (.inr (.inr (10, 0))), some (.inl p), some (.inl u), some (.inl n), some (.inl a), some (.inl best), some (.inr (.inl least)), none, some (.inl w0), some (.inl ((w / 4 ^ uCa (σ.1 55 0) r : Nat) : Int)), some (.inl ((uCnt (σ.1 55 0) r : Int) - 1)), x11, x12, x13, x14, x15] [] (yR (zR59 (zAL σ A L) (hG (mD σ) w r g)) τ) Q := by
  intro r
  induction r with
  | zero =>
    intro x11 x12 x13 x14 x15 _
    have n0 : (uCnt (σ.1 55 0) 0 : Int) - 1 < 0 := by show ((0 : Nat) : Int) - 1 < 0; decide
    exact zb_181f (fun a => absurd n0 a) (fun a => absurd n0 a) (fun a => absurd n0 a) (fun a => absurd n0 a) (fun a => absurd n0 a) (fun _ => q _ _ _ _ _ _ _) (fun a => absurd n0 a) (fun a => absurd n0 a) (fun a => absurd n0 a) (fun a => absurd n0 a)
  | succ r ih =>
    intro x11 x12 x13 x14 x15 hr
    have r7 : r < 7 := Nat.lt_of_succ_le hr
    have S := uCa_s (th := σ.1 55 0) r7
    by_cases t : σ.1 55 0 r = 0
    · have e : uCnt (σ.1 55 0) (r + 1) = uCnt (σ.1 55 0) r := if_pos t
      rw [if_pos t] at S
      rw [e, ← S, ← hG_n (D := mD σ) t]
      exact ih _ _ _ _ _ (Nat.le_of_lt r7)
    · have e : uCnt (σ.1 55 0) (r + 1) = uCnt (σ.1 55 0) r + 1 := if_neg t
      rw [if_neg t] at S
      have cl := uCnt_le (th := σ.1 55 0) (r := r)
      have c7 : uCnt (σ.1 55 0) r < 7 := Nat.lt_of_le_of_lt cl r7
      obtain ⟨e1, nl, ic, cz⟩ := hc1 c7
      have ir := (hc1 r7).2.2.1
      have ql : w / 4 ^ uCa (σ.1 55 0) (r + 1) < 65536 := Nat.lt_of_le_of_lt (Nat.div_le_self _ _) hw
      have zz := hz2 ql
      have z2 : zW (((w / 4 ^ uCa (σ.1 55 0) (r + 1) : Nat) : Int).tdiv 4) = ((w / 4 ^ uCa (σ.1 55 0) r : Nat) : Int) := by
        rw [S, Nat.pow_succ, ← Nat.div_div_eq_div_mul]
        exact zz.1
      have z3 : zW (((w / 4 ^ uCa (σ.1 55 0) (r + 1) : Nat) : Int) - zW (zW (((w / 4 ^ uCa (σ.1 55 0) (r + 1) : Nat) : Int).tdiv 4) * 4)) = ((hDig (mD σ 3) w r : Nat) : Int) := zz.2
      have lk : (yR (zR59 (zAL σ A L) (hG (mD σ) w (r + 1) g)) τ).1 103 0 (uCnt (σ.1 55 0) r : Int).toNat = (r : Int) := hL r r7 t
      have ak : (yR (zR59 (zAL σ A L) (hG (mD σ) w (r + 1) g)) τ).1 104 0 r = mD σ 7 r := hA r r7
      have go : ∀ (v : Int) (x11 x12 : Option zV), cRel ((hDig (mD σ 3) w r : Nat) : Int) (mD σ 7 r) = v → zX (d + 10) 181 73 [some (.inr (.inr (10, 0))), some (.inl p), some (.inl u), some (.inl n), some (.inl a), some (.inl best), some (.inr (.inl least)), none, some (.inl w0), some (.inl ((w / 4 ^ uCa (σ.1 55 0) r : Nat) : Int)), some (.inl ((uCnt (σ.1 55 0) r : Int) - 1)), x11, x12, x13, x14, x15] [] (zU (yR (zR59 (zAL σ A L) (hG (mD σ) w (r + 1) g)) τ) 59 0 r v) Q := fun v x11 x12 ev => by
        rw [← ev, zR59_U, hG_s (D := mD σ) r7 t]
        exact ih _ _ _ _ _ (Nat.le_of_lt r7)
      rw [e, e1]
      rw [cRel_d] at go
      refine zb_181f (fun _ => ic) (fun _ _ _ _ => by rw [lk]; exact ir) (fun _ _ _ _ => by rw [lk]; exact ir) (fun _ _ _ => by rw [lk]; exact ir) (fun _ _ => by rw [lk]; exact ir) (fun a => absurd a nl) (fun _ a b c => ?_) (fun _ a b c => ?_) (fun _ a b => ?_) (fun _ a => ?_)
      · rw [z3] at a b c
        rw [z2, cz, lk, Int.toNat_natCast, ak]
        exact go _ _ _ (by rw [if_neg a, if_neg b, if_neg c])
      · rw [z3] at a b c
        rw [z2, cz, lk, Int.toNat_natCast, ak]
        exact go _ _ _ (by rw [if_neg a, if_neg b, if_pos c])
      · rw [z3] at a b
        rw [z2, cz, lk, Int.toNat_natCast, ak]
        exact go _ _ _ (by rw [if_neg a, if_pos b])
      · rw [z3] at a
        rw [z2, cz, lk, Int.toNat_natCast]
        exact go _ _ _ (by rw [if_pos a])
