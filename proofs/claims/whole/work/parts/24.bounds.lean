-- how large the months' numbers can be
def uHok (D : uT) (h : Nat) : Prop := (0 ≤ D 8 h ∧ D 8 h ≤ 5) ∧ (0 ≤ D 9 h ∧ D 9 h ≤ 3) ∧ (0 ≤ D 10 h ∧ D 10 h ≤ 6) ∧ (0 ≤ D 11 h ∧ D 11 h ≤ 9999 ∧ (D 8 h = 2 → D 11 h ≤ 100)) ∧ (0 ≤ D 12 h ∧ D 12 h ≤ 9999)
def uLok (D : uT) (r : Nat) : Prop := 0 ≤ D 5 r ∧ D 5 r ≤ D 4 r ∧ D 4 r ≤ 99999 ∧ 0 ≤ D 6 r ∧ D 6 r ≤ 99 ∧ 0 ≤ D 7 r ∧ D 7 r ≤ 19998
def uOk (D : uT) : Prop := (∀ r m, r < 7 → m < 96 → 0 ≤ D 0 (96 * r + m) ∧ D 0 (96 * r + m) ≤ 249975) ∧ (∀ r m, r < 7 → m < 96 → 0 ≤ D 1 (96 * r + m) ∧ D 1 (96 * r + m) ≤ 99999) ∧ (∀ r, r < 7 → 0 ≤ D 2 r ∧ D 2 r ≤ 99) ∧ (∀ r, r < 7 → ¬ D 3 r = 0 → uLok D r) ∧ uN D ≤ 16 ∧ (∀ h, h < uN D → uHok D h)
-- sums
theorem uSum_congr {f g : Nat → Int} {n : Nat} (h : ∀ k, k < n → f k = g k) : uSum f n = uSum g n := by
  induction n with
  | zero => rfl
  | succ n ih => show uSum f n + f n = uSum g n + g n; rw [ih (fun k hk => h k (by omega)), h n (by omega)]
theorem uSum_le {f g : Nat → Int} {n : Nat} (h : ∀ k, k < n → f k ≤ g k) : uSum f n ≤ uSum g n := by
  induction n with
  | zero => exact Int.le_refl _
  | succ n ih => show uSum f n + f n ≤ uSum g n + g n; have := ih (fun k hk => h k (by omega)); have := h n (by omega); omega
theorem uSum_nn {f : Nat → Int} {n : Nat} (h : ∀ k, k < n → 0 ≤ f k) : 0 ≤ uSum f n := by
  induction n with
  | zero => exact Int.le_refl _
  | succ n ih => show 0 ≤ uSum f n + f n; have := ih (fun k hk => h k (by omega)); have := h n (by omega); omega
theorem uSum_add {f g : Nat → Int} {n : Nat} : uSum (fun k => f k + g k) n = uSum f n + uSum g n := by
  induction n with
  | zero => rfl
  | succ n ih => show uSum _ n + (f n + g n) = uSum f n + f n + (uSum g n + g n); rw [ih]; omega
theorem uSum_const {c : Int} {n : Nat} : uSum (fun _ => c) n = n * c := by
  induction n with
  | zero => simp [uSum]
  | succ n ih => show uSum _ n + c = _; rw [ih, show ((n + 1 : Nat) : Int) = (n : Int) + 1 from rfl, Int.add_mul]; omega
theorem uSum_mem {f : Nat → Int} {n k : Nat} (h : ∀ j, j < n → 0 ≤ f j) (hk : k < n) : f k ≤ uSum f n := by
  induction n with
  | zero => omega
  | succ n ih =>
    show f k ≤ uSum f n + f n
    have h1 := uSum_nn (n := n) (fun j hj => h j (by omega))
    have h2 := h n (by omega)
    by_cases e : k = n
    · subst e; omega
    · have := ih (fun j hj => h j (by omega)) (by omega); omega
theorem uSum_split {f : Nat → Int} {p q : Nat → Prop} [DecidablePred p] [DecidablePred q] {n : Nat} (h : ∀ k, ¬ (p k ∧ q k)) : uSum (fun k => if p k ∨ q k then f k else 0) n = uSum (fun k => if p k then f k else 0) n + uSum (fun k => if q k then f k else 0) n := by
  rw [← uSum_add]
  refine uSum_congr (fun k _ => ?_)
  have := h k
  by_cases h1 : p k <;> by_cases h2 : q k <;> simp_all
-- lists
theorem uLs_ins {f : Nat → Int} {lt : Nat → Nat → Bool} {h : Nat} {L : List Nat} : uLs f (uIns lt h L) = f h + uLs f L := by
  induction L with
  | nil => rfl
  | cons x xs ih =>
    unfold uIns
    split
    · show f x + uLs f (uIns lt h xs) = f h + (f x + uLs f xs); rw [ih]; omega
    · rfl
theorem uLs_srt {f : Nat → Int} {lt : Nat → Nat → Bool} {n : Nat} : uLs f (uSrt lt n) = uSum f n := by
  induction n with
  | zero => rfl
  | succ n ih => show uLs f (uIns lt n (uSrt lt n)) = uSum f n + f n; rw [uLs_ins, ih]; omega
theorem uLs_app {f : Nat → Int} {L M : List Nat} : uLs f (L ++ M) = uLs f L + uLs f M := by
  induction L with
  | nil => show uLs f M = 0 + uLs f M; omega
  | cons x xs ih => show f x + uLs f (xs ++ M) = f x + uLs f xs + uLs f M; rw [ih]; omega
theorem uLs_rev {f : Nat → Int} {L : List Nat} : uLs f L.reverse = uLs f L := by
  induction L with
  | nil => rfl
  | cons x xs ih => rw [List.reverse_cons, uLs_app, ih]; show uLs f xs + (f x + 0) = f x + uLs f xs; omega
theorem uLs_ord {f : Nat → Int} {D : uT} : uLs f (uOrd D) = uSum f (uN D) := by unfold uOrd; rw [uLs_rev, uLs_srt]
theorem uIns_mem {lt : Nat → Nat → Bool} {h x : Nat} {L : List Nat} : x ∈ uIns lt h L ↔ x = h ∨ x ∈ L := by
  induction L with
  | nil => simp [uIns]
  | cons y ys ih =>
    unfold uIns
    split
    · simp only [List.mem_cons, ih]; constructor <;> (rintro (h | h | h) <;> simp [h])
    · simp
theorem uSrt_mem {lt : Nat → Nat → Bool} {x n : Nat} : x ∈ uSrt lt n ↔ x < n := by
  induction n with
  | zero => simp [uSrt]
  | succ n ih => show x ∈ uIns lt n (uSrt lt n) ↔ _; rw [uIns_mem, ih]; omega
theorem uOrd_mem {D : uT} {x : Nat} : x ∈ uOrd D ↔ x < uN D := by unfold uOrd; rw [List.mem_reverse, uSrt_mem]
theorem uIns_nd {lt : Nat → Nat → Bool} {h : Nat} {L : List Nat} (hh : h ∉ L) (hL : L.Nodup) : (uIns lt h L).Nodup := by
  induction L with
  | nil => simp [uIns]
  | cons y ys ih =>
    rw [List.nodup_cons] at hL
    unfold uIns
    split
    · rw [List.nodup_cons, uIns_mem]
      refine ⟨?_, ih (fun q => hh (List.mem_cons_of_mem _ q)) hL.2⟩
      rintro (q | q)
      · exact hh (q ▸ List.mem_cons_self)
      · exact hL.1 q
    · rw [List.nodup_cons]; exact ⟨hh, List.nodup_cons.mpr hL⟩
theorem uSrt_nd {lt : Nat → Nat → Bool} {n : Nat} : (uSrt lt n).Nodup := by
  induction n with
  | zero => exact List.nodup_nil
  | succ n ih => exact uIns_nd (fun q => by have := uSrt_mem.mp q; omega) ih
theorem uOrd_nd {D : uT} : (uOrd D).Nodup := by unfold uOrd; exact List.pairwise_reverse.mpr (List.Pairwise.imp (fun h => Ne.symm h) uSrt_nd)
-- small things
theorem uMin_le {a b : Int} : uMin a b ≤ a ∧ uMin a b ≤ b := by unfold uMin; split <;> omega
theorem uMin_nn {a b : Int} (h : 0 ≤ a) (h2 : 0 ≤ b) : 0 ≤ uMin a b := by unfold uMin; split <;> omega
theorem uShare {s g w : Int} (hs : 0 ≤ s) (hg : 0 ≤ g) (hw : 0 < w) (h : g ≤ w) : 0 ≤ s * g / w ∧ s * g / w ≤ s :=
  ⟨Int.ediv_nonneg (Int.mul_nonneg hs hg) (by omega), Int.ediv_le_of_le_mul hw (Int.mul_le_mul_of_nonneg_left h hs)⟩
theorem uTook_b {w : Int} {q : uQ} (hw : 0 ≤ w) (h1 : 0 ≤ q.1) (h2 : 0 ≤ q.2.1) : 0 ≤ uTook w q ∧ uTook w q ≤ q.2.1 := by
  unfold uTook
  split
  · omega
  · exact uShare h2 (uMin_nn hw h1) (by omega) uMin_le.2
theorem uAsk_b {k n y rd : Int} (hk : 0 ≤ k ∧ k ≤ 5) (hn : 0 ≤ n ∧ n ≤ 9999 ∧ (k = 2 → n ≤ 100)) (hr : 0 ≤ rd ∧ rd ≤ 99999) : 0 ≤ uAsk k n y rd ∧ uAsk k n y rd ≤ 99999 ∧ uAsk k n y rd * uHun k ≤ 1999980 := by
  have hg : 0 ≤ uRgt n y ∧ uRgt n y ≤ n := by unfold uRgt; split <;> omega
  unfold uAsk uHun
  by_cases h1 : k = 1
  · subst h1; simp only [if_pos, if_neg (show ¬ (1 : Int) = 0 by decide)]; omega
  · rw [if_neg h1]
    by_cases h2 : k = 2
    · subst h2
      simp only [if_pos, if_neg (show ¬ (2 : Int) = 0 by decide), if_neg (show ¬ (2 : Int) = 1 by decide)]
      have p1 : 0 ≤ n * rd := Int.mul_nonneg hn.1 hr.1
      have p2 : n * rd ≤ 100 * 99999 := Int.mul_le_mul (hn.2.2 rfl) hr.2 hr.1 (by decide)
      rw [zW_id (z := n * rd) (by omega), zTd p1, zW_id (by omega)]
      omega
    · rw [if_neg h2]
      by_cases h4 : k = 4
      · subst h4
        simp only [if_pos, if_neg (show ¬ (4 : Int) = 0 by decide), if_neg (show ¬ (4 : Int) = 1 by decide), if_neg (show ¬ (4 : Int) = 2 by decide)]
        rw [zTd hg.1, zW_id (z := uRgt n y / 10) (by omega), zW_id (by omega)]
        omega
      · rw [if_neg h4]
        simp only [if_neg h1, if_neg h2, if_neg h4]
        by_cases h5 : k = 5
        · subst h5
          simp only [if_pos, if_neg (show ¬ (5 : Int) = 0 by decide)]
          split
          · rw [zTd hn.1, zW_id (z := n / 2) (by omega), zW_id (by omega)]; omega
          · omega
        · rw [if_neg h5]
          split <;> omega
theorem uCut_b {a c : Int} (ha : 0 ≤ a ∧ a ≤ 99999) (hc : 0 ≤ c ∧ c ≤ 100) : 0 ≤ uCut a c ∧ uCut a c ≤ a := by
  unfold uCut
  have p1 : 0 ≤ a * c := Int.mul_nonneg ha.1 hc.1
  have p2 : a * c ≤ a * 100 := Int.mul_le_mul_of_nonneg_left hc.2 ha.1
  rw [zW_id (z := a * c) (by omega), zTd p1, zW_id (z := a * c / 100) (by omega), zW_id (by omega)]
  omega
theorem uClamp_b {c : Int} : 0 ≤ uClamp c ∧ uClamp c ≤ 100 := by unfold uClamp; (repeat' split) <;> omega
theorem uGb_b {k g : Int} (hg : 0 ≤ g) (h : g * uHun k ≤ 1999980) : uGb k g = g * uHun k / 100 ∧ 0 ≤ uGb k g ∧ uGb k g ≤ 19999 := by
  have hu : 0 ≤ uHun k := by unfold uHun; (repeat' split) <;> omega
  have p1 : 0 ≤ g * uHun k := Int.mul_nonneg hg hu
  have e : uGb k g = g * uHun k / 100 := by
    unfold uGb
    rw [zW_id (z := g * uHun k) (by omega), zTd p1, zW_id (by omega)]
  rw [e]; omega
theorem uSteam_b {lev surf : Int} (hl : 0 ≤ lev ∧ lev ≤ 99999) (hs : 0 ≤ surf ∧ surf ≤ 99) : 0 ≤ uSteam lev surf ∧ uSteam lev surf ≤ lev := by
  unfold uSteam
  have p1 : 0 ≤ lev * surf := Int.mul_nonneg hl.1 hs.1
  have p2 : lev * surf ≤ lev * 99 := Int.mul_le_mul_of_nonneg_left hs.2 hl.1
  rw [zW_id (z := lev * surf) (by omega), zTd p1, zW_id (by omega)]
  omega
theorem uRank_b {k s : Int} (hs : 0 ≤ s ∧ s ≤ 9999) : -2000 ≤ uRank k s ∧ uRank k s ≤ 10000 := by
  unfold uRank; repeat' split
  all_goals first | omega | (rw [zW_id (by omega)]; omega)
theorem uWb_b {D : uT} {h m : Nat} {lev : Int} (O : uOk D) (hh : h < uN D) (hm : m < 96) : 0 ≤ uWb D h m lev ∧ uWb D h m lev ≤ 99999 ∧ uWb D h m lev * uHun (D 8 h) ≤ 1999980 := by
  obtain ⟨a1, a2, a3, a4, a5⟩ := O.2.2.2.2.2 h hh
  have rd := O.2.1 (D 10 h).toNat m (by omega) hm
  have A := uAsk_b (y := ((m % 12 : Nat) : Int)) a1 a4 rd
  have hu : 0 ≤ uHun (D 8 h) := by unfold uHun; (repeat' split) <;> omega
  unfold uWb
  split
  · refine ⟨by omega, by omega, by rw [Int.zero_mul]; omega⟩
  · have C := uCut_b (a := uAsks D h m) ⟨A.1, A.2.1⟩ (uClamp_b (c := uSays D h m lev 1))
    exact ⟨C.1, Int.le_trans C.2 A.2.1, Int.le_trans (Int.mul_le_mul_of_nonneg_right C.2 hu) A.2.2⟩
theorem uWants_b {D : uT} {h m : Nat} {lev : Int} (O : uOk D) (hh : h < uN D) (hm : m < 96) : 0 ≤ uWants D h m lev ∧ uWants D h m lev ≤ 99999 ∧ uWants D h m lev * uHun (D 8 h) ≤ 1999980 := by
  unfold uWants
  split
  · refine ⟨by omega, by omega, by rw [Int.zero_mul]; omega⟩
  · exact uWb_b O hh hm
-- serving
theorem uServe_b {D : uT} {w : Nat → Int} {r : Nat} : ∀ {L : List Nat} {q : uQ}, (∀ h, h ∈ L → 0 ≤ w h) → 0 ≤ q.1 → 0 ≤ q.2.1 →
    0 ≤ (uServe D w r L q).1 ∧ (uServe D w r L q).1 ≤ q.1 ∧ 0 ≤ (uServe D w r L q).2.1 ∧ (uServe D w r L q).2.1 ≤ q.2.1
  | [], q, hw, h1, h2 => ⟨h1, Int.le_refl _, h2, Int.le_refl _⟩
  | h :: L, q, hw, h1, h2 => by
    unfold uServe
    have hw2 : ∀ x, x ∈ L → 0 ≤ w x := fun x hx => hw x (List.mem_cons_of_mem _ hx)
    split
    · have wh := hw h List.mem_cons_self
      have t := uTook_b wh h1 h2
      have g := uMin_nn wh h1
      have g2 := (uMin_le (a := w h) (b := q.1)).2
      have I := uServe_b (D := D) (w := w) (r := r) (L := L) (q := uTake (w h) h q) hw2 (by show 0 ≤ q.1 - uMin (w h) q.1; omega) (by show 0 ≤ q.2.1 - uTook (w h) q; omega)
      have e1 : (uTake (w h) h q).1 = q.1 - uMin (w h) q.1 := rfl
      have e2 : (uTake (w h) h q).2.1 = q.2.1 - uTook (w h) q := rfl
      omega
    · exact uServe_b hw2 h1 h2
/-- who is of another reach keeps what it has; who is served gets between 0 and what it wants -/
theorem uServe_o {D : uT} {w : Nat → Int} {r : Nat} : ∀ {L : List Nat} {q : uQ} {x : Nat}, (¬ D 10 x = (r : Int) ∨ x ∉ L) → (uServe D w r L q).2.2.1 x = q.2.2.1 x ∧ (uServe D w r L q).2.2.2 x = q.2.2.2 x
  | [], q, x, hx => ⟨rfl, rfl⟩
  | h :: L, q, x, hx => by
    unfold uServe
    have hx2 : ¬ D 10 x = (r : Int) ∨ x ∉ L := hx.imp_right (fun q p => q (List.mem_cons_of_mem _ p))
    have I := fun q => uServe_o (D := D) (w := w) (r := r) (L := L) (q := q) (x := x) hx2
    rw [(I _).1, (I _).2]
    split
    · rename_i hr
      have hne : ¬ x = h := by
        intro e; subst e
        exact hx.elim (fun q => q hr) (fun q => q List.mem_cons_self)
      show (if x = h then _ else q.2.2.1 x) = _ ∧ (if x = h then _ else q.2.2.2 x) = _
      rw [if_neg hne, if_neg hne]; exact ⟨rfl, rfl⟩
    · exact ⟨rfl, rfl⟩
theorem uServe_g {D : uT} {w : Nat → Int} {r : Nat} : ∀ {L : List Nat} {q : uQ} {x : Nat}, L.Nodup → (∀ h, h ∈ L → 0 ≤ w h) → 0 ≤ q.1 → 0 ≤ q.2.1 → D 10 x = (r : Int) → x ∈ L → (0 ≤ (uServe D w r L q).2.2.1 x ∧ (uServe D w r L q).2.2.1 x ≤ w x) ∧ 0 ≤ (uServe D w r L q).2.2.2 x
  | [], q, x, nd, hw, h1, h2, hr, hx => by cases hx
  | h :: L, q, x, nd, hw, h1, h2, hr, hx => by
    unfold uServe
    rw [List.nodup_cons] at nd
    have hw2 : ∀ y, y ∈ L → 0 ≤ w y := fun x hx => hw x (List.mem_cons_of_mem _ hx)
    have wh := hw h List.mem_cons_self
    have t := uTook_b wh h1 h2
    have g := uMin_nn wh h1
    have g2 := uMin_le (a := w h) (b := q.1)
    by_cases e : x = h
    · subst e
      rw [if_pos hr, (uServe_o (Or.inr nd.1)).1, (uServe_o (Or.inr nd.1)).2]
      show (0 ≤ (if x = x then uMin (w x) q.1 else q.2.2.1 x) ∧ (if x = x then uMin (w x) q.1 else q.2.2.1 x) ≤ w x) ∧ 0 ≤ (if x = x then uTook (w x) q + uMin (w x) q.1 / 50 else q.2.2.2 x)
      rw [if_pos rfl, if_pos rfl]
      omega
    · have hxL : x ∈ L := by cases hx with
        | head => exact absurd rfl e
        | tail _ q => exact q
      split
      · exact uServe_g nd.2 hw2 (by show 0 ≤ q.1 - uMin (w h) q.1; omega) (by show 0 ≤ q.2.1 - uTook (w h) q; omega) hr hxL
      · exact uServe_g nd.2 hw2 h1 h2 hr hxL
/-- the salt that is taken, and the salt that a field adds -/
theorem uServe_s {D : uT} {w : Nat → Int} {r : Nat} : ∀ {L : List Nat} {q : uQ}, L.Nodup → (∀ h, h ∈ L → 0 ≤ w h ∧ w h ≤ 99999) → 0 ≤ q.1 → 0 ≤ q.2.1 →
    (uServe D w r L q).2.1 + uLs (fun x => if D 10 x = (r : Int) then (uServe D w r L q).2.2.2 x else 0) L ≤ q.2.1 + uLs (fun x => if D 10 x = (r : Int) then 2000 else 0) L
  | [], q, nd, hw, h1, h2 => Int.le_refl _
  | h :: L, q, nd, hw, h1, h2 => by
    rw [List.nodup_cons] at nd
    have hw2 : ∀ y, y ∈ L → 0 ≤ w y ∧ w y ≤ 99999 := fun x hx => hw x (List.mem_cons_of_mem _ hx)
    have wh := hw h List.mem_cons_self
    have t := uTook_b wh.1 h1 h2
    have g := uMin_nn wh.1 h1
    have g2 := uMin_le (a := w h) (b := q.1)
    by_cases hr : D 10 h = (r : Int)
    · have eS : uServe D w r (h :: L) q = uServe D w r L (uTake (w h) h q) := by
        show uServe D w r L (if D 10 h = (r : Int) then uTake (w h) h q else q) = _
        rw [if_pos hr]
      have I := uServe_s (D := D) (w := w) (r := r) (L := L) (q := uTake (w h) h q) nd.2 hw2 (by show 0 ≤ q.1 - uMin (w h) q.1; omega) (by show 0 ≤ q.2.1 - uTook (w h) q; omega)
      rw [eS]
      show _ + ((if D 10 h = (r : Int) then _ else 0) + uLs _ L) ≤ _ + ((if D 10 h = (r : Int) then 2000 else 0) + uLs _ L)
      rw [if_pos hr, if_pos hr, (uServe_o (Or.inr nd.1)).2]
      have e2 : (uTake (w h) h q).2.1 = q.2.1 - uTook (w h) q := rfl
      have e3 : (uTake (w h) h q).2.2.2 h = uTook (w h) q + uMin (w h) q.1 / 50 := if_pos rfl
      rw [e2] at I
      rw [e3]
      omega
    · have eS : uServe D w r (h :: L) q = uServe D w r L q := by
        show uServe D w r L (if D 10 h = (r : Int) then uTake (w h) h q else q) = _
        rw [if_neg hr]
      have I := uServe_s (D := D) (w := w) (r := r) (L := L) (q := q) nd.2 hw2 h1 h2
      rw [eS]
      show _ + ((if D 10 h = (r : Int) then _ else 0) + uLs _ L) ≤ _ + ((if D 10 h = (r : Int) then 2000 else 0) + uLs _ L)
      rw [if_neg hr, if_neg hr]
      omega
