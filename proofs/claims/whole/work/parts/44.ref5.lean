-- the reference: a reach in a month, its law (wip/whole/gen/laws24.py)
def fm (k : Nat) : Bool := (Nat.ble 78 k && Nat.ble k 82) || (Nat.ble 87 k && Nat.ble k 93) || (Nat.ble 98 k && Nat.ble k 100)
def fl (k : Nat) : Bool := (Nat.ble 83 k && Nat.ble k 86) || k == 94
/-- the state with what a run writes being another state's -/
def yR (σ τ : zS) : zS := (fun k => if fm k = true then τ.1 k else σ.1 k, fun k => if fl k = true then τ.2 k else σ.2 k)
theorem yR_self {σ : zS} : σ = yR σ σ := by
  refine Prod.ext (funext fun k => ?_) (funext fun k => ?_)
  · show σ.1 k = if fm k = true then σ.1 k else σ.1 k
    split <;> rfl
  · show σ.2 k = if fl k = true then σ.2 k else σ.2 k
    split <;> rfl
theorem yR_R {σ τ τ' : zS} : yR (yR σ τ) τ' = yR σ τ' := by
  refine Prod.ext (funext fun k => ?_) (funext fun k => ?_)
  · show (if fm k = true then τ'.1 k else if fm k = true then τ.1 k else σ.1 k) = if fm k = true then τ'.1 k else σ.1 k
    split <;> rfl
  · show (if fl k = true then τ'.2 k else if fl k = true then τ.2 k else σ.2 k) = if fl k = true then τ'.2 k else σ.2 k
    split <;> rfl
theorem yR_U {σ τ : zS} {k n j : Nat} {v : Int} (hk : fm k = true) : zU (yR σ τ) k n j v = yR σ (zU τ k n j v) := by
  refine Prod.ext (funext fun k' => funext fun n' => funext fun j' => ?_) rfl
  show (if k' = k ∧ j' = j ∧ n' = n then v else (if fm k' = true then τ.1 k' else σ.1 k') n' j') = (if fm k' = true then (zU τ k n j v).1 k' else σ.1 k') n' j'
  by_cases a : fm k' = true
  · rw [if_pos a, if_pos a]; rfl
  · rw [if_neg a, if_neg a, if_neg (fun q => a (by rw [q.1]; exact hk))]
theorem yR_UL {σ τ : zS} {k n j : Nat} {v : Int} (hk : fl k = true) : zUL (yR σ τ) k n j v = yR σ (zUL τ k n j v) := by
  refine Prod.ext rfl (funext fun k' => funext fun n' => funext fun j' => ?_)
  show (if k' = k ∧ j' = j ∧ n' = n then v else (if fl k' = true then τ.2 k' else σ.2 k') n' j') = (if fl k' = true then (zUL τ k n j v).2 k' else σ.2 k') n' j'
  by_cases a : fl k' = true
  · rw [if_pos a, if_pos a]; rfl
  · rw [if_neg a, if_neg a, if_neg (fun q => a (by rw [q.1]; exact hk))]
theorem yR_K {σ τ : zS} {k : Nat} {g : Nat → Nat → Int} (hk : fm k = true) : zK (yR σ τ) k g = yR σ (zK τ k g) := by
  refine Prod.ext (funext fun k' => ?_) rfl
  show (if k' = k then g else if fm k' = true then τ.1 k' else σ.1 k') = (if fm k' = true then (if k' = k then g else τ.1 k') else σ.1 k')
  by_cases a : fm k' = true
  · rw [if_pos a, if_pos a]
  · rw [if_neg a, if_neg a, if_neg (fun q => a (by rw [q]; exact hk))]
theorem ifk {K j k : Nat} {a b : Int} : (if K = K ∧ j = k ∧ 0 = 0 then a else b) = if j = k then a else b := by
  by_cases e : j = k
  · rw [if_pos ⟨rfl, e, rfl⟩, if_pos e]
  · rw [if_neg (fun q => e q.2.1), if_neg e]
theorem zU_zU {τ : zS} {k n j : Nat} {a b : Int} : zU (zU τ k n j a) k n j b = zU τ k n j b := by
  refine Prod.ext (funext fun k' => funext fun n' => funext fun j' => ?_) rfl
  show (if k' = k ∧ j' = j ∧ n' = n then b else if k' = k ∧ j' = j ∧ n' = n then a else τ.1 k' n' j') = if k' = k ∧ j' = j ∧ n' = n then b else τ.1 k' n' j'
  split <;> rfl
theorem zI_17 {h m : Nat} (hh : h < 17) (hm : m < 96) : zW ((zW (17 * (m : Int))) + (h : Int)) = ((17 * m + h : Nat) : Int) := by
  rw [zW_id (z := 17 * (m : Int)) (by omega), zW_id (by omega)]; omega
/-- what a run leaves of the holds of a reach, from some of them on -/
def mGp (τ τ' : zS) (D : uT) (w : Nat → Int) (r m : Nat) (L : List Nat) (q : uQ) : Prop :=
  (∀ j, τ'.1 82 0 j = if j = 7 * m + r then (uServe D w r L q).1 else τ.1 82 0 j) ∧ (∀ j, τ'.2 84 0 j = if j = 7 * m + r then (uServe D w r L q).2.1 else τ.2 84 0 j) ∧
  (∀ x, x ∈ L → D 10 x = (r : Int) → τ'.1 91 0 (17 * m + x) = w x ∧ τ'.1 92 0 (17 * m + x) = (uServe D w r L q).2.2.1 x ∧ τ'.1 93 0 (17 * m + x) = uBack D x ((uServe D w r L q).2.2.1 x) ∧ τ'.2 94 0 (17 * m + x) = (uServe D w r L q).2.2.2 x) ∧
  (∀ j, ¬ (∃ x, x ∈ L ∧ D 10 x = (r : Int) ∧ j = 17 * m + x) → τ'.1 91 0 j = τ.1 91 0 j ∧ τ'.1 92 0 j = τ.1 92 0 j ∧ τ'.1 93 0 j = τ.1 93 0 j ∧ τ'.2 94 0 j = τ.2 94 0 j) ∧
  (∀ k, ¬ k = 82 → ¬ k = 91 → ¬ k = 92 → ¬ k = 93 → ¬ k = 98 → τ'.1 k = τ.1 k) ∧ (∀ k, ¬ k = 84 → ¬ k = 94 → τ'.2 k = τ.2 k)
set_option maxHeartbeats 1000000 in
theorem zs_159g {d : Nat} {σ : zS} {Q : Option zV → zS → Prop} {r m : Nat} {lev : Int} (hr : r < 7) (hm : m < 96) (O : uOk (mD σ)) (H : ∀ h, h < uN (mD σ) → mHok σ h) (C : mCok σ) (hn : 0 ≤ σ.1 10 0 4) : ∀ (L : List Nat) {i : Nat} {q : uQ} {τ : zS} {x8 x9 x10 x11 x12 : Option zV},
    (∀ j x : Nat, L[j]? = some x → τ.1 99 0 (i + j) = (x : Int)) → i + L.length = uN (mD σ) → L.Nodup → (∀ x, x ∈ L → x < uN (mD σ)) → (0 ≤ q.1 ∧ q.1 ≤ 2089807) → (0 ≤ q.2.1 ∧ q.2.1 ≤ 25000000) →
    uLvs (σ.1 55 0) (fun r => τ.1 87 0 (7 * m + r)) 7 = lev → (∀ x, x < 7 → τ.1 100 0 (7 * m + x) = mRead σ x m) →
    (∀ τ' : zS, mGp τ τ' (mD σ) (fun h => uWants (mD σ) h m lev) r m L q → Q none (yR σ τ')) →
    zX (d + 5) 159 266 [some (.inr (.inr (10, 0))), some (.inl (r : Int)), some (.inl (m : Int)), some (.inl ((7 * m + r : Nat) : Int)), some (.inr (.inl q.2.1)), none, some (.inl q.1), some (.inl (i : Int)), x8, x9, x10, x11, x12] [] (yR σ τ) Q
  := by
  intro L
  induction L with
  | nil =>
    intro i q τ x8 x9 x10 x11 x12 h1 h2 h3 h4 h5 h6 h7 h8 h
    have hN : σ.1 10 0 4 = (uN (mD σ) : Int) := by show mD σ 19 0 = _; unfold uN; have : 0 ≤ mD σ 19 0 := hn; omega
    refine zb_159gx (by show σ.1 10 0 4 ≤ _; simp at h2; omega) (by omega) ?_
    rw [yR_U rfl, yR_UL rfl]
    refine h _ ⟨fun j => ?_, fun j => ?_, fun x hx => absurd hx (by simp), fun j _ => ⟨rfl, rfl, rfl, rfl⟩, fun k a _ _ _ _ => zU_off a, fun k a _ => zUL_off a⟩
    · show (if 82 = 82 ∧ j = 7 * m + r ∧ 0 = 0 then q.1 else τ.1 82 0 j) = _; exact ifk
    · show (if 84 = 84 ∧ j = 7 * m + r ∧ 0 = 0 then q.2.1 else τ.2 84 0 j) = _; exact ifk
  | cons x L ih =>
    intro i q τ x8 x9 x10 x11 x12 h1 h2 h3 h4 h5 h6 h7 h8 h
    have N16 := O.2.2.2.2.1
    have hN : σ.1 10 0 4 = (uN (mD σ) : Int) := by show mD σ 19 0 = _; unfold uN; have : 0 ≤ mD σ 19 0 := hn; omega
    rw [List.nodup_cons] at h3
    have ln : (x :: L).length = L.length + 1 := rfl
    rw [ln] at h2
    have hx := h4 x List.mem_cons_self
    have ax : τ.1 99 0 i = (x : Int) := h1 0 x rfl
    have ax2 : (yR σ τ).1 99 0 (i : Int).toNat = (x : Int) := ax
    have hlt : (i : Int) < (yR σ τ).1 10 0 4 := by show (i : Int) < σ.1 10 0 4; omega
    have nx : ∀ {τ2 : zS}, τ2.1 99 = τ.1 99 → ∀ j y : Nat, L[j]? = some y → τ2.1 99 0 (i + 1 + j) = (y : Int) := fun e j y hj => by
      rw [e, show i + 1 + j = i + (j + 1) by omega]; exact h1 (j + 1) y hj
    by_cases e : mD σ 10 x = (r : Int)
    · have eS : uServe (mD σ) (fun h => uWants (mD σ) h m lev) r (x :: L) q = uServe (mD σ) (fun h => uWants (mD σ) h m lev) r L (uTake (uWants (mD σ) x m lev) x q) := by
        show uServe (mD σ) (fun h => uWants (mD σ) h m lev) r L (if mD σ 10 x = (r : Int) then uTake (uWants (mD σ) x m lev) x q else q) = _
        rw [if_pos e]
      have W := uWants_b (lev := lev) O hx hm
      have kx := (O.2.2.2.2.2 x hx).1
      have rx := (H x hx).2.1
      refine zb_159gh hlt (by rw [ax2]; exact e) (by omega) (by rw [ax2]; omega) ?_
      rw [ax2]
      refine zb_159g (by omega) (by omega) (H x hx) C ?_ (fun _ => by rw [zI_17 (by omega) hm]; omega) (fun g => ?_)
      · show τ.1 100 0 (7 * m + (σ.1 62 0 x).toNat) = mRead σ (σ.1 62 0 x).toNat m
        exact h8 _ (by omega)
      rw [zI_17 (by omega) hm]
      rw [show uWants (mD (yR σ τ)) (x : Int).toNat (m : Int).toNat (uLvs ((yR σ τ).1 55 0) (fun r => (yR σ τ).1 87 0 (7 * (m : Int).toNat + r)) 7) = uWants (mD σ) x m lev by rw [← h7]; rfl]
      have hg : 0 ≤ uMin (uWants (mD σ) x m lev) q.1 := uMin_nn W.1 h5.1
      have hg2 := uMin_le (a := uWants (mD σ) x m lev) (b := q.1)
      have hk := uTook_b W.1 h5.1 h6.1
      rw [yR_K rfl, yR_U rfl]
      generalize hτ : zU (zK τ 98 g) 91 0 ((17 * m + x : Nat) : Int).toNat (uWants (mD σ) x m lev) = τ1
      have t1 : ∀ k, ¬ k = 91 → ¬ k = 98 → τ1.1 k = τ.1 k := fun k a b => by subst hτ; rw [zU_off a]; exact if_neg b
      have t2 : τ1.2 = τ.2 := by subst hτ; rfl
      have t91 : ∀ j, τ1.1 91 0 j = if j = 17 * m + x then uWants (mD σ) x m lev else τ.1 91 0 j := fun j => by
        subst hτ
        show (if 91 = 91 ∧ j = 17 * m + x ∧ 0 = 0 then _ else τ.1 91 0 j) = _; exact ifk
      have cont : zX (d + 5) 159 308 [some (.inr (.inr (10, 0))), some (.inl (r : Int)), some (.inl (m : Int)), some (.inl ((7 * m + r : Nat) : Int)), some (.inr (.inl q.2.1)), none, some (.inl q.1), some (.inl (i : Int)), some (.inl (x : Int)), some (.inl ((17 * m + x : Nat) : Int)), x10, x11, x12] [.inl (uMin (uWants (mD σ) x m lev) q.1)] (yR σ τ1) Q := by
        have fin : ∀ (a b : Int) (z10 z11 z12 : Option zV), a = uTook (uWants (mD σ) x m lev) q → b = uTook (uWants (mD σ) x m lev) q + uMin (uWants (mD σ) x m lev) q.1 / 50 →
            zX (d + 5) 159 266 [some (.inr (.inr (10, 0))), some (.inl (r : Int)), some (.inl (m : Int)), some (.inl ((7 * m + r : Nat) : Int)), some (.inr (.inl (zWl (q.2.1 - a)))), none, some (.inl (zW (q.1 - uMin (uWants (mD σ) x m lev) q.1))), some (.inl (zW ((i : Int) + 1))), some (.inl (x : Int)), some (.inl ((17 * m + x : Nat) : Int)), z10, z11, z12] [] (zUL (zU (zU (yR σ τ1) 92 0 (17 * m + x) (uMin (uWants (mD σ) x m lev) q.1)) 93 0 (17 * m + x) (uGb (σ.1 60 0 x) (uMin (uWants (mD σ) x m lev) q.1))) 94 0 (17 * m + x) b) Q := by
          intro a b z10 z11 z12 ha hb
          subst ha
          subst hb
          rw [zWl_id (z := q.2.1 - uTook (uWants (mD σ) x m lev) q) (by omega), zW_id (z := q.1 - uMin (uWants (mD σ) x m lev) q.1) (by omega), zWs (by omega), yR_U rfl, yR_U rfl, yR_UL rfl]
          generalize hτ2 : zUL (zU (zU τ1 92 0 (17 * m + x) (uMin (uWants (mD σ) x m lev) q.1)) 93 0 (17 * m + x) (uGb (σ.1 60 0 x) (uMin (uWants (mD σ) x m lev) q.1))) 94 0 (17 * m + x) (uTook (uWants (mD σ) x m lev) q + uMin (uWants (mD σ) x m lev) q.1 / 50) = τ2
          have u1 : ∀ k, ¬ k = 91 → ¬ k = 92 → ¬ k = 93 → ¬ k = 98 → τ2.1 k = τ.1 k := fun k a b c e => by
            subst hτ2
            show (zU (zU τ1 92 0 (17 * m + x) _) 93 0 (17 * m + x) _).1 k = _
            rw [zU_off c, zU_off b, t1 k a e]
          have u2 : ∀ k, ¬ k = 94 → τ2.2 k = τ.2 k := fun k a => by
            subst hτ2
            rw [zUL_off a]; show τ1.2 k = _; rw [t2]
          have u91 : ∀ j, τ2.1 91 0 j = if j = 17 * m + x then uWants (mD σ) x m lev else τ.1 91 0 j := fun j => by
            subst hτ2; exact t91 j
          have u92 : ∀ j, τ2.1 92 0 j = if j = 17 * m + x then uMin (uWants (mD σ) x m lev) q.1 else τ.1 92 0 j := fun j => by
            subst hτ2
            rw [← t1 92 (by decide) (by decide)]
            show (if 92 = 92 ∧ j = 17 * m + x ∧ 0 = 0 then _ else τ1.1 92 0 j) = _; exact ifk
          have u93 : ∀ j, τ2.1 93 0 j = if j = 17 * m + x then uGb (σ.1 60 0 x) (uMin (uWants (mD σ) x m lev) q.1) else τ.1 93 0 j := fun j => by
            subst hτ2
            rw [← t1 93 (by decide) (by decide)]
            show (if 93 = 93 ∧ j = 17 * m + x ∧ 0 = 0 then _ else τ1.1 93 0 j) = _; exact ifk
          have u94 : ∀ j, τ2.2 94 0 j = if j = 17 * m + x then uTook (uWants (mD σ) x m lev) q + uMin (uWants (mD σ) x m lev) q.1 / 50 else τ.2 94 0 j := fun j => by
            subst hτ2
            rw [← t2]
            show (if 94 = 94 ∧ j = 17 * m + x ∧ 0 = 0 then _ else τ1.2 94 0 j) = _; exact ifk
          have o := uServe_o (D := mD σ) (w := fun h => uWants (mD σ) h m lev) (r := r) (L := L) (q := uTake (uWants (mD σ) x m lev) x q) (x := x) (Or.inr h3.1)
          have o1 : (uServe (mD σ) (fun h => uWants (mD σ) h m lev) r L (uTake (uWants (mD σ) x m lev) x q)).2.2.1 x = uMin (uWants (mD σ) x m lev) q.1 := o.1.trans (if_pos rfl)
          have o2 : (uServe (mD σ) (fun h => uWants (mD σ) h m lev) r L (uTake (uWants (mD σ) x m lev) x q)).2.2.2 x = uTook (uWants (mD σ) x m lev) q + uMin (uWants (mD σ) x m lev) q.1 / 50 := o.2.trans (if_pos rfl)
          refine ih (q := uTake (uWants (mD σ) x m lev) x q) (τ := τ2) (nx (u1 99 (by decide) (by decide) (by decide) (by decide))) (by omega) h3.2 (fun y hy => h4 y (List.mem_cons_of_mem _ hy)) ?_ ?_ (by rw [u1 87 (by decide) (by decide) (by decide) (by decide)]; exact h7) (fun y hy => by rw [u1 100 (by decide) (by decide) (by decide) (by decide)]; exact h8 y hy) (fun τ' P => ?_)
          · show 0 ≤ q.1 - uMin (uWants (mD σ) x m lev) q.1 ∧ q.1 - uMin (uWants (mD σ) x m lev) q.1 ≤ _; omega
          · show 0 ≤ q.2.1 - uTook (uWants (mD σ) x m lev) q ∧ q.2.1 - uTook (uWants (mD σ) x m lev) q ≤ _; omega
          · obtain ⟨P1, P2, P3, P4, P5, P6⟩ := P
            have nL : ∀ y, y ∈ L → mD σ 10 y = (r : Int) → ¬ 17 * m + x = 17 * m + y := fun y hy _ q => h3.1 (by rw [show x = y by omega]; exact hy)
            refine h τ' ⟨fun j => ?_, fun j => ?_, fun y hy hy2 => ?_, fun j hj => ?_, fun k a b c e f => (P5 k a b c e f).trans (u1 k b c e f), fun k a b => (P6 k a b).trans (u2 k b)⟩
            · rw [P1, eS, u1 82 (by decide) (by decide) (by decide) (by decide)]
            · rw [P2, eS, u2 84 (by decide)]
            · rw [eS]
              cases hy with
              | head =>
                have := P4 (17 * m + x) (fun ⟨y, h1, h2, h3⟩ => nL y h1 h2 h3)
                rw [this.1, this.2.1, this.2.2.1, this.2.2.2, u91, u92, u93, u94, if_pos rfl, if_pos rfl, if_pos rfl, if_pos rfl, o1, o2]
                exact ⟨rfl, rfl, rfl, rfl⟩
              | tail _ hy => exact P3 y hy hy2
            · have := P4 j (fun ⟨y, h1, h2, h3⟩ => hj ⟨y, List.mem_cons_of_mem _ h1, h2, h3⟩)
              have ne : ¬ j = 17 * m + x := fun q => hj ⟨x, List.mem_cons_self, e, q⟩
              rw [this.1, this.2.1, this.2.2.1, this.2.2.2, u91, u92, u93, u94, if_neg ne, if_neg ne, if_neg ne, if_neg ne]
              exact ⟨rfl, rfl, rfl, rfl⟩
        have z50 : zW ((uMin (uWants (mD σ) x m lev) q.1).tdiv 50) = uMin (uWants (mD σ) x m lev) q.1 / 50 := by rw [zTd hg, zW_id (by omega)]
        by_cases w0 : q.1 = 0
        · have k0 : uTook (uWants (mD σ) x m lev) q = 0 := if_pos w0
          refine zb_159j (fun q => absurd w0 q) (fun q => absurd w0 q) (fun q => absurd w0 q) (fun _ => by omega) (fun _ => by omega) (fun q => absurd w0 q) (fun _ => ?_)
          rw [z50, zWl_id (z := 0 + uMin (uWants (mD σ) x m lev) q.1 / 50) (by omega)]
          exact fin 0 _ _ _ _ k0.symm (by rw [k0])
        · have k0 : uTook (uWants (mD σ) x m lev) q = q.2.1 * uMin (uWants (mD σ) x m lev) q.1 / q.1 := if_neg w0
          have p0 : 0 ≤ q.2.1 * uMin (uWants (mD σ) x m lev) q.1 := Int.mul_nonneg h6.1 hg
          have p1 : q.2.1 * uMin (uWants (mD σ) x m lev) q.1 ≤ 25000000 * 2089807 := Int.mul_le_mul h6.2 (by omega) hg (by decide)
          have kt : zWl ((zWl (q.2.1 * uMin (uWants (mD σ) x m lev) q.1)).tdiv q.1) = uTook (uWants (mD σ) x m lev) q := by
            rw [zWl_id (z := q.2.1 * uMin (uWants (mD σ) x m lev) q.1) (by omega), zTd p0, ← k0, zWl_id (by omega)]
          refine zb_159j (fun q => q) (fun _ => by omega) (fun _ => by omega) (fun q => absurd q w0) (fun q => absurd q w0) (fun _ => ?_) (fun q => absurd q w0)
          rw [z50, kt, zWl_id (z := uTook (uWants (mD σ) x m lev) q + uMin (uWants (mD σ) x m lev) q.1 / 50) (by omega)]
          exact fin _ _ _ _ _ rfl rfl
      refine zb_159i (fun _ => by omega) (fun a => ?_) (fun a => ?_)
      · have : uMin (uWants (mD σ) x m lev) q.1 = q.1 := if_neg (by omega)
        rw [this] at cont; exact cont
      · have : uMin (uWants (mD σ) x m lev) q.1 = uWants (mD σ) x m lev := if_pos (by omega)
        rw [this] at cont
        rw [show (yR σ τ1).1 91 0 ((17 * m + x : Nat) : Int).toNat = uWants (mD σ) x m lev by show τ1.1 91 0 (17 * m + x) = _; rw [t91, if_pos rfl]]
        exact cont
    · have eS : uServe (mD σ) (fun h => uWants (mD σ) h m lev) r (x :: L) q = uServe (mD σ) (fun h => uWants (mD σ) h m lev) r L q := by
        show uServe (mD σ) (fun h => uWants (mD σ) h m lev) r L (if mD σ 10 x = (r : Int) then uTake (uWants (mD σ) x m lev) x q else q) = _
        rw [if_neg e]
      refine zb_159gn hlt (by rw [ax2]; exact e) (by omega) (by rw [ax2]; omega) ?_
      rw [zWs (by omega)]
      refine ih (nx rfl) (by omega) h3.2 (fun y hy => h4 y (List.mem_cons_of_mem _ hy)) h5 h6 h7 h8 (fun τ' P => h τ' ?_)
      obtain ⟨P1, P2, P3, P4, P5, P6⟩ := P
      unfold mGp
      rw [eS]
      refine ⟨P1, P2, fun y hy hy2 => ?_, fun j hj => P4 j (fun ⟨y, h1, h2, h3⟩ => hj ⟨y, List.mem_cons_of_mem _ h1, h2, h3⟩), P5, P6⟩
      cases hy with
      | head => exact absurd hy2 e
      | tail _ hy => exact P3 y hy hy2
