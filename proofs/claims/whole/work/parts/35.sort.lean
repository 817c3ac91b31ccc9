-- the class sorts and begins (wip/whole/gen/laws10.py)
-- X0_sortHolds
theorem zb_6i {d : Nat} {σ : zS} {Q : Option zV → zS → Prop} {f : Nat} {h p : Int}
    (o1 : p ≤ 0 → (0 : Int) ≤ p ∧ p < (16 : Int))
    (o2 : ¬ p ≤ 0 → (0 : Int) ≤ zW (p - 1) ∧ zW (p - 1) < (16 : Int))
    (o3 : ¬ p ≤ 0 → 0 ≤ h ∧ h < 16)
    (o4 : ¬ p ≤ 0 → 0 ≤ (σ.1 14 f ((zW (p - 1)).toNat)) ∧ (σ.1 14 f ((zW (p - 1)).toNat)) < 16)
    (o5 : ¬ p ≤ 0 → cAh σ h.toNat (σ.1 14 f ((zW (p - 1)).toNat)).toNat → (0 : Int) ≤ p ∧ p < (16 : Int))
    (o6 : ¬ p ≤ 0 → ¬ cAh σ h.toNat (σ.1 14 f ((zW (p - 1)).toNat)).toNat → (0 : Int) ≤ p ∧ p < (16 : Int))
    (h1 : p ≤ 0 → zX (d + 11) 6 2 [some (.inr (.inr (0, f))), some (.inl (zW (h + 1))), some (.inl p)] [] (zU σ 14 f (p.toNat) h) Q)
    (h2 : ¬ p ≤ 0 → cAh σ h.toNat (σ.1 14 f ((zW (p - 1)).toNat)).toNat → zX (d + 11) 6 9 [some (.inr (.inr (0, f))), some (.inl h), some (.inl (zW (p + (-1))))] [] (zU σ 14 f (p.toNat) (σ.1 14 f ((zW (p - 1)).toNat))) Q)
    (h3 : ¬ p ≤ 0 → ¬ cAh σ h.toNat (σ.1 14 f ((zW (p - 1)).toNat)).toNat → zX (d + 11) 6 2 [some (.inr (.inr (0, f))), some (.inl (zW (h + 1))), some (.inl p)] [] (zU σ 14 f (p.toNat) h) Q) :
    zX (d + 11) 6 9 [some (.inr (.inr (0, f))), some (.inl h), some (.inl p)] [] σ Q := by
  refine zX_run (n' := 10) (ls' := [some (.inr (.inr (0, f))), some (.inl h), some (.inl p)]) (st' := [.inl p]) (σ' := σ) 1 rfl ?_
  refine zX_i5 rfl (fun a1 => ?_) (fun a1 => ?_)
  · skip
    refine zX_run (n' := 38) (ls' := [some (.inr (.inr (0, f))), some (.inl h), some (.inl p)]) (st' := [.inl h, .inl p, .inr (.inr (14, f))]) (σ' := σ) 4 rfl ?_
    refine zX_ast1 (L := 16) rfl (by decide) rfl (o1 a1) ?_
    refine zX_run (n' := 2) (ls' := [some (.inr (.inr (0, f))), some (.inl (zW (h + 1))), some (.inl p)]) (st' := []) (σ' := (zU σ 14 f (p.toNat) h)) 2 rfl ?_
    exact h1 a1
  · skip
    refine zX_run (n' := 19) (ls' := [some (.inr (.inr (0, f))), some (.inl h), some (.inl p)]) (st' := [.inl (zW (p - 1)), .inr (.inr (14, f)), .inl h, .inr (.inr (8, 0))]) (σ' := σ) 8 rfl ?_
    refine zX_ald1 (L := 16) rfl (by decide) rfl (o2 a1) ?_
    refine zX_call rfl rfl ?_
    refine zs_65 (o3 a1) (o4 a1) (fun a2 => ?_) (fun a3 => ?_)
    · skip
      refine zX_run (n' := 30) (ls' := [some (.inr (.inr (0, f))), some (.inl h), some (.inl p)]) (st' := [.inl (zW (p - 1)), .inr (.inr (14, f)), .inl p, .inr (.inr (14, f))]) (σ' := σ) 9 rfl ?_
      refine zX_ald1 (L := 16) rfl (by decide) rfl (o2 a1) ?_
      refine zX_ast1 (L := 16) rfl (by decide) rfl (o5 a1 a2) ?_
      refine zX_run (n' := 9) (ls' := [some (.inr (.inr (0, f))), some (.inl h), some (.inl (zW (p + (-1))))]) (st' := []) (σ' := (zU σ 14 f (p.toNat) (σ.1 14 f ((zW (p - 1)).toNat)))) 2 rfl ?_
      exact h2 a1 a2
    · skip
      refine zX_run (n' := 38) (ls' := [some (.inr (.inr (0, f))), some (.inl h), some (.inl p)]) (st' := [.inl h, .inl p, .inr (.inr (14, f))]) (σ' := σ) 5 rfl ?_
      refine zX_ast1 (L := 16) rfl (by decide) rfl (o6 a1 a3) ?_
      refine zX_run (n' := 2) (ls' := [some (.inr (.inr (0, f))), some (.inl (zW (h + 1))), some (.inl p)]) (st' := []) (σ' := (zU σ 14 f (p.toNat) h)) 2 rfl ?_
      exact h3 a1 a3
-- X0_sortHolds
theorem zb_6o {d : Nat} {σ : zS} {Q : Option zV → zS → Prop} {f : Nat} {h : Int} {x : Option zV}
    (h1 : σ.1 8 0 8 ≤ h → Q (none) σ)
    (h2 : ¬ σ.1 8 0 8 ≤ h → zX (d + 11) 6 9 [some (.inr (.inr (0, f))), some (.inl h), some (.inl h)] [] σ Q) :
    zX (d + 11) 6 2 [some (.inr (.inr (0, f))), some (.inl h), x] [] σ Q := by
  refine zX_run (n' := 6) (ls' := [some (.inr (.inr (0, f))), some (.inl h), x]) (st' := [.inl (σ.1 8 0 8), .inl h]) (σ' := σ) 4 rfl ?_
  refine zX_c3 rfl (fun a1 => ?_) (fun a1 => ?_)
  · skip
    exact zX_ret0 rfl rfl (h1 a1)
  · skip
    refine zX_run (n' := 9) (ls' := [some (.inr (.inr (0, f))), some (.inl h), some (.inl h)]) (st' := []) (σ' := σ) 2 rfl ?_
    exact h2 a1
-- X0_restart
theorem zb_1 {d : Nat} {σ : zS} {Q : Option zV → zS → Prop} {f : Nat} {r : Int}
    (o1 : ¬ 7 ≤ r → (0 : Int) ≤ r ∧ r < (7 : Int))
    (h1 : 7 ≤ r → Q (none) σ)
    (h2 : ¬ 7 ≤ r → zX (d + 0) 1 5 [some (.inr (.inr (0, f))), some (.inl (zW (r + 1)))] [] (zU (zU σ 26 (7 * f + r.toNat) 0 (σ.1 3 (7 * 0 + r.toNat) 2)) 27 (7 * f + r.toNat) 0 0) Q) :
    zX (d + 0) 1 5 [some (.inr (.inr (0, f))), some (.inl r)] [] σ Q := by
  refine zX_run (n' := 7) (ls' := [some (.inr (.inr (0, f))), some (.inl r)]) (st' := [.inl 7, .inl r]) (σ' := σ) 2 rfl ?_
  refine zX_c3 rfl (fun a1 => ?_) (fun a1 => ?_)
  · skip
    exact zX_ret0 rfl rfl (h1 a1)
  · skip
    refine zX_run (n' := 11) (ls' := [some (.inr (.inr (0, f))), some (.inl r)]) (st' := [.inl r, .inr (.inr (11, f))]) (σ' := σ) 3 rfl ?_
    refine zX_ald5 (L := 7) rfl (by decide) rfl (o1 a1) ?_
    refine zX_run (n' := 18) (ls' := [some (.inr (.inr (0, f))), some (.inl r)]) (st' := [.inl r, .inr (.inr (38, 0)), .inl 0, .inr (.inr (26, 7 * f + r.toNat))]) (σ' := σ) 6 rfl ?_
    refine zX_ald5 (L := 7) rfl (by decide) rfl (o1 a1) ?_
    refine zX_run (n' := 20) (ls' := [some (.inr (.inr (0, f))), some (.inl r)]) (st' := [.inl (σ.1 3 (7 * 0 + r.toNat) 2), .inl 0, .inr (.inr (26, 7 * f + r.toNat))]) (σ' := σ) 1 rfl ?_
    refine zX_ast1 (L := 97) rfl (by decide) rfl (by decide) ?_
    refine zX_run (n' := 24) (ls' := [some (.inr (.inr (0, f))), some (.inl r)]) (st' := [.inl r, .inr (.inr (11, f))]) (σ' := (zU σ 26 (7 * f + r.toNat) 0 (σ.1 3 (7 * 0 + r.toNat) 2))) 3 rfl ?_
    refine zX_ald5 (L := 7) rfl (by decide) rfl (o1 a1) ?_
    refine zX_run (n' := 28) (ls' := [some (.inr (.inr (0, f))), some (.inl r)]) (st' := [.inl 0, .inl 0, .inr (.inr (27, 7 * f + r.toNat))]) (σ' := (zU σ 26 (7 * f + r.toNat) 0 (σ.1 3 (7 * 0 + r.toNat) 2))) 3 rfl ?_
    refine zX_ast1 (L := 97) rfl (by decide) rfl (by decide) ?_
    refine zX_run (n' := 5) (ls' := [some (.inr (.inr (0, f))), some (.inl (zW (r + 1)))]) (st' := []) (σ' := (zU (zU σ 26 (7 * f + r.toNat) 0 (σ.1 3 (7 * 0 + r.toNat) 2)) 27 (7 * f + r.toNat) 0 0)) 2 rfl ?_
    exact h2 a1
theorem uIns_cut {lt : Nat → Nat → Bool} {h : Nat} {suf : List Nat} (hs : ∀ x t, suf = x :: t → ¬ lt h x = true) : ∀ {pre : List Nat}, (∀ x, x ∈ pre → lt h x = true) → uIns lt h (pre ++ suf) = pre ++ h :: suf
  | [], _ => by
    cases suf with
    | nil => rfl
    | cons x t => exact if_neg (hs x t rfl)
  | y :: pre, hp => by
    show (if lt h y = true then y :: uIns lt h (pre ++ suf) else _) = _
    rw [if_pos (hp y List.mem_cons_self), uIns_cut hs (fun x hx => hp x (List.mem_cons_of_mem _ hx))]
    rfl
def cS14 (σ : zS) (G : Nat → Nat → Nat → Int) (f : Nat) : Prop := (∀ k, ¬ k = 14 → G k = σ.1 k) ∧ (∀ n j, ¬ n = f → G 14 n j = σ.1 14 n j)
theorem cS14_u {σ : zS} {G : Nat → Nat → Nat → Int} {f j : Nat} {v : Int} (h : cS14 σ G f) : cS14 σ (uG G 14 f j v) f :=
  ⟨fun k hk => (funext fun n => funext fun j => if_neg (fun q => hk q.1)).trans (h.1 k hk), fun n j hn => (if_neg (fun q => hn q.2.2)).trans (h.2 n j hn)⟩
theorem cAh_eq {σ : zS} {D : uT} (T6 : ∀ h j, h < uN D → j < 7 → cH σ h j = D (8 + j) h) {x y : Nat} (hx : x < uN D) (hy : y < uN D) : cAh σ x y ↔ uLtC D x y = true := by
  unfold cAh uLtC cRk
  rw [T6 x 0 hx (by decide), T6 x 2 hx (by decide), T6 x 4 hx (by decide), T6 y 0 hy (by decide), T6 y 2 hy (by decide), T6 y 4 hy (by decide)]
  show (if D 10 x = D 10 y then uRank (D 8 x) (D 12 x) < uRank (D 8 y) (D 12 y) else D 10 x < D 10 y) ↔ _
  by_cases e : D 10 x = D 10 y
  · rw [if_pos e, if_pos e, decide_eq_true_eq]
  · rw [if_neg e, if_neg e, decide_eq_true_eq]
theorem zs_6i {d : Nat} {σ : zS} {Q : Option zV → zS → Prop} {f k : Nat} {D : uT} (T6 : ∀ h j, h < uN D → j < 7 → cH σ h j = D (8 + j) h) (hk : k < uN D) (hN : uN D ≤ 16) : ∀ (R : List Nat) {B : List Nat} {G : Nat → Nat → Nat → Int}, R.length + B.length = k → (∀ x, x ∈ R → x < uN D) → (∀ x, x ∈ B → uLtC D k x = true) →
    (∀ i x : Nat, R.reverse[i]? = some x → G 14 f i = (x : Int)) → (∀ i x : Nat, B[i]? = some x → G 14 f (R.length + 1 + i) = (x : Int)) → cS14 σ G f →
    (∀ (G' : Nat → Nat → Nat → Int) (y : Option zV), (∀ i x : Nat, ((uIns (uLtC D) k (B.reverse ++ R)).reverse)[i]? = some x → G' 14 f i = (x : Int)) → cS14 σ G' f → zX (d + 11) 6 2 [some (.inr (.inr (0, f))), some (.inl ((k + 1 : Nat) : Int)), y] [] (zG σ G') Q) →
    zX (d + 11) 6 9 [some (.inr (.inr (0, f))), some (.inl (k : Int)), some (.inl (R.length : Int))] [] (zG σ G) Q := by
  intro R
  induction R with
  | nil =>
    intro B G hl hR hB aR aB F h
    refine zb_6i (fun _ => by simp) (fun q => absurd (by simp) q) (fun q => absurd (by simp) q) (fun q => absurd (by simp) q) (fun q => absurd (by simp) q) (fun q => absurd (by simp) q) (fun _ => ?_) (fun q => absurd (by simp) q) (fun q => absurd (by simp) q)
    rw [zG_U rfl, zWs (by omega)]
    refine h _ _ (fun i x hx => ?_) (cS14_u F)
    rw [uIns_cut (fun x t e => by cases e) (fun x hx => hB x (by simpa using hx))] at hx
    simp only [List.reverse_append, List.reverse_cons, List.reverse_nil, List.nil_append, List.reverse_reverse, List.cons_append] at hx
    show (if 14 = 14 ∧ i = 0 ∧ f = f then (k : Int) else G 14 f i) = _
    cases i with
    | zero => rw [if_pos ⟨rfl, rfl, rfl⟩]; simp at hx; rw [hx]
    | succ i =>
      rw [if_neg (by omega)]
      simp at hx
      have := aB i x hx
      rw [show ([] : List Nat).length + 1 + i = i + 1 by simp; omega] at this
      exact this
  | cons x R ih =>
    intro B G hl hR hB aR aB F h
    have hx := hR x List.mem_cons_self
    have ln : (x :: R).length = R.length + 1 := rfl
    rw [ln] at hl aB ⊢
    have e1 : zW (((R.length + 1 : Nat) : Int) - 1) = (R.length : Int) := by rw [zW_id (by omega)]; omega
    have e2 : zW (((R.length + 1 : Nat) : Int) + (-1)) = (R.length : Int) := by rw [zW_id (by omega)]; omega
    have ax : G 14 f R.length = (x : Int) := aR R.length x (by rw [List.reverse_cons, List.getElem?_append_right (by simp)]; simp)
    have ax2 : (zG σ G).1 14 f ((R.length : Int)).toNat = (x : Int) := ax
    have ah : cAh (zG σ G) ((k : Int)).toNat ((zG σ G).1 14 f ((R.length : Int)).toNat).toNat ↔ uLtC D k x = true := by
      rw [ax2]; exact cAh_eq T6 hk hx
    refine zb_6i (fun q => absurd q (by omega)) (fun _ => by rw [e1]; omega) (fun _ => by omega) (fun _ => by rw [e1, ax2]; omega) (fun _ _ => by omega) (fun _ _ => by omega) (fun q => absurd q (by omega)) (fun _ => ?_) (fun _ => ?_)
    · rw [e1, ah]; intro l
      rw [e2, ax2, zG_U rfl]
      refine ih (B := x :: B) (by simp; omega) (fun y hy => hR y (List.mem_cons_of_mem _ hy)) (fun y hy => ?_) (fun i y hy => ?_) (fun i y hy => ?_) (cS14_u F) (fun G' z g1 g2 => h G' z (fun i y hy => g1 i y (by rw [List.reverse_cons, List.append_assoc]; exact hy)) g2)
      · cases hy with
        | head => exact l
        | tail _ hy => exact hB y hy
      · have hi : i < R.length := by
          have := (List.getElem?_eq_some_iff.mp hy).1; simpa using this
        show (if 14 = 14 ∧ i = R.length + 1 ∧ f = f then _ else G 14 f i) = _
        rw [if_neg (by omega)]
        exact aR i y (by rw [List.reverse_cons, List.getElem?_append_left (by simpa using hi)]; exact hy)
      · show (if 14 = 14 ∧ R.length + 1 + i = R.length + 1 ∧ f = f then (x : Int) else G 14 f (R.length + 1 + i)) = _
        cases i with
        | zero => rw [if_pos ⟨rfl, rfl, rfl⟩]; simp at hy; rw [hy]
        | succ i =>
          rw [if_neg (by omega)]
          have := aB i y (by simpa using hy)
          rw [show R.length + 1 + (i + 1) = R.length + 1 + 1 + i by omega]; exact this
    · rw [e1, ah]; intro l
      rw [zG_U rfl, zWs (by omega)]
      refine h _ _ (fun i y hy => ?_) (cS14_u F)
      rw [uIns_cut (suf := x :: R) (fun z t e => by cases e; exact l) (fun z hz => hB z (by simpa using hz))] at hy
      rw [List.reverse_append, List.reverse_cons, List.reverse_reverse, List.append_assoc] at hy
      show (if 14 = 14 ∧ i = R.length + 1 ∧ f = f then (k : Int) else G 14 f i) = _
      by_cases i1 : i < R.length + 1
      · rw [if_neg (by omega)]
        rw [List.getElem?_append_left (by simpa using i1)] at hy
        exact aR i y hy
      · rw [List.getElem?_append_right (by simpa using Nat.le_of_not_lt i1)] at hy
        by_cases i2 : i = R.length + 1
        · rw [if_pos ⟨rfl, i2, rfl⟩]
          subst i2
          simp at hy
          rw [hy]
        · rw [if_neg (by omega)]
          have : i - (x :: R).reverse.length = (i - (R.length + 2)) + 1 := by simp; omega
          rw [this] at hy
          have := aB (i - (R.length + 2)) y (by simpa using hy)
          rw [show R.length + 1 + 1 + (i - (R.length + 2)) = i by omega] at this
          exact this
theorem zs_6 {d : Nat} {σ : zS} {Q : Option zV → zS → Prop} {f : Nat} {D : uT} (T6 : ∀ h j, h < uN D → j < 7 → cH σ h j = D (8 + j) h) (hn : σ.1 8 0 8 = (uN D : Int)) (hN : uN D ≤ 16)
    (h : ∀ G : Nat → Nat → Nat → Int, cOrd (zG σ G) f D → cS14 σ G f → Q none (zG σ G)) : zM (d + 11) 6 [.inr (.inr (0, f))] σ Q := by
  refine zX_run (n' := 2) (ls' := [some (.inr (.inr (0, f))), some (.inl 0), none]) (st' := []) (σ' := σ) 2 rfl ?_
  have L := zLoop (P := fun k => ∀ (G : Nat → Nat → Nat → Int) (y : Option zV), (∀ i x : Nat, ((uSrt (uLtC D) k).reverse)[i]? = some x → G 14 f i = (x : Int)) → cS14 σ G f → zX (d + 11) 6 2 [some (.inr (.inr (0, f))), some (.inl (k : Int)), y] [] (zG σ G) Q) (k := 0) (N := uN D) (by omega) (fun G y I F => ?_) (fun k _ hk ih G y I F => ?_)
  · have := L σ.1 none (fun i x hx => by simp [uSrt] at hx) ⟨fun _ _ => rfl, fun _ _ _ => rfl⟩
    rw [← zG_self] at this
    exact this
  · refine zb_6o (fun _ => h G (fun i hi => ?_) F) (fun q => absurd (show σ.1 8 0 8 ≤ _ by omega) q)
    exact I i _ (List.getElem?_eq_getElem hi)
  · refine zb_6o (fun q => absurd q (show ¬ σ.1 8 0 8 ≤ _ by omega)) (fun _ => ?_)
    have := zs_6i (d := d) (Q := Q) (f := f) (k := k) T6 hk hN (uSrt (uLtC D) k) (B := []) (G := G) (by rw [uSrt_len]; rfl) (fun x hx => by have := uSrt_mem.mp hx; omega) (fun x hx => by cases hx) I (fun i x hx => by simp at hx) F (fun G' y g1 g2 => ih G' y g1 g2)
    rw [uSrt_len] at this
    exact this
