-- held, the call (wip/whole/gen/laws72.py)
theorem ym_181 {d : Nat} (p u : Int) : yM (d + 60) 181 [.inl p, .inl u] (fun x => .inr (.inl (vHeld (mD x) p u))) := fun σ Q R q => by
  have q : ∀ x, yRel x → Q (some (.inr (.inl (vHeld (mD σ) p u)))) x := q
  by_cases P : (0 ≤ p ∧ p ≤ 2000000000) ∧ 0 ≤ u ∧ u ≤ 1
  case neg =>
    have q := q _ R
    rw [show vHeld (mD σ) p u = -4611686018427387904 from if_neg P] at q
    exact zb_181 (d := d + 50) (fun _ => q) (fun _ _ => q) (fun _ _ _ => q) (fun a b c e => absurd ⟨⟨Int.not_lt.mp a, Int.not_lt.mp b⟩, Int.not_lt.mp c, e⟩ P) (fun _ _ _ _ => q)
  refine zb_181 (d := d + 50) (fun a => absurd P.1.1 (Int.not_le.mpr a)) (fun _ a => absurd P.1.2 (Int.not_le.mpr a)) (fun _ _ a => absurd P.2.1 (Int.not_le.mpr a)) (fun _ _ _ _ => ?_) (fun _ _ _ a => absurd P.2.2 a)
  refine zH_a (d := d + 50) (fun A L hA hL r => ?_)
  have RA : yRel (zAL σ A L) := R
  by_cases c3 : uCnt (mD σ 3) 7 ≤ 3
  case neg =>
    have q := q _ RA
    rw [show vHeld (mD σ) p u = -6 from (if_pos P).trans (if_neg c3)] at q
    exact zb_181b (d := d + 50) (fun c => absurd (Int.ofNat_le.mp c) c3) (fun _ => q)
  have F : vHeld (mD σ) p u = (if (hAll (mD σ) p (uCnt (mD σ 3) 7)).1 = -1 then -5 else if u = 0 then (hAll (mD σ) p (uCnt (mD σ 3) 7)).1 else (hAll (mD σ) p (uCnt (mD σ 3) 7)).2) := (if_pos P).trans (if_pos c3)
  rw [F] at q
  clear F
  unfold hAll at q
  refine zb_181b (d := d + 50) (fun _ => ?_) (fun c => absurd (Int.ofNat_le.mpr c3) c)
  show zX (d + 50 + 10) 181 49 [some (.inr (.inr (10, 0))), some (.inl p), some (.inl u), some (.inl (uCnt (mD σ 3) 7 : Int)), some (.inl 1), some (.inl 0), none, none, none, none, none, none, none, none, none, none] [] (zAL σ A L) Q
  have hn : (uCnt (mD σ 3) 7 : Int) = (uCnt (σ.1 55 0) 7 : Int) := rfl
  have hnN : uCnt (mD σ 3) 7 = uCnt (σ.1 55 0) 7 := rfl
  generalize uCnt (mD σ 3) 7 = n at *
  refine zH_c (d := d + 50) c3 ?_
  refine zb_181d (d := d + 50) ?_
  have B64 : 4 ^ n ≤ 64 := Nat.le_trans (Nat.pow_le_pow_right (by decide) c3) (by decide)
  have K := zLoop (P := fun w => ∀ (g : Nat → Int) (τ : zS) (x9 x10 x11 x12 x13 x14 x15 : Option zV), (∀ j, ¬ (j < 7 ∧ ¬ mD σ 3 j = 0) → g j = σ.1 59 0 j) →
    zX (d + 50 + 10) 181 64 [some (.inr (.inr (10, 0))), some (.inl p), some (.inl u), some (.inl (n : Int)), some (.inl ((4 ^ n : Nat) : Int)), some (.inl (hFold (hSt (mD σ) 3) (hSt (mD σ) 7) p w).1), some (.inr (.inl (hFold (hSt (mD σ) 3) (hSt (mD σ) 7) p w).2)), none, some (.inl (w : Int)), x9, x10, x11, x12, x13, x14, x15] [] (yR (zR59 (zAL σ A L) g) τ) Q) (k := 0) (N := 4 ^ n) (Nat.zero_le _) (fun g τ x9 x10 x11 x12 x13 x14 x15 hg => ?_) (fun w _ hw ih g τ x9 x10 x11 x12 x13 x14 x15 hg => ?_)
  · have K := K (σ.1 59 0) (zAL σ A L) none none none none none none none (fun _ _ => rfl)
    have z0 : zR59 (zAL σ A L) (σ.1 59 0) = zAL σ A L := zR59_0 (fun j => rfl)
    rw [z0, ← yR_self] at K
    exact K
  · refine zb_181e (d := d + 50) (fun _ => ?_) (fun c => absurd (Int.le_refl _) c)
    refine zb_181m (d := d + 50) ?_
    refine zH_n (d := d + 50) hA hL hn (fun w => ?_)
    have e : zR59 (zAL σ A L) (hB (σ.1 55 0) (σ.1 59 0) 7 g) = zAL σ A L := zR59_0 (fun j => by
      show (if j < 7 ∧ ¬ σ.1 55 0 j = 0 then σ.1 59 0 j else g j) = σ.1 59 0 j
      by_cases c : j < 7 ∧ ¬ σ.1 55 0 j = 0
      · rw [if_pos c]
      · rw [if_neg c]; exact hg j c)
    rw [e]
    have q := q (yR (zAL σ A L) τ) RA
    generalize hFold (hSt (mD σ) 3) (hSt (mD σ) 7) p (4 ^ n) = z at *
    refine zb_181o (d := d + 50) (fun a b => ?_) (fun a b => ?_) (fun a => ?_)
    · rw [if_neg a, if_neg b] at q; exact q
    · rw [if_neg a, if_pos b] at q; exact q
    · rw [if_pos a] at q; exact q
  · have nle : ¬ ((4 ^ n : Nat) : Int) ≤ (w : Int) := Int.not_le.mpr (Int.ofNat_lt.mpr hw)
    have w64 : w < 65536 := Nat.lt_trans (Nat.lt_of_lt_of_le hw B64) (by decide)
    have wz : zW ((w : Int) + 1) = ((w + 1 : Nat) : Int) := zWs (Nat.lt_trans w64 (by decide))
    have nz : zW ((n : Int) - 1) = (n : Int) - 1 := zn1 c3
    refine zb_181e (d := d + 50) (fun c => absurd c nle) (fun _ => ?_)
    rw [nz]
    have OK' := yOk_h R w
    have fin : ∀ (q0 i : Int) (x11 x12 x13 x14 x15 : Option zV), zX (d + 50 + 10) 181 122 [some (.inr (.inr (10, 0))), some (.inl p), some (.inl u), some (.inl (n : Int)), some (.inl ((4 ^ n : Nat) : Int)), some (.inl (hFold (hSt (mD σ) 3) (hSt (mD σ) 7) p w).1), some (.inr (.inl (hFold (hSt (mD σ) 3) (hSt (mD σ) 7) p w).2)), none, some (.inl (w : Int)), some (.inl q0), some (.inl i), x11, x12, x13, x14, x15] [] (yR (zR59 (zAL σ A L) (hG (mD σ) w 0 g)) τ) Q := fun q0 i x11 x12 x13 x14 x15 => by
      refine zb_181g (d := d + 50) ?_
      refine zX_call rfl rfl ?_
      have eD : mD (yR (zR59 (zAL σ A L) (hG (mD σ) w 0 g)) τ) = uHel (mD σ) w := mD_hel (hG_u hg)
      have MK : mOk (yR (zR59 (zAL σ A L) (hG (mD σ) w 0 g)) τ) := ⟨by rw [eD]; exact OK', (yMok R).2⟩
      refine zs_158 (d := d + 53) MK (fun τ2 M2 => ?_)
      rw [yR_R]
      refine zb_181h (d := d + 50) ?_
      have rows : ∀ m r, m < 96 → r < 7 → mRow τ2 (uHel (mD σ) w) (uV (uHel (mD σ) w) m) m r := fun m r hm hr => by
        have x := mr_r M2 hm hr
        rw [eD] at x
        exact x
      have d3 : uHel (mD σ) w 3 = mD σ 3 := uHel_f (by decide)
      refine zH_i (d := d + 50) (t := yR (zR59 (zAL σ A L) (hG (mD σ) w 0 g)) τ2) (D := uHel (mD σ) w) OK' (fun j hj ht => by rw [d3] at ht ⊢; exact hL j hj ht) (fun m r hm hr ht => ?_) (fun m r hm hr ht => ?_) (by rw [d3]; exact hn) (fun m x => ?_) _
      · exact ((rows m r hm hr).2.2.2.2.2.2.2 ht).2.2.2.1.trans (vPow_e OK' hm hr ht).symm
      · exact ((rows m r hm hr).2.2.2.2.2.2.2 ht).1
      · have nxt : ∀ (s' : Int × Int) (x9 x10 x11 x12 x13 x14 x15 : Option zV), hFold (hSt (mD σ) 3) (hSt (mD σ) 7) p (w + 1) = s' → zX (d + 50 + 10) 181 187 [some (.inr (.inr (10, 0))), some (.inl p), some (.inl u), some (.inl (n : Int)), some (.inl ((4 ^ n : Nat) : Int)), some (.inl s'.1), some (.inr (.inl s'.2)), none, some (.inl (w : Int)), x9, x10, x11, x12, x13, x14, x15] [] (yR (zR59 (zAL σ A L) (hG (mD σ) w 0 g)) τ2) Q := fun s' x9 x10 x11 x12 x13 x14 x15 es => by
          refine zb_181l (d := d + 50) ?_
          rw [wz, ← es]
          exact ih _ _ _ _ _ _ _ _ _ (fun j hj => by
            unfold hG
            rw [if_neg (fun z => hj ⟨z.1.2, z.2⟩)]
            exact hg j hj)
        have eF : hFold (hSt (mD σ) 3) (hSt (mD σ) 7) p (w + 1) = if ((hFold (hSt (mD σ) 3) (hSt (mD σ) 7) p w).1 = -1 ∨ hSt (mD σ) 3 w < (hFold (hSt (mD σ) 3) (hSt (mD σ) 7) p w).2) ∧ p ≤ hSt (mD σ) 7 w then ((w : Int), hSt (mD σ) 3 w) else hFold (hSt (mD σ) 3) (hSt (mD σ) 7) p w := rfl
        clear ih
        generalize hFold (hSt (mD σ) 3) (hSt (mD σ) 7) p w = z at *
        show zX (d + 50 + 10) 181 171 [some (.inr (.inr (10, 0))), some (.inl p), some (.inl u), some (.inl (n : Int)), some (.inl ((4 ^ n : Nat) : Int)), some (.inl z.1), some (.inr (.inl z.2)), none, some (.inl (w : Int)), some (.inl q0), some (.inr (.inl (hSt (mD σ) 7 w))), none, some (.inr (.inl (hSt (mD σ) 3 w))), none, some (.inl m), x] [] (yR (zR59 (zAL σ A L) (hG (mD σ) w 0 g)) τ2) Q
        have tk : (z.1 = -1 ∨ hSt (mD σ) 3 w < z.2) → p ≤ hSt (mD σ) 7 w → ∀ x9 x10 x11 x12 x13 x14 x15, zX (d + 50 + 10) 181 187 [some (.inr (.inr (10, 0))), some (.inl p), some (.inl u), some (.inl (n : Int)), some (.inl ((4 ^ n : Nat) : Int)), some (.inl (w : Int)), some (.inr (.inl (hSt (mD σ) 3 w))), none, some (.inl (w : Int)), x9, x10, x11, x12, x13, x14, x15] [] (yR (zR59 (zAL σ A L) (hG (mD σ) w 0 g)) τ2) Q := fun a b x9 x10 x11 x12 x13 x14 x15 => nxt ((w : Int), hSt (mD σ) 3 w) _ _ _ _ _ _ _ (by rw [eF, if_pos ⟨a, b⟩])
        have lv : ¬ ((z.1 = -1 ∨ hSt (mD σ) 3 w < z.2) ∧ p ≤ hSt (mD σ) 7 w) → ∀ x9 x10 x11 x12 x13 x14 x15, zX (d + 50 + 10) 181 187 [some (.inr (.inr (10, 0))), some (.inl p), some (.inl u), some (.inl (n : Int)), some (.inl ((4 ^ n : Nat) : Int)), some (.inl z.1), some (.inr (.inl z.2)), none, some (.inl (w : Int)), x9, x10, x11, x12, x13, x14, x15] [] (yR (zR59 (zAL σ A L) (hG (mD σ) w 0 g)) τ2) Q := fun a x9 x10 x11 x12 x13 x14 x15 => nxt z _ _ _ _ _ _ _ (by rw [eF, if_neg a])
        have no1 : ∀ {b l g : Int}, ¬ b = -1 → l < g → ¬ (b = -1 ∨ g < l) := fun a e k => k.elim a (fun k => absurd k (Int.not_lt.mpr (Int.le_of_lt e)))
        have no2 : ∀ {b l g : Int}, ¬ b = -1 → g = l → ¬ (b = -1 ∨ g < l) := fun a e k => k.elim a (fun k => absurd k (by rw [e]; exact Int.lt_irrefl _))
        exact zb_181k (d := d + 50) (fun a b => tk (.inl b) (Int.le_of_lt a) _ _ _ _ _ _ _) (fun a b c => lv (fun k => no1 b c k.1) _ _ _ _ _ _ _) (fun a b c => lv (fun k => no2 b c k.1) _ _ _ _ _ _ _) (fun a b c => tk (.inr c) (Int.le_of_lt a) _ _ _ _ _ _ _)
          (fun a b => tk (.inl b) (Int.le_of_eq a.symm) _ _ _ _ _ _ _) (fun a b c => lv (fun k => no1 b c k.1) _ _ _ _ _ _ _) (fun a b c => lv (fun k => no2 b c k.1) _ _ _ _ _ _ _) (fun a b c => tk (.inr c) (Int.le_of_eq a.symm) _ _ _ _ _ _ _) (fun a => lv (fun k => absurd k.2 (Int.not_le.mpr a)) _ _ _ _ _ _ _)
    have Z := zH_f (d := d + 50) (τ := τ) (g := g) (p := p) (u := u) (a := ((4 ^ n : Nat) : Int)) (best := (hFold (hSt (mD σ) 3) (hSt (mD σ) 7) p w).1) (least := (hFold (hSt (mD σ) 3) (hSt (mD σ) 7) p w).2) (w0 := (w : Int)) (n := (n : Int)) w64 hA hL fin 7 x11 x12 x13 x14 x15 (Nat.le_refl _)
    rw [uCa_7, Nat.pow_zero, Nat.div_one, hG_7, ← hnN] at Z
    exact Z
theorem yp_held {d : Nat} {σ : zS} (R : yRel σ) (p u : Int) : yPl d 96 181 [.inl p, .inl u] σ :=
  yp_ofl (f := fun x => vHeld (mD x) p u) (yc_96 p u) (ym_181 p u) (fun σ x E => by show vHeld (mD x) p u = _; rw [E.1]) R
