-- held, the class's call (wip/whole/gen/laws68.py)
def hStep (st pw : Nat → Int) (p : Int) (w : Nat) (s : Int × Int) : Int × Int := if (s.1 = -1 ∨ st w < s.2) ∧ p ≤ pw w then ((w : Int), st w) else s
def hFold (st pw : Nat → Int) (p : Int) : Nat → Int × Int
  | 0 => (-1, 0)
  | n + 1 => hStep st pw p n (hFold st pw p n)
def hSt (D : uT) (x : Int) (w : Nat) : Int := uSum (fun m => vMon (uHel D w) x m) 96
def hAll (D : uT) (p : Int) (n : Nat) : Int × Int := hFold (hSt D 3) (hSt D 7) p (4 ^ n)
def vHeld (D : uT) (p u : Int) : Int := if (0 ≤ p ∧ p ≤ 2000000000) ∧ 0 ≤ u ∧ u ≤ 1 then (if uCnt (D 3) 7 ≤ 3 then (if (hAll D p (uCnt (D 3) 7)).1 = -1 then -5 else if u = 0 then (hAll D p (uCnt (D 3) 7)).1 else (hAll D p (uCnt (D 3) 7)).2) else -6) else -4611686018427387904
theorem z4n {n : Nat} (h : n ≤ 3) : zBin 6 1 (zW (2 * (n : Int))) = ((4 ^ n : Nat) : Int) := by
  have e : zW (2 * (n : Int)) = ((2 * n : Nat) : Int) := by unfold zW; omega
  rw [e, zShl (h := 2 * n) (by omega), Nat.pow_mul]
theorem yc_96 {d : Nat} (p u : Int) : yC (d + 60) 96 [.inl p, .inl u] (fun x => .inr (.inl (vHeld (mD x) p u))) := fun σ Q R q => by
  have q : ∀ x, yE σ x → yRel x → Q (some (.inr (.inl (vHeld (mD σ) p u)))) x := q
  have N16 := (yOk R).2.2.2.2.1
  have cn : uCnt (cTh σ) 7 = uCnt (mD σ 3) 7 := uCnt_congr (fun r hr => ((yTd R).1.2.1 r hr).2)
  by_cases P : (0 ≤ p ∧ p ≤ 2000000000) ∧ 0 ≤ u ∧ u ≤ 1
  case neg =>
    have q := q _ yE_r R
    rw [show vHeld (mD σ) p u = -4611686018427387904 from if_neg P] at q
    exact zb_96 (d := d + 40) (fun a b => absurd ⟨a, b⟩ P) (fun a b => absurd ⟨a, b⟩ P) (fun _ _ => q) (fun _ => q)
  by_cases c3 : uCnt (mD σ 3) 7 ≤ 3
  case neg =>
    have q := q _ yE_r R
    rw [show vHeld (mD σ) p u = -6 from (if_pos P).trans (if_neg c3)] at q
    exact zb_96 (d := d + 40) (fun _ _ c => absurd (show uCnt (mD σ 3) 7 ≤ 3 by rw [← cn]; exact Int.ofNat_le.mp c) c3) (fun _ _ _ => q) (fun _ b => absurd P.2 b) (fun b => absurd P.1 b)
  have F : vHeld (mD σ) p u = (if (hAll (mD σ) p (uCnt (mD σ 3) 7)).1 = -1 then -5 else if u = 0 then (hAll (mD σ) p (uCnt (mD σ 3) 7)).1 else (hAll (mD σ) p (uCnt (mD σ 3) 7)).2) := (if_pos P).trans (if_pos c3)
  rw [F] at q
  clear F
  refine zb_96 (d := d + 40) (fun _ _ _ => ?_) (fun _ _ c => absurd (Int.ofNat_le.mpr (show uCnt (cTh σ) 7 ≤ 3 by rw [cn]; exact c3)) c) (fun _ b => absurd P.2 b) (fun b => absurd P.1 b)
  rw [cn]
  unfold hAll at q
  generalize hn : uCnt (mD σ 3) 7 = n at *
  refine zX_call rfl rfl ?_
  refine ys_0 (d := d + 47) (yOk R) (yTd R) (fun G2 F2 O2 => ?_)
  refine zb_96b (d := d + 40) ?_
  have B64 : 4 ^ n ≤ 64 := Nat.le_trans (Nat.pow_le_pow_right (by decide) c3) (by decide)
  have L := zLoop (P := fun w => ∀ (t : zS) (D1 : uT) (x y : Option zV), yE σ t → yRel t → (∀ f, ¬ f = 7 → D1 f = mD σ f) → (∃ k rd, cFl t 1 D1 k rd) →
    zX (d + 40 + 20) 96 32 [some (.inr (.inr (9, 0))), some (.inl p), some (.inl u), some (.inl (n : Int)), some (.inl (hFold (hSt (mD σ) 3) (hSt (mD σ) 7) p w).1), some (.inr (.inl (hFold (hSt (mD σ) 3) (hSt (mD σ) 7) p w).2)), none, some (.inl (w : Int)), x, y] [] t Q) (k := 0) (N := 4 ^ n) (Nat.zero_le _) (fun t D1 x y E Rt hD C => ?_) (fun w _ hw ih t D1 x y E Rt hD C => ?_)
  · exact L (zG σ G2) (mD σ) none none yE_G (yr_oth R O2) (fun _ _ => rfl) ⟨0, 0, F2⟩
  · have q := q t E Rt
    generalize hFold (hSt (mD σ) 3) (hSt (mD σ) 7) p (4 ^ n) = z at *
    refine zb_96l (d := d + 40) (fun _ => ?_) (fun c => absurd (by rw [z4n c3]; exact Int.le_refl _) c)
    refine zb_96s (d := d + 40) (fun a b => ?_) (fun a b => ?_) (fun a => ?_)
    · rw [if_neg a, if_neg b] at q; exact q
    · rw [if_neg a, if_pos b] at q; exact q
    · rw [if_pos a] at q; exact q
  · have nle : ¬ ((4 ^ n : Nat) : Int) ≤ (w : Int) := Int.not_le.mpr (Int.ofNat_lt.mpr hw)
    have w64 : w < 65536 := Nat.lt_trans (Nat.lt_of_lt_of_le hw B64) (by decide)
    have wz : zW ((w : Int) + 1) = ((w + 1 : Nat) : Int) := zWs (Nat.lt_trans w64 (by decide))
    refine zb_96l (d := d + 40) (fun c => absurd (by rw [z4n c3] at c; exact c) nle) (fun _ => ?_)
    refine zX_call rfl rfl ?_
    refine zs_3 (d := d + 57) w64 ?_
    refine zb_96m (d := d + 40) ?_
    refine zX_call rfl rfl ?_
    refine zs_1 (d := d + 59) (fun G C1 => ?_)
    obtain ⟨Ch, C15⟩ := cRh1_of C1
    obtain ⟨k, rd, Fl⟩ := C
    have T := yTd Rt
    rw [E.1] at T
    have th : ∀ r, r < 7 → cTh t r = mD σ 3 r := fun r hr => (T.1.2.1 r hr).2
    have dg : ∀ r, r < 7 → hDig (cTh t) w r = hDig (mD σ 3) w r := fun r hr => by
      have ca : ∀ j, j ≤ 7 → uCnt (cTh t) j = uCnt (mD σ 3) j := fun j hj => uCnt_congr (fun x hx => th x (Nat.lt_of_lt_of_le hx hj))
      unfold hDig uCa
      rw [ca 7 (Nat.le_refl _), ca (r + 1) hr]
    have D3 : D1 3 = mD σ 3 := hD 3 (by decide)
    have Z := cFl_hel (D := D1) (D' := uHel (mD σ) w) (fun f hf => by rw [uHel_f hf, hD f hf]) (fun r hr ht => by
      rw [D3] at ht
      rw [C15 r hr (by rw [th r hr]; exact ht), dg r hr, (T.1.2.2.1 r hr ht).2.2.2]
      exact (if_pos ⟨rfl, hr, ht⟩).symm) (fun r hr ht => by
      rw [D3] at ht
      rw [(T.1.2.2.1 r hr ht).2.1, hD 5 (by decide)]) Ch Fl
    rw [zG_H]
    have R1 := yr_oth Rt Z.2
    have OK' := yOk_h R w
    refine zb_96n (d := d + 40) ?_
    refine zX_call rfl rfl ?_
    refine ys_2t (d := d + 45) OK' (by decide) (Nat.zero_le _) Z.1 (fun G3 W3 O3 => ?_)
    have R3 := yr_oth R1 O3
    have E3 : yE σ (zG (zG t G) G3) := yE_t E (yE_t yE_G yE_G)
    refine zb_96o (d := d + 40) ?_
    refine zX_call rfl rfl ?_
    refine zs_23 (d := d + 46) OK' W3 (by decide) ?_
    show zX (d + 40 + 20) 96 54 [some (.inr (.inr (9, 0))), some (.inl p), some (.inl u), some (.inl (n : Int)), some (.inl (hFold (hSt (mD σ) 3) (hSt (mD σ) 7) p w).1), some (.inr (.inl (hFold (hSt (mD σ) 3) (hSt (mD σ) 7) p w).2)), none, some (.inl (w : Int)), x, y] [.inr (.inl (hSt (mD σ) 3 w))] (zG (zG t G) G3) Q
    have nxt : ∀ (s' : Int × Int) (x y : Option zV), hFold (hSt (mD σ) 3) (hSt (mD σ) 7) p (w + 1) = s' → zX (d + 40 + 20) 96 74 [some (.inr (.inr (9, 0))), some (.inl p), some (.inl u), some (.inl (n : Int)), some (.inl s'.1), some (.inr (.inl s'.2)), none, some (.inl (w : Int)), x, y] [] (zG (zG t G) G3) Q := fun s' x y es => by
      refine zb_96r (d := d + 40) ?_
      rw [wz, ← es]
      obtain ⟨k', rd', _, _, F'⟩ := W3
      exact ih _ (uHel (mD σ) w) _ _ E3 R3 (fun f hf => uHel_f hf) ⟨k', rd', F'⟩
    have eF : hFold (hSt (mD σ) 3) (hSt (mD σ) 7) p (w + 1) = if ((hFold (hSt (mD σ) 3) (hSt (mD σ) 7) p w).1 = -1 ∨ hSt (mD σ) 3 w < (hFold (hSt (mD σ) 3) (hSt (mD σ) 7) p w).2) ∧ p ≤ hSt (mD σ) 7 w then ((w : Int), hSt (mD σ) 3 w) else hFold (hSt (mD σ) 3) (hSt (mD σ) 7) p w := rfl
    clear ih
    generalize hFold (hSt (mD σ) 3) (hSt (mD σ) 7) p w = z at *
    have try_ : (z.1 = -1 ∨ hSt (mD σ) 3 w < z.2) → zX (d + 40 + 20) 96 65 [some (.inr (.inr (9, 0))), some (.inl p), some (.inl u), some (.inl (n : Int)), some (.inl z.1), some (.inr (.inl z.2)), none, some (.inl (w : Int)), some (.inr (.inl (hSt (mD σ) 3 w))), none] [.inl 7, .inr (.inr (0, 1))] (zG (zG t G) G3) Q := fun cc => by
      refine zX_call rfl rfl ?_
      refine zs_23 (d := d + 46) OK' W3 (by decide) ?_
      show zX (d + 40 + 20) 96 66 [some (.inr (.inr (9, 0))), some (.inl p), some (.inl u), some (.inl (n : Int)), some (.inl z.1), some (.inr (.inl z.2)), none, some (.inl (w : Int)), some (.inr (.inl (hSt (mD σ) 3 w))), none] [.inr (.inl (hSt (mD σ) 7 w))] (zG (zG t G) G3) Q
      refine zb_96q (d := d + 40) (fun a => ?_) (fun a => ?_) (fun a => ?_)
      · exact nxt ((w : Int), hSt (mD σ) 3 w) _ _ (by rw [eF, if_pos ⟨cc, Int.le_of_lt a⟩])
      · exact nxt ((w : Int), hSt (mD σ) 3 w) _ _ (by rw [eF, if_pos ⟨cc, by rw [a]; exact Int.le_refl _⟩])
      · exact nxt z _ _ (by rw [eF, if_neg (fun k => absurd k.2 (Int.not_le.mpr a))])
    have skip_ : ¬ (z.1 = -1 ∨ hSt (mD σ) 3 w < z.2) → ∀ x y, zX (d + 40 + 20) 96 74 [some (.inr (.inr (9, 0))), some (.inl p), some (.inl u), some (.inl (n : Int)), some (.inl z.1), some (.inr (.inl z.2)), none, some (.inl (w : Int)), x, y] [] (zG (zG t G) G3) Q := fun cc x y => nxt z _ _ (by rw [eF, if_neg (fun k => cc k.1)])
    exact zb_96p (d := d + 40) (fun a => try_ (.inl a)) (fun a e => skip_ (fun k => k.elim a (fun k => absurd k (Int.not_lt.mpr (Int.le_of_lt e)))) _ _) (fun a e => skip_ (fun k => k.elim a (fun k => absurd k (by rw [e]; exact Int.lt_irrefl _))) _ _) (fun _ e => try_ (.inr e))
