-- dry, the call (wip/whole/gen/laws64.py)
theorem nPc_0 : ∀ w, nPc w 0 = 0
  | 0 => rfl
  | w + 1 => by
    show 0 % 2 + nPc w (0 / 2) = 0
    rw [show 0 / 2 = 0 from rfl, nPc_0 w]
theorem nPc_mod {w x : Nat} : nPc w (x % 2 ^ w) = nPc w x := by
  have a := nPc_add w 0 x
  have b : nPc 0 (x / 2 ^ w) = 0 := rfl
  rw [Nat.add_zero, b] at a
  omega
theorem nPc_s {w x : Nat} : nPc (w + 1) x = nPc w x + x / 2 ^ w % 2 := by
  rw [nPc_add w 1 x, nPc_mod]
  rfl
theorem nPc_w {N x : Nat} (hN : N ≤ 16) (hx : x < 2 ^ N) : nPc 16 x = nPc N x := by
  have a := nPc_add N (16 - N) x
  rw [Nat.div_eq_of_lt hx, nPc_0, nPc_mod, show N + (16 - N) = 16 by omega] at a
  exact a
theorem nSub {x H : Nat} (hx : x < 65536) : (x &&& (H ^^^ 65535) = 0 ↔ x &&& H = x) := by
  have hi : ∀ i, 16 ≤ i → x.testBit i = false := fun i h => Nat.testBit_lt_two_pow (Nat.lt_of_lt_of_le hx (Nat.pow_le_pow_right (n := 2) (by decide) h))
  have lo : ∀ i, i < 16 → (65535 : Nat).testBit i = true := by decide
  constructor
  · intro h
    apply Nat.eq_of_testBit_eq
    intro i
    have t : (x &&& (H ^^^ 65535)).testBit i = false := by rw [h, Nat.zero_testBit]
    rw [Nat.testBit_and, Nat.testBit_xor] at t
    rw [Nat.testBit_and]
    by_cases c : i < 16
    · rw [lo i c] at t
      revert t
      cases x.testBit i <;> cases H.testBit i <;> decide
    · rw [hi i (by omega)]; rfl
  · intro h
    apply Nat.eq_of_testBit_eq
    intro i
    have t : (x &&& H).testBit i = x.testBit i := by rw [h]
    rw [Nat.testBit_and] at t
    rw [Nat.testBit_and, Nat.testBit_xor, Nat.zero_testBit]
    by_cases c : i < 16
    · rw [lo i c]
      revert t
      cases x.testBit i <;> cases H.testBit i <;> decide
    · rw [hi i (by omega)]; rfl
theorem nSubb {x H : Nat} (hx : x < 65536) : ∀ i, i < 32 → (x &&& (H ^^^ 65535)).testBit i = (x.testBit i && !H.testBit i) := by
  have hi : ∀ i, 16 ≤ i → x.testBit i = false := fun i h => Nat.testBit_lt_two_pow (Nat.lt_of_lt_of_le hx (Nat.pow_le_pow_right (n := 2) (by decide) h))
  have lo : ∀ i, i < 16 → (65535 : Nat).testBit i = true := by decide
  intro i _
  rw [Nat.testBit_and, Nat.testBit_xor]
  by_cases c : i < 16
  · rw [lo i c]; cases H.testBit i <;> rfl
  · rw [hi i (by omega)]; rfl
theorem nPc_le : ∀ w x, nPc w x ≤ w
  | 0, _ => Nat.le_refl _
  | w + 1, x => by
    have I := nPc_le w (x / 2)
    show x % 2 + nPc w (x / 2) ≤ w + 1
    omega
theorem zSubs {x H : Nat} (hx : x < 65536) (hH : H < 65536) : zBin 3 (x : Int) (zBin 5 (H : Int) (-1)) = ((x &&& (H ^^^ 65535) : Nat) : Int) := by
  have e2 : zBin 5 (H : Int) (-1) = (~~~ nI H).toInt := by
    show (nI H ^^^ Int32.ofInt (-1)).toInt = _
    rw [zNxor]
  rw [e2]
  show (nI x &&& Int32.ofInt (~~~ nI H).toInt).toInt = _
  rw [Int32.ofInt_toInt, zNandn _ _ (x &&& (H ^^^ 65535)) (nSubb hx)]
  exact nI_toInt (Nat.lt_of_le_of_lt Nat.and_le_left (Nat.lt_trans hx (by decide)))
theorem zD_may {d : Nat} {t : zS} {Q : Option zV → zS → Prop} {s b n best least x sum : Int} {D : uT} {k : Nat} (hs : ∀ m, m < 96 → mSharp t m = vShp (uDry D (k : Int)) m)
    (q1 : dOk D b k = true → ∀ m : Int, zX (d + 10) 182 116 [some (.inr (.inr (10, 0))), some (.inl s), some (.inl b), some (.inl n), some (.inl best), some (.inr (.inl least)), none, some (.inl x), some (.inr (.inl sum)), none, some (.inl 1), some (.inl m)] [] t Q)
    (q0 : ¬ dOk D b k = true → ∀ m : Int, zX (d + 10) 182 116 [some (.inr (.inr (10, 0))), some (.inl s), some (.inl b), some (.inl n), some (.inl best), some (.inr (.inl least)), none, some (.inl x), some (.inr (.inl sum)), none, some (.inl 0), some (.inl m)] [] t Q) :
    zX (d + 10) 182 100 [some (.inr (.inr (10, 0))), some (.inl s), some (.inl b), some (.inl n), some (.inl best), some (.inr (.inl least)), none, some (.inl x), some (.inr (.inl sum)), none, some (.inl 1), some (.inl 0)] [] t Q := by
  have L := zLoop (P := fun m => (∀ j, j < m → vShp (uDry D (k : Int)) j ≤ b) → zX (d + 10) 182 100 [some (.inr (.inr (10, 0))), some (.inl s), some (.inl b), some (.inl n), some (.inl best), some (.inr (.inl least)), none, some (.inl x), some (.inr (.inl sum)), none, some (.inl 1), some (.inl (m : Int))] [] t Q) (k := 0) (N := 96) (Nat.zero_le _) (fun A => ?_) (fun m _ hm ih A => ?_)
  · exact L (fun j hj => absurd hj (Nat.not_lt_zero _))
  · exact zb_182g (fun c => absurd (by decide) c) (fun _ => q1 (dOk_i.mpr A) _) (fun c => absurd (by decide) c) (fun c => absurd (by decide) c) (fun c => absurd (by decide) c)
  · have nl : ¬ (96 : Int) ≤ (m : Int) := by clear q1 q0 ih; omega
    have im : (0 : Int) ≤ (m : Int) ∧ (m : Int) < 96 := by clear q1 q0 ih; omega
    have hz : zW ((m : Int) + 1) = ((m + 1 : Nat) : Int) := zWs (by clear q1 q0 ih; omega)
    have sh := hs m hm
    refine zb_182g (fun _ _ => im) (fun c => absurd c nl) (fun _ c => absurd c (by decide)) (fun _ _ c => ?_) (fun _ _ c => ?_)
    · have c : b < mSharp t m := c
      rw [sh] at c
      have no : ¬ dOk D b k = true := fun o => absurd (dOk_i.mp o m hm) (Int.not_le.mpr c)
      by_cases g : (96 : Int) ≤ zW ((m : Int) + 1)
      · exact zb_182g (fun x => absurd g x) (fun _ => q0 no _) (fun x => absurd g x) (fun x => absurd g x) (fun x => absurd g x)
      · exact zb_182g (fun _ x => absurd rfl x) (fun x => absurd x g) (fun _ _ => q0 no _) (fun _ x => absurd rfl x) (fun _ x => absurd rfl x)
    · have c : ¬ b < mSharp t m := c
      rw [sh] at c
      rw [hz]
      exact ih (fun j hj => by
        by_cases e : j = m
        · rw [e]; exact Int.not_lt.mp c
        · exact A j (by clear q1 q0; omega))
theorem zD_sum {d : Nat} {t : zS} {Q : Option zV → zS → Prop} {s b n best least : Int} {x N : Nat} {g : Nat → Int} {x0 : Option zV} (n4 : t.1 10 0 4 = (N : Int)) (N16 : N ≤ 16) (hx : x < 65536) (e0 : ∀ h, h < N → t.2 101 0 h = g h)
    (q : zX (d + 10) 182 80 [some (.inr (.inr (10, 0))), some (.inl s), some (.inl b), some (.inl n), some (.inl best), some (.inr (.inl least)), none, some (.inl (x : Int)), some (.inr (.inl (uSt g x N))), none, some (.inl (N : Int)), x0] [] t Q) :
    zX (d + 10) 182 60 [some (.inr (.inr (10, 0))), some (.inl s), some (.inl b), some (.inl n), some (.inl best), some (.inr (.inl least)), none, some (.inl (x : Int)), some (.inr (.inl 0)), none, some (.inl 0), x0] [] t Q := by
  refine zLoop (P := fun h => zX (d + 10) 182 60 [some (.inr (.inr (10, 0))), some (.inl s), some (.inl b), some (.inl n), some (.inl best), some (.inr (.inl least)), none, some (.inl (x : Int)), some (.inr (.inl (uSt g x h))), none, some (.inl (h : Int)), x0] [] t Q) (k := 0) (N := N) (Nat.zero_le _) ?_ (fun h _ hh ih => ?_)
  · have le : t.1 10 0 4 ≤ (N : Int) := Int.le_of_eq n4
    exact zb_182d (fun a => absurd le a) (fun _ => q) (fun a => absurd le a) (fun a => absurd le a)
  · have nl : ¬ t.1 10 0 4 ≤ (h : Int) := by rw [n4]; clear q ih; omega
    have h16 : h < 16 := Nat.lt_of_lt_of_le hh N16
    have hz : zW ((h : Int) + 1) = ((h + 1 : Nat) : Int) := zWs (by clear q ih; omega)
    have ir : (0 : Int) ≤ (h : Int) ∧ (h : Int) < 17 := by clear q ih; omega
    have zb := zBit_1 hx h16
    refine zb_182d (fun _ _ => ir) (fun a => absurd a nl) (fun _ c => ?_) (fun _ c => ?_)
    · have e : uSt g x (h + 1) = uSt g x h := if_neg (fun k => c (zb.mpr k))
      rw [e] at ih
      rw [hz]; exact ih
    · have e : uSt g x (h + 1) = zWl (uSt g x h + g h) := if_pos (zb.mp c)
      rw [e, ← e0 h hh] at ih
      rw [hz]; exact ih
theorem zD_cnt {d : Nat} {t : zS} {Q : Option zV → zS → Prop} {b : Int} {H N : Nat} (n4 : t.1 10 0 4 = (N : Int)) (N16 : N ≤ 16) (hH : H < 65536)
    (q : zX (d + 10) 182 19 [some (.inr (.inr (10, 0))), some (.inl (H : Int)), some (.inl b), some (.inl (nPc N H : Int)), some (.inl (N : Int)), none, none, none, none, none, none, none] [] t Q) :
    zX (d + 10) 182 19 [some (.inr (.inr (10, 0))), some (.inl (H : Int)), some (.inl b), some (.inl 0), some (.inl 0), none, none, none, none, none, none, none] [] t Q := by
  refine zLoop (P := fun h => zX (d + 10) 182 19 [some (.inr (.inr (10, 0))), some (.inl (H : Int)), some (.inl b), some (.inl (nPc h H : Int)), some (.inl (h : Int)), none, none, none, none, none, none, none] [] t Q) (k := 0) (N := N) (Nat.zero_le _) q (fun h _ hh ih => ?_)
  have nl : ¬ t.1 10 0 4 ≤ (h : Int) := by rw [n4]; clear q ih; omega
  have h16 : h < 16 := Nat.lt_of_lt_of_le hh N16
  have hz : zW ((h : Int) + 1) = ((h + 1 : Nat) : Int) := zWs (by clear q ih; omega)
  have hb := nPc_le h H
  have e : zW ((nPc h H : Int) + ((H / 2 ^ h % 2 : Nat) : Int)) = ((nPc (h + 1) H : Nat) : Int) := by
    rw [nPc_s]
    have : H / 2 ^ h % 2 < 2 := Nat.mod_lt _ (by decide)
    generalize H / 2 ^ h % 2 = y at *
    generalize nPc h H = z at *
    clear q ih hz
    unfold zW; omega
  refine zb_182a (fun a => absurd a nl) (fun a => absurd a nl) (fun _ => ?_)
  rw [zBit (by clear q ih hz e; omega) (by clear q ih hz e; omega), e, hz]
  exact ih
theorem ym_182 {d : Nat} (s b : Int) : yM (d + 60) 182 [.inl s, .inl b] (fun x => .inl (vDry x s b)) := fun σ Q R q => by
  have q : ∀ x, yRel x → Q (some (.inl (vDry σ s b))) x := q
  obtain ⟨n8, n0, n16⟩ := yN8 R
  have N16 := (yOk R).2.2.2.2.1
  have k4 : σ.1 10 0 4 = (uN (mD σ) : Int) := by
    show mD σ 19 0 = ((mD σ 19 0).toNat : Int)
    have : 0 ≤ mD σ 19 0 := n0
    clear q
    omega
  have zs : zBin 6 1 (uN (mD σ) : Int) = ((2 ^ uN (mD σ) : Nat) : Int) := zShl (Nat.lt_of_le_of_lt N16 (by decide))
  have p : 2 ^ uN (mD σ) ≤ 65536 := Nat.le_trans (Nat.pow_le_pow_right (by decide) N16) (by decide)
  by_cases A : (0 ≤ s ∧ s < ((2 ^ uN (mD σ) : Nat) : Int)) ∧ 0 ≤ b ∧ b ≤ 99999
  case neg =>
    have q := q _ R
    rw [show vDry σ s b = -2 from if_neg (fun k => A ⟨k.1, k.2.2⟩)] at q
    exact zb_182 (d := d + 50) (fun _ => q) (fun _ _ => q) (fun _ _ _ => q) (fun a1 a2 a3 a4 => absurd ⟨⟨Int.not_lt.mp a1, by rw [k4, zs] at a2; exact Int.not_le.mp a2⟩, Int.not_lt.mp a3, a4⟩ A) (fun _ _ _ _ => q)
  obtain ⟨⟨A1, A2⟩, A3, A4⟩ := A
  obtain ⟨H, rfl⟩ := Int.eq_ofNat_of_zero_le A1
  have HN : H < 2 ^ uN (mD σ) := Int.ofNat_lt.mp A2
  have H16 : H < 65536 := Nat.lt_of_lt_of_le HN p
  have ew := nPc_w N16 HN
  refine zb_182 (d := d + 50) (fun c => absurd A1 (Int.not_le.mpr c)) (fun _ c => absurd A2 (by rw [k4, zs] at c; exact Int.not_lt.mpr c)) (fun _ _ c => absurd A3 (Int.not_le.mpr c)) (fun _ _ _ _ => ?_) (fun _ _ _ c => absurd A4 c)
  refine zD_cnt (d := d + 50) k4 N16 H16 ?_
  have le4 : σ.1 10 0 4 ≤ (uN (mD σ) : Int) := Int.le_of_eq k4
  by_cases c6 : nPc 16 H ≤ 6
  case neg =>
    have q := q _ R
    rw [show vDry σ (H : Int) b = -2 from if_neg (fun k => c6 k.2.1)] at q
    exact zb_182a (d := d + 50) (fun _ c => absurd (show nPc 16 H ≤ 6 by rw [ew]; exact Int.ofNat_le.mp c) c6) (fun _ _ => q) (fun c => absurd le4 c)
  have F : vDry σ (H : Int) b = (dFold H (fun x => uSt (vTot (mD σ)) x (uN (mD σ))) (dOk (mD σ) b) (H + 1)).1 := by
    unfold vDry
    rw [if_pos ⟨⟨A1, A2⟩, c6, A3, A4⟩, Int.toNat_natCast]
  rw [F] at q
  clear F
  refine zb_182a (d := d + 50) (fun _ _ => ?_) (fun _ c => absurd (Int.ofNat_le.mpr (show nPc (uN (mD σ)) H ≤ 6 by rw [← ew]; exact c6)) c) (fun c => absurd le4 c)
  refine zb_182b (d := d + 50) ?_
  refine zX_call rfl rfl ?_
  refine zs_174 (d := d + 52) R (fun τ M R1 => ?_)
  refine zb_182b2 (d := d + 50) ?_
  generalize (nPc (uN (mD σ)) H : Int) = n at *
  have L := zLoop (P := fun k => ∀ (t : zS) (x0 x1 x2 x3 : Option zV), yRel t → mD t = mD σ → (∀ h, h < uN (mD σ) → t.2 101 0 h = vTot (mD σ) h) →
    zX (d + 50 + 10) 182 46 [some (.inr (.inr (10, 0))), some (.inl (H : Int)), some (.inl b), some (.inl n), some (.inl (dFold H (fun x => uSt (vTot (mD σ)) x (uN (mD σ))) (dOk (mD σ) b) k).1), some (.inr (.inl (dFold H (fun x => uSt (vTot (mD σ)) x (uN (mD σ))) (dOk (mD σ) b) k).2)), none, some (.inl (k : Int)), x0, x1, x2, x3] [] t Q) (k := 0) (N := H + 1) (Nat.zero_le _) (fun t x0 x1 x2 x3 Rt et e0 => ?_) (fun k _ hk ih t x0 x1 x2 x3 Rt et e0 => ?_)
  · exact L (zFL (yR σ τ) 101 (uN (mD σ)) (vTot (mD σ))) _ _ _ _ R1 rfl (fun h hh => if_pos ⟨rfl, rfl, hh⟩)
  · have lt : (H : Int) < ((H + 1 : Nat) : Int) := Int.ofNat_lt.mpr (Nat.lt_succ_self H)
    exact zb_182c (d := d + 50) (fun _ => q t Rt) (fun c => absurd lt c)
  · have nl : ¬ (H : Int) < (k : Int) := Int.not_lt.mpr (Int.ofNat_le.mpr (Nat.le_of_lt_succ hk))
    have kH : k ≤ H := Nat.le_of_lt_succ hk
    have k16 : k < 65536 := Nat.lt_of_le_of_lt kH H16
    have hz : zW ((k : Int) + 1) = ((k + 1 : Nat) : Int) := zWs (Nat.lt_trans k16 (by decide))
    have t4 : t.1 10 0 4 = (uN (mD σ) : Int) := by
      have x : mD t 19 0 = mD σ 19 0 := by rw [et]
      exact (show t.1 10 0 4 = mD σ 19 0 from x).trans k4
    refine zb_182c (d := d + 50) (fun c => absurd c nl) (fun _ => ?_)
    refine zb_182c2 (d := d + 50) ?_
    rw [zSubs k16 H16]
    by_cases c : k &&& H = k
    case neg =>
      have nz : ¬ ((k &&& (H ^^^ 65535) : Nat) : Int) = 0 := fun z => c ((nSub k16).mp (Int.ofNat.inj z))
      refine zb_182c3 (d := d + 50) (fun z => absurd z nz) (fun _ => ?_)
      refine zb_182i (d := d + 50) ?_
      have e : dFold H (fun x => uSt (vTot (mD σ)) x (uN (mD σ))) (dOk (mD σ) b) (k + 1) = dFold H (fun x => uSt (vTot (mD σ)) x (uN (mD σ))) (dOk (mD σ) b) k := if_neg c
      rw [e] at ih
      rw [hz]
      exact ih t _ _ _ _ Rt et e0
    have z0 : ((k &&& (H ^^^ 65535) : Nat) : Int) = 0 := by rw [(nSub k16).mpr c]; rfl
    refine zb_182c3 (d := d + 50) (fun _ => ?_) (fun z => absurd z0 z)
    refine zD_sum (d := d + 50) t4 N16 k16 e0 ?_
    have eF : dFold H (fun x => uSt (vTot (mD σ)) x (uN (mD σ))) (dOk (mD σ) b) (k + 1) = if ((dFold H (fun x => uSt (vTot (mD σ)) x (uN (mD σ))) (dOk (mD σ) b) k).1 = -1 ∨ uSt (vTot (mD σ)) k (uN (mD σ)) < (dFold H (fun x => uSt (vTot (mD σ)) x (uN (mD σ))) (dOk (mD σ) b) k).2) ∧ dOk (mD σ) b k = true then ((k : Int), uSt (vTot (mD σ)) k (uN (mD σ))) else dFold H (fun x => uSt (vTot (mD σ)) x (uN (mD σ))) (dOk (mD σ) b) k := if_pos c
    rw [eF] at ih
    generalize dFold H (fun x => uSt (vTot (mD σ)) x (uN (mD σ))) (dOk (mD σ) b) k = w at *
    have skip_ : ¬ (w.1 = -1 ∨ uSt (vTot (mD σ)) k (uN (mD σ)) < w.2) → ∀ x0 x1 x2 x3, zX (d + 50 + 10) 182 123 [some (.inr (.inr (10, 0))), some (.inl (H : Int)), some (.inl b), some (.inl n), some (.inl w.1), some (.inr (.inl w.2)), none, some (.inl (k : Int)), x0, x1, x2, x3] [] t Q := fun cc x0 x1 x2 x3 => by
      refine zb_182i (d := d + 50) ?_
      rw [if_neg (fun z => cc z.1)] at ih
      rw [hz]
      exact ih t _ _ _ _ Rt et e0
    have try_ : (w.1 = -1 ∨ uSt (vTot (mD σ)) k (uN (mD σ)) < w.2) → ∀ x0 x1, zX (d + 50 + 10) 182 92 [some (.inr (.inr (10, 0))), some (.inl (H : Int)), some (.inl b), some (.inl n), some (.inl w.1), some (.inr (.inl w.2)), none, some (.inl (k : Int)), some (.inr (.inl (uSt (vTot (mD σ)) k (uN (mD σ))))), none, x0, x1] [.inr (.inr (10, 0))] (zU t 10 0 66 (k : Int)) Q := fun cc x0 x1 => by
      refine zX_call rfl rfl ?_
      refine zs_158 (d := d + 53) (yOk_d Rt k16).2 (fun τ2 M2 => ?_)
      refine zb_182f (d := d + 50) ?_
      have e2 : zU (yR (zU t 10 0 66 (k : Int)) τ2) 10 0 66 0 = yR t τ2 := by
        rw [yR_Un (by decide), zU_U]
        exact zU_self Rt.2.2.2.2.2.2.2.1.2
      rw [e2]
      refine zD_may (d := d + 50) (D := mD σ) (k := k) (fun m hm => ?_) (fun o m => ?_) (fun o m => ?_)
      · have x := mr_shp M2 hm
        rw [mD_dry, et] at x
        exact x
      · refine zb_182h (d := d + 50) (fun _ => ?_) (fun z => absurd z (by decide))
        refine zb_182i (d := d + 50) ?_
        rw [if_pos ⟨cc, o⟩] at ih
        rw [hz]
        exact ih (yR t τ2) _ _ _ _ Rt et e0
      · refine zb_182h (d := d + 50) (fun z => absurd rfl z) (fun _ => ?_)
        refine zb_182i (d := d + 50) ?_
        rw [if_neg (fun z => o z.2)] at ih
        rw [hz]
        exact ih (yR t τ2) _ _ _ _ Rt et e0
    exact zb_182e (d := d + 50) (fun z => try_ (.inl z) _ _) (fun z e => skip_ (fun k => k.elim z (fun k => absurd k (Int.not_lt.mpr (Int.le_of_lt e)))) _ _ _ _) (fun z e => skip_ (fun k => k.elim z (fun k => absurd k (by rw [e]; exact Int.lt_irrefl _))) _ _ _ _) (fun _ e => try_ (.inr e) _ _)
theorem yp_dry {d : Nat} {σ : zS} (R : yRel σ) (s b : Int) : yPi d 97 182 [.inl s, .inl b] σ :=
  yp_of (f := fun x => vDry x s b) (yc_97 s b) (ym_182 s b) (fun σ x E => by
    show vDry x s b = vDry σ s b
    unfold vDry
    rw [E.1]) R
