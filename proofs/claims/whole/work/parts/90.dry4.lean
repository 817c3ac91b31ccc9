-- dry, the class's call (wip/whole/gen/laws62.py)
theorem yc_97 {d : Nat} (s b : Int) : yC (d + 60) 97 [.inl s, .inl b] (fun x => .inl (vDry x s b)) := fun σ Q R q => by
  have q : ∀ x, yE σ x → yRel x → Q (some (.inl (vDry σ s b))) x := q
  obtain ⟨n8, n0, n16⟩ := yN8 R
  have N16 := (yOk R).2.2.2.2.1
  have k8 : σ.1 8 0 8 = (uN (mD σ) : Int) := by
    rw [n8]
    show mD σ 19 0 = ((mD σ 19 0).toNat : Int)
    have : 0 ≤ mD σ 19 0 := n0
    clear q
    omega
  refine zb_97 (d := d + 40) ?_
  refine zX_call rfl rfl ?_
  by_cases P : (0 ≤ s ∧ s < ((2 ^ uN (mD σ) : Nat) : Int)) ∧ nPc 16 s.toNat ≤ 6 ∧ 0 ≤ b ∧ b ≤ 99999
  case neg =>
    have q := q _ yE_r R
    rw [show vDry σ s b = -2 from if_neg P] at q
    refine zs_114 (d := d + 56) k8 N16 (fun a => ?_) (fun _ => ?_)
    · exact zb_97b (d := d + 40) (fun _ c => absurd ⟨a.1, a.2, c.1, c.2⟩ P) (fun _ _ => R) (fun c => absurd c (by decide)) (fun _ c => absurd ⟨a.1, a.2, c.1, c.2⟩ P) (fun _ _ => q)
    · exact zb_97b (d := d + 40) (fun c => absurd rfl c) (fun c => absurd rfl c) (fun _ => q) (fun c => absurd rfl c) (fun c => absurd rfl c)
  refine zs_114 (d := d + 56) k8 N16 (fun _ => ?_) (fun a => absurd ⟨P.1, P.2.1⟩ a)
  obtain ⟨H, rfl⟩ := Int.eq_ofNat_of_zero_le P.1.1
  have p : 2 ^ uN (mD σ) ≤ 65536 := Nat.le_trans (Nat.pow_le_pow_right (by decide) N16) (by decide)
  have H16 : H < 65536 := Nat.lt_of_lt_of_le (Int.ofNat_lt.mp P.1.2) p
  have F : vDry σ (H : Int) b = (dFold H (fun x => uSt (vTot (mD σ)) x (uN (mD σ))) (dOk (mD σ) b) (H + 1)).1 := by
    unfold vDry
    rw [if_pos P, Int.toNat_natCast]
  rw [F] at q
  clear F
  refine zb_97b (d := d + 40) (fun _ _ => by decide) (fun _ _ => R) (fun c => absurd c (by decide)) (fun _ _ G1 W1 R1 O1 => ?_) (fun _ c => absurd ⟨P.2.2.1, P.2.2.2⟩ c)
  refine zX_call rfl rfl ?_
  refine ys_0 (d := d + 47) (yOk R1) (yTd R1) (fun G2 F2 O2 => ?_)
  refine zb_97c (d := d + 40) ?_
  have D0 : mD σ = uDry (mD σ) 0 := by
    have x := mD_dry (σ := σ) (x := 0)
    rw [zU_self R.2.2.2.2.2.2.2.1.2] at x
    exact x
  have pcB : nPc 16 H ≤ 6 := P.2.1
  have B64 : 2 ^ nPc 16 H ≤ 64 := Nat.le_trans (Nat.pow_le_pow_right (by decide) pcB) (by decide)
  have L := zLoop (P := fun i => ∀ (t : zS) (set : Int) (x y : Option zV), yE σ t → yRel t → t.1 8 0 8 = (uN (mD σ) : Int) → cWk t 0 (mD σ) 96 → (∃ (y : Int) (k rd : Nat), cFl t 1 (uDry (mD σ) y) k rd) → (i < 2 ^ nPc 16 H → set = (nPd 16 H i : Int)) →
    zX (d + 40 + 20) 97 28 [some (.inr (.inr (9, 0))), some (.inl (H : Int)), some (.inl b), some (.inl (dFold H (fun x => uSt (vTot (mD σ)) x (uN (mD σ))) (dOk (mD σ) b) (dAt H i)).1), some (.inr (.inl (dFold H (fun x => uSt (vTot (mD σ)) x (uN (mD σ))) (dOk (mD σ) b) (dAt H i)).2)), none, some (.inl set), some (.inl (i : Int)), x, y] [] t Q) (k := 0) (N := 2 ^ nPc 16 H) (Nat.zero_le _) (fun t set x y E Rt t8 W C hs => ?_) (fun i _ hi ih t set x y E Rt t8 W C hs => ?_)
  · have L := L (zG (zG σ G1) G2) 0 none none (yE_t yE_G yE_G) (yr_oth R1 O2) k8 (cWk_oth N16 O2 W1) ⟨0, 0, 0, by rw [← D0]; exact F2⟩ (fun _ => by rw [nPd_0]; rfl)
    rw [dAt_0] at L
    exact L
  · refine zb_97l (d := d + 40) ?_
    refine zX_call rfl rfl ?_
    refine zs_189 (d := d + 59) H16 ?_
    have z1 : zBin 6 1 (nPc 16 H : Int) = ((2 ^ nPc 16 H : Nat) : Int) := zShl (Nat.lt_of_le_of_lt pcB (by decide))
    refine zb_97m (d := d + 40) (fun _ => ?_) (fun c => absurd (by rw [z1]; exact Int.le_refl _) c)
    rw [dAt_t _ (Nat.lt_irrefl _)]
    exact q _ E Rt
  · refine zb_97l (d := d + 40) ?_
    refine zX_call rfl rfl ?_
    refine zs_189 (d := d + 59) H16 ?_
    have z1 : zBin 6 1 (nPc 16 H : Int) = ((2 ^ nPc 16 H : Nat) : Int) := zShl (Nat.lt_of_le_of_lt pcB (by decide))
    have nle : ¬ ((2 ^ nPc 16 H : Nat) : Int) ≤ (i : Int) := Int.not_le.mpr (Int.ofNat_lt.mpr hi)
    refine zb_97m (d := d + 40) (fun c => absurd (by rw [z1] at c; exact c) nle) (fun _ => ?_)
    have hs' := hs hi
    subst hs'
    have xl : nPd 16 H i < 65536 := nPd_lt 16 H i
    have iz : zW ((i : Int) + 1) = ((i + 1 : Nat) : Int) := zWs (Nat.lt_trans (Nat.lt_of_lt_of_le hi B64) (by decide))
    refine zX_call rfl rfl ?_
    refine zs_118 (d := d + 47) (g := vTot (mD σ)) t8 N16 xl (fun h hh => cw_tot W hh) ?_
    have eA : dAt H i = nPd 16 H i := if_pos hi
    have eS := dAt_s (g := fun x => uSt (vTot (mD σ)) x (uN (mD σ))) (ok := dOk (mD σ) b) H16 hi
    -- what the next round begins with
    have go : ∀ (t' : zS) (s' : Int × Int) (x' : Int), yE σ t' → yRel t' → t'.1 8 0 8 = (uN (mD σ) : Int) → cWk t' 0 (mD σ) 96 → (∃ (y : Int) (k rd : Nat), cFl t' 1 (uDry (mD σ) y) k rd) → dFold H (fun x => uSt (vTot (mD σ)) x (uN (mD σ))) (dOk (mD σ) b) (nPd 16 H i + 1) = s' →
        zX (d + 40 + 20) 97 55 [some (.inr (.inr (9, 0))), some (.inl (H : Int)), some (.inl b), some (.inl s'.1), some (.inr (.inl s'.2)), none, some (.inl (nPd 16 H i : Int)), some (.inl (i : Int)), some (.inr (.inl x')), none] [] t' Q := fun t' s' x' E' R' t8' W' C' es => by
      refine zb_97q (d := d + 40) ?_
      rw [iz, ← es, ← eS]
      refine ih t' _ _ _ E' R' t8' W' C' (fun c => ?_)
      have nx := nPd_nx 16 H i 4294967296 H16 c ⟨65536, rfl⟩ (by decide)
      have hb : (nPd 16 H i + 4294967296 - H) &&& H < 65536 := by rw [nx]; exact nPd_lt 16 H (i + 1)
      rw [zSubm xl H16 hb, nx]
    have eF : dFold H (fun x => uSt (vTot (mD σ)) x (uN (mD σ))) (dOk (mD σ) b) (nPd 16 H i + 1) = if ((dFold H (fun x => uSt (vTot (mD σ)) x (uN (mD σ))) (dOk (mD σ) b) (nPd 16 H i)).1 = -1 ∨ uSt (vTot (mD σ)) (nPd 16 H i) (uN (mD σ)) < (dFold H (fun x => uSt (vTot (mD σ)) x (uN (mD σ))) (dOk (mD σ) b) (nPd 16 H i)).2) ∧ dOk (mD σ) b (nPd 16 H i) = true then ((nPd 16 H i : Int), uSt (vTot (mD σ)) (nPd 16 H i) (uN (mD σ))) else dFold H (fun x => uSt (vTot (mD σ)) x (uN (mD σ))) (dOk (mD σ) b) (nPd 16 H i) := if_pos (nPd_sub 16 H i)
    rw [eA]
    generalize dFold H (fun x => uSt (vTot (mD σ)) x (uN (mD σ))) (dOk (mD σ) b) (nPd 16 H i) = w at *
    have l0 : ∀ r, r < 7 → ¬ mD σ 3 r = 0 → t.1 3 (7 * 0 + r) 2 = mD σ 5 r := fun r hr ht => by
      have T := (yTd Rt).1.2.2.1 r hr
      rw [E.1] at T
      exact (T ht).2.1
    have try_ : (w.1 = -1 ∨ uSt (vTot (mD σ)) (nPd 16 H i) (uN (mD σ)) < w.2) → zX (d + 40 + 20) 97 45 [some (.inr (.inr (9, 0))), some (.inl (H : Int)), some (.inl b), some (.inl w.1), some (.inr (.inl w.2)), none, some (.inl (nPd 16 H i : Int)), some (.inl (i : Int)), some (.inr (.inl (uSt (vTot (mD σ)) (nPd 16 H i) (uN (mD σ))))), none] [] t Q := fun c => by
      refine zb_97o (d := d + 40) ?_
      refine zX_call rfl rfl ?_
      obtain ⟨y, k, rd, Fl⟩ := C
      refine zs_5 (d := d + 43) (yOk_d R xl).1 xl l0 Fl (fun G k' rd' _ F' O' A => ?_) (fun G k' rd' _ F' O' A => ?_)
      · refine zb_97p (d := d + 40) (fun a => absurd a (by decide)) (fun _ => ?_)
        exact go (zG t G) ((nPd 16 H i : Int), uSt (vTot (mD σ)) (nPd 16 H i) (uN (mD σ))) _ (yE_t E yE_G) (yr_oth Rt O') t8 (cWk_oth N16 O' W) ⟨_, _, _, F'⟩ (by rw [eF, if_pos ⟨c, dOk_i.mpr A⟩])
      · refine zb_97p (d := d + 40) (fun _ => ?_) (fun a => absurd rfl a)
        exact go (zG t G) w _ (yE_t E yE_G) (yr_oth Rt O') t8 (cWk_oth N16 O' W) ⟨_, _, _, F'⟩ (by rw [eF, if_neg (fun k => A (dOk_i.mp k.2))])
    have skip_ : ¬ (w.1 = -1 ∨ uSt (vTot (mD σ)) (nPd 16 H i) (uN (mD σ)) < w.2) → zX (d + 40 + 20) 97 55 [some (.inr (.inr (9, 0))), some (.inl (H : Int)), some (.inl b), some (.inl w.1), some (.inr (.inl w.2)), none, some (.inl (nPd 16 H i : Int)), some (.inl (i : Int)), some (.inr (.inl (uSt (vTot (mD σ)) (nPd 16 H i) (uN (mD σ))))), none] [] t Q := fun c =>
      go t w _ E Rt t8 W C (by rw [eF, if_neg (fun k => c k.1)])
    exact zb_97n (d := d + 40) (fun c => try_ (.inl c)) (fun c e => skip_ (fun k => k.elim c (fun k => absurd k (Int.not_lt.mpr (Int.le_of_lt e))))) (fun c e => skip_ (fun k => k.elim c (fun k => absurd k (by rw [e]; exact Int.lt_irrefl _)))) (fun _ e => try_ (.inr e))
