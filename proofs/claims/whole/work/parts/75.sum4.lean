-- sum, the calls (wip/whole/gen/laws50.py)
theorem uSum_p {f : Nat → Int} {B : Int} {n k : Nat} (hB : 0 ≤ B) (hk : k ≤ n) (h : ∀ k, k < n → -B ≤ f k ∧ f k ≤ B) : -(B * (n : Int)) ≤ uSum f k ∧ uSum f k ≤ B * (n : Int) := by
  have a := uSum_ab (f := f) (B := B) (n := k) (fun j hj => h j (by omega))
  have b : B * (k : Int) ≤ B * (n : Int) := Int.mul_le_mul_of_nonneg_left (by omega) hB
  generalize B * (k : Int) = x at *
  generalize B * (n : Int) = y at *
  omega
theorem zS169m {d : Nat} {σ τ : zS} {Q : Option zV → zS → Prop} {w v : Int} {m : Nat} {x : Option zV} (R : yRel σ) (O : uOk (mD σ)) (M : mRun σ τ 96 0) (m96 : m < 96) (hv : -100000000000000 ≤ v ∧ v ≤ 100000000000000)
    (q : ∀ x y, z169 d 13 w (v + uSum (vQ (mD σ) w m) 7 + uSum (vT (mD σ) w m) (uN (mD σ))) ((m + 1 : Nat) : Int) x y (yR σ τ) Q) : ∀ y, z169 d 30 w v (m : Int) x y (yR σ τ) Q := by
  intro y
  have N := O.2.2.2.2.1
  have n4 : (yR σ τ).1 10 0 4 = (uN (mD σ) : Int) := by
    have n := (yN8 R).2.1
    show mD σ 19 0 = _
    unfold uN
    have : 0 ≤ mD σ 19 0 := n
    omega
  have bQ : ∀ r, r ≤ 7 → -15032385536 ≤ uSum (vQ (mD σ) w m) r ∧ uSum (vQ (mD σ) w m) r ≤ 15032385536 := fun r hr => uSum_p (B := 2147483648) (n := 7) (by decide) hr (fun k hk => vQ_b O m96 hk)
  have bT : ∀ h, h ≤ uN (mD σ) → -34359738368 ≤ uSum (vT (mD σ) w m) h ∧ uSum (vT (mD σ) w m) h ≤ 34359738368 := fun h hh => by
    have a := uSum_p (f := vT (mD σ) w m) (B := 2147483648) (n := uN (mD σ)) (by decide) hh (fun k hk => vT_b O m96 hk)
    clear q bQ
    generalize uSum (vT (mD σ) w m) h = z at *
    generalize uN (mD σ) = n at *
    clear n4 R O M
    omega
  have mz : zW ((m : Int) + 1) = ((m + 1 : Nat) : Int) := zWs (by clear q bQ bT; omega)
  refine zb_169r ?_
  have L := zLoop (P := fun r => ∀ y : Option zV, z169 d 32 w (v + uSum (vQ (mD σ) w m) r) (m : Int) (some (.inl (r : Int))) y (yR σ τ) Q) (k := 0) (N := 7) (by omega) (fun y => ?_) (fun r _ hr ih y => ?_)
  · have L : z169 d 32 w (v + 0) (m : Int) (some (.inl ((0 : Nat) : Int))) y (yR σ τ) Q := L y
    rw [Int.add_zero] at L
    exact L
  · refine zb_169a (fun _ => ?_) (fun a => absurd (by decide) a)
    refine zb_169f ?_
    have bq := bQ 7 (Nat.le_refl _)
    have I := zLoop (P := fun h => ∀ y : Option zV, z169 d 98 w (v + uSum (vQ (mD σ) w m) 7 + uSum (vT (mD σ) w m) h) (m : Int) (some (.inl (h : Int))) y (yR σ τ) Q) (k := 0) (N := uN (mD σ)) (Nat.zero_le _) (fun y => ?_) (fun h _ hh ih y => ?_)
    · have I : z169 d 98 w (v + uSum (vQ (mD σ) w m) 7 + 0) (m : Int) (some (.inl ((0 : Nat) : Int))) y (yR σ τ) Q := I y
      rw [Int.add_zero] at I
      exact I
    · refine zb_169g (fun _ => ?_) (fun a => absurd (by rw [n4]; exact Int.le_refl _) a)
      rw [mz]
      exact q _ _
    · have nl : ¬ (uN (mD σ) : Int) ≤ (h : Int) := by clear q bQ bT bq ih; omega
      have zx : zW ((zW (17 * (m : Int))) + (h : Int)) = ((17 * m + h : Nat) : Int) := by
        have h16 : h < 16 := Nat.lt_of_lt_of_le hh N
        clear q bQ bT bq ih mz n4 nl hv R O M hh N
        unfold zW; omega
      refine zb_169g (fun a => absurd a (by rw [n4]; exact nl)) (fun _ => ?_)
      rw [zx]
      refine zS169h O M m96 hh ?_ ?_
      · have bt := bT h (Nat.le_of_lt hh)
        clear q bQ bT ih zx mz nl n4 R O M
        generalize uSum (vQ (mD σ) w m) 7 = a at *
        generalize uSum (vT (mD σ) w m) h = b at *
        omega
      · rw [Int.add_assoc (v + uSum (vQ (mD σ) w m) 7)]
        exact ih _
  · have nl : ¬ (7 : Int) ≤ (r : Int) := by clear q bQ bT ih; omega
    refine zb_169a (fun a => absurd a nl) (fun _ => ?_)
    rw [zW7 m96 hr]
    refine zS169r O M m96 hr ?_ ?_
    · have bq := bQ r (Nat.le_of_lt hr)
      clear q bQ bT ih mz nl n4 R O M
      generalize uSum (vQ (mD σ) w m) r = a at *
      omega
    · rw [Int.add_assoc v]
      exact ih _
def vSum (D : uT) (w : Int) : Int := if 0 ≤ w ∧ w ≤ 7 then uSum (fun m => vMon D w m) 96 else -4611686018427387904
theorem zS169 {d : Nat} {σ τ : zS} {Q : Option zV → zS → Prop} {w : Int} (R : yRel σ) (M : mRun σ τ 96 0) (q : Q (some (.inr (.inl (uSum (fun m => vMon (mD σ) w m) 96)))) (yR σ τ)) : z169 d 13 w 0 0 none none (yR σ τ) Q := by
  have O := yOk R
  have bM : ∀ m, m ≤ 96 → -4947802324992 ≤ uSum (fun m => vMon (mD σ) w m) m ∧ uSum (fun m => vMon (mD σ) w m) m ≤ 4947802324992 := fun m hm => uSum_p (f := fun m => vMon (mD σ) w m) (B := 51539607552) (n := 96) (by decide) hm (fun k hk => vMon_b O hk)
  have L := zLoop (P := fun m => ∀ x y : Option zV, z169 d 13 w (uSum (fun m => vMon (mD σ) w m) m) (m : Int) x y (yR σ τ) Q) (k := 0) (N := 96) (by omega) (fun x y => ?_) (fun m _ hm ih x y => ?_)
  · exact L none none
  · exact zb_169m (fun a => absurd (by decide) a) (fun _ => q) (fun a => absurd (by decide) a) (fun a => absurd (by decide) a)
  · have nl : ¬ (96 : Int) ≤ (m : Int) := by clear q bM ih; omega
    have ix : (0 : Int) ≤ ((7 * m + 6 : Nat) : Int) ∧ ((7 * m + 6 : Nat) : Int) < 672 := by clear q bM ih; omega
    have zx : zW ((zW (7 * (m : Int))) + 6) = ((7 * m + 6 : Nat) : Int) := zW7 hm (by decide)
    have bm := bM m (Nat.le_of_lt hm)
    have bz := vZ_b (w := w) O hm
    have go : ∀ u, u = uSum (fun m => vMon (mD σ) w m) m + vZ (mD σ) w m → z169 d 30 w u (m : Int) x y (yR σ τ) Q := fun u e => by
      subst e
      refine zS169m R O M hm ?_ (fun x y => ?_) y
      · clear q bM ih zx ix nl R O M
        generalize uSum (fun m => vMon (mD σ) w m) m = a at *
        generalize vZ (mD σ) w m = b at *
        omega
      · have k := ih x y
        have e : uSum (fun m => vMon (mD σ) w m) (m + 1) = uSum (fun m => vMon (mD σ) w m) m + vZ (mD σ) w m + uSum (vQ (mD σ) w m) 7 + uSum (vT (mD σ) w m) (uN (mD σ)) := by
          show uSum (fun m => vMon (mD σ) w m) m + (vZ (mD σ) w m + uSum (vQ (mD σ) w m) 7 + uSum (vT (mD σ) w m) (uN (mD σ))) = _
          rw [← Int.add_assoc, ← Int.add_assoc]
        rw [e] at k
        exact k
    refine zb_169m (fun _ _ => by rw [zx]; exact ix) (fun a => absurd a nl) (fun _ a => go _ ?_) (fun _ a => ?_)
    · unfold vZ; rw [if_neg a, Int.add_zero]
    · rw [zx, Int.toNat_natCast]
      have e : (yR σ τ).1 82 0 (7 * m + 6) = vZ (mD σ) w m := (mr_r (r := 6) M hm (by decide)).2.2.2.2.1.trans (show (if w = 0 then vOn (mD σ) 6 m else 0) = _ from if_pos a).symm
      rw [e]
      refine go _ (zWlA ?_ bz)
      clear q bM ih zx ix nl R O M go e
      generalize uSum (fun m => vMon (mD σ) w m) m = a at *
      omega
theorem z89 {d : Nat} {s : zS} {Q : Option zV → zS → Prop} {w : Int} (D : uT) (O : uOk D) (W : cWk s 0 D 96) (hw : 0 ≤ w ∧ w ≤ 7) (q : Q (some (.inr (.inl (uSum (fun m => vMon D w m) 96)))) s) : zX (d + 45 + 15) 89 12 [some (.inr (.inr (9, 0))), some (.inl w)] [.inr (.inr (9, 0))] s Q := by
  refine zX_run (n' := 14) (ls' := [some (.inr (.inr (9, 0))), some (.inl w)]) (st' := [.inl w, .inr (.inr (0, 0))]) (σ' := s) 2 rfl ?_
  refine zX_call rfl rfl ?_
  refine zs_23 (d := d + 46) O W hw ?_
  exact zX_retL rfl rfl q
theorem yc_89 {d : Nat} (w : Int) : yC (d + 60) 89 [.inl w] (fun s => .inr (.inl (vSum (mD s) w))) := fun σ Q R q => by
  have q : ∀ s, yE σ s → yRel s → Q (some (.inr (.inl (vSum (mD σ) w)))) s := q
  by_cases P : 0 ≤ w ∧ w ≤ 7
  case neg =>
    rw [show vSum (mD σ) w = -4611686018427387904 from if_neg P] at q
    have qn := q
    have q := q _ yE_r R
    have nb : ¬ (0 ≤ w ∧ w ≤ 7) := P
    clear P
    refine zb_89 (fun a0 => (absurd (by omega) nb))
      (fun a0 => (absurd (by omega) nb))
      (fun a0 G1 a2 a3 a4 => (absurd (by omega) nb))
      (fun a0 => q)
  have P' : 0 ≤ w ∧ w ≤ 7 := P
  refine zb_89 (fun a0 => (by omega))
      (fun a0 => R)
      (fun a0 G1 a2 a3 a4 => (z89 _ (yOk R) a2 P (yAl (if_pos P) (q _ yE_G a3))))
      (fun a0 => (by exfalso; omega))
theorem ym_169 {d : Nat} (w : Int) : yM (d + 60) 169 [.inl w] (fun s => .inr (.inl (vSum (mD s) w))) := fun σ Q R q => by
  have q : ∀ s, yRel s → Q (some (.inr (.inl (vSum (mD σ) w)))) s := q
  by_cases P : 0 ≤ w ∧ w ≤ 7
  case neg =>
    rw [show vSum (mD σ) w = -4611686018427387904 from if_neg P] at q
    have qn := q
    have q := q _ R
    have nb : ¬ (0 ≤ w ∧ w ≤ 7) := P
    clear P
    refine zb_169 (fun a0 a1 => (absurd (by omega) nb))
      (fun a0 => q)
      (fun a0 a1 G1 a3 a4 => (absurd (by omega) nb))
      (fun a0 a1 => q)
  have P' : 0 ≤ w ∧ w ≤ 7 := P
  refine zb_169 (fun a0 a1 => R)
      (fun a0 => (by exfalso; omega))
      (fun a0 a1 G1 a3 a4 => (zS169 (d := d + 53) R a3 (yAl (if_pos P) (q _ a4))))
      (fun a0 a1 => (by exfalso; omega))
theorem yp_sum {d : Nat} {σ : zS} (R : yRel σ) (w : Int) : yPl d 89 169 [.inl w] σ :=
  yp_ofl (f := fun s => vSum (mD s) w) (yc_89 w) (ym_169 w) (fun σ s e => by show vSum (mD s) w = _; rw [e.1]) R
