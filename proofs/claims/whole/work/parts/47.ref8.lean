-- the reference: the law of flows (wip/whole/gen/laws27.py)
theorem mKi {r m : Nat} (hr : r < 7) (hm : m < 96) : zW ((zW (7 * (m : Int))) + (r : Int)) = ((7 * m + r : Nat) : Int) := zI_7 hr hm
theorem mKm {r m : Nat} (h0 : 0 < r) (hr : r < 7) (hm : m < 96) : zW (((7 * m + r : Nat) : Int) - 1) = ((7 * m + (r - 1) : Nat) : Int) := by rw [zW_id (by omega)]; omega
theorem mKb {h m : Nat} (h0 : 0 < m) (hm : m < 96) (hh : h < 17) : zW ((zW (17 * (zW ((m : Int) - 1)))) + (h : Int)) = ((17 * (m - 1) + h : Nat) : Int) := by
  rw [zW_id (z := (m : Int) - 1) (by omega), zW_id (z := 17 * ((m : Int) - 1)) (by omega), zW_id (by omega)]; omega
theorem mKn {h m : Nat} (hm : m < 96) (hh : h < 17) : (0 : Int) ≤ ((17 * (m - 1) + h : Nat) : Int) ∧ ((17 * (m - 1) + h : Nat) : Int) < 1632 := by omega
theorem mRr {r : Nat} (hr : r < 7) {x : Int} : x = zW ((r : Int) - 1) ↔ x + 1 = (r : Int) := by rw [zW_id (by omega)]; omega
theorem mR0 {r : Nat} (h : ¬ (r : Int) ≤ 0) : 0 < r := by omega
theorem mR1 {r : Nat} (h : (r : Int) ≤ 0) : r = 0 := by omega
theorem mR1' {r : Nat} (h : r = 0) : (r : Int) ≤ 0 := by omega
theorem mR2 {m : Nat} (h : 0 < m) : ¬ (m : Int) ≤ 0 := by omega
theorem mA3 {a b c : Int} (ha : 0 ≤ a ∧ a ≤ 2089807) (hb : 0 ≤ b ∧ b ≤ 249975) (hc : 0 ≤ c ∧ c ≤ 319984) : zW (zW (a + b) + c) = a + b + c := by
  rw [zW_id (z := a + b) (by omega), zW_id (by omega)]
theorem mA0 {b c : Int} (hb : 0 ≤ b ∧ b ≤ 249975) (hc : 0 ≤ c ∧ c ≤ 319984) : zW (zW (0 + b) + c) = 0 + b + c := by
  rw [zW_id (z := 0 + b) (by omega), zW_id (by omega)]
theorem mLs {a b : Int} (ha : 0 ≤ a ∧ a ≤ 24746777) (hb : 0 ≤ b ∧ b ≤ 25000000) : zWl (a / 1000 + b) = a / 1000 + b := zWl_id (by omega)
theorem mLd {a : Int} (ha : 0 ≤ a ∧ a ≤ 24747525) : zWl ((zWl a).tdiv 1000) = a / 1000 := by
  rw [zWl_id (z := a) (by omega), zTd ha.1, zWl_id (by omega)]
theorem mLp {x y z : Int} (hx : 0 ≤ x) (hy : 0 ≤ y + z) (h : x + (y + z) ≤ 1000000000) : zWl (x + y + z) = x + (y + z) := by rw [zWl_id (by omega)]; omega
theorem mSq {s t : Int} (hs : 0 ≤ s ∧ s ≤ 249975) (ht : 0 ≤ t ∧ t ≤ 99) : 0 ≤ s * t ∧ s * t ≤ 24747525 := by
  have q1 : 0 ≤ s * t := Int.mul_nonneg hs.1 ht.1
  have q2 : s * t ≤ 249975 * 99 := Int.mul_le_mul hs.2 ht.2 ht.1 (by decide)
  omega
theorem mPw {p q r : Int} (h : 0 ≤ p ∧ p ≤ r) (hr : r ≤ 319984) : zW p = p := zW_id (by omega)
theorem mSx {a o c s : Int} (ha : 0 ≤ a ∧ a ≤ 24747525) (ho : 0 ≤ o) (hc : a / 1000 + o + c ≤ 25000000) (hs : 0 ≤ s ∧ s ≤ c) : 0 ≤ a / 1000 + o ∧ a / 1000 + o + s ≤ 1000000000 := by omega
theorem mNk {k n : Nat} (h : k < n) (x : Int) (e : x = (n : Int)) : ¬ x ≤ (k : Int) := by omega
theorem mK17 {k n : Nat} (h : k < n) (h2 : n ≤ 16) : k < 17 ∧ (0 : Int) ≤ (k : Int) ∧ (k : Int) < 17 ∧ k < 2147483647 := by omega
/-- the sums of what comes back, so far -/
def uPr (D V : uT) (r h : Nat) : Int := uSum (fun x => if D 10 x + 1 = (r : Int) then uBack D x (V 2 x) else 0) h
def uPs (D V : uT) (r h : Nat) : Int := uSum (fun x => if D 10 x + 1 = (r : Int) then V 3 x else 0) h
theorem uPr_b {D V : uT} {B : Int} {r h : Nat} (hV : uVk D V B) (hh : h ≤ uN D) : (0 ≤ uPr D V r h ∧ uPr D V r h ≤ uRet D V r) ∧ 0 ≤ uPs D V r h ∧ uPs D V r h ≤ uRetS D V r := by
  have p1 : ∀ x, x < uN D → 0 ≤ (fun x => if D 10 x + 1 = (r : Int) then uBack D x (V 2 x) else 0) x := fun x hx => by
    dsimp only; split
    · have := hV.2.1 x hx; exact (uGb_b this.1 this.2.2.1).2.1
    · exact Int.le_refl _
  have p2 : ∀ x, x < uN D → 0 ≤ (fun x => if D 10 x + 1 = (r : Int) then V 3 x else 0) x := fun x hx => by
    dsimp only; split
    · exact (hV.2.1 x hx).2.2.2
    · exact Int.le_refl _
  exact ⟨⟨uSum_nn (fun k hk => p1 k (by omega)), uPre_le p1 hh⟩, uSum_nn (fun k hk => p2 k (by omega)), uPre_le p2 hh⟩
set_option maxHeartbeats 1000000 in
theorem zs_159 {d : Nat} {σ τ : zS} {Q : Option zV → zS → Prop} {r m : Nat} {V : uT} (hr : r < 7) (hm : m < 96) (O : uOk (mD σ)) (hV : uVk (mD σ) V (m * 205236)) (H : ∀ h, h < uN (mD σ) → mHok σ h) (C : mCok σ) (hn : 0 ≤ σ.1 10 0 4) (hfl : 0 ≤ σ.1 10 0 2 ∧ σ.1 10 0 2 ≤ 24)
    (hO : ∀ j x : Nat, (uOrd (mD σ))[j]? = some x → τ.1 99 0 j = (x : Int)) (hR : ∀ x, x < 7 → τ.1 100 0 (7 * m + x) = mRead σ x m) (F : mFin τ (mD σ) V m)
    (hI : 0 < r → τ.1 82 0 (7 * m + (r - 1)) = (uAm (mD σ) V m r).1 ∧ τ.2 84 0 (7 * m + (r - 1)) = (uAm (mD σ) V m r).2.1)
    (h : ∀ τ' : zS, mRow τ' (mD σ) V m r → (∀ h, h < uN (mD σ) → mD σ 10 h = (r : Int) → mHold τ' (mD σ) V m h) → mFrm τ τ' (mD σ) m r → Q none (yR σ τ')) :
    zM (d + 5) 159 [.inr (.inr (10, 0)), .inl (r : Int), .inl (m : Int)] (yR σ τ) Q := by
  have B := uBd O hm hr hV
  have N16 := O.2.2.2.2.1
  have S := O.1 r m hr hm
  have Rt := O.2.2.1 r hr
  have hN : σ.1 10 0 4 = (uN (mD σ) : Int) := by show mD σ 19 0 = _; unfold uN; have : 0 ≤ mD σ 19 0 := hn; omega
  have ik := mIk hr hm
  have ir : (0 : Int) ≤ (r : Int) ∧ (r : Int) < 7 := by omega
  have im : (0 : Int) ≤ (m : Int) ∧ (m : Int) < 96 := by omega
  have r0z : r = 0 → (uAm (mD σ) V m r).1 = 0 ∧ (uAm (mD σ) V m r).2.1 = 0 := fun e => by subst e; exact ⟨rfl, rfl⟩
  have sq := mSq S Rt
  have es : zWl ((zWl (mSide (yR σ τ) (r : Int).toNat (m : Int).toNat * (yR σ τ).1 48 0 (r : Int).toNat)).tdiv 1000) = mD σ 0 (96 * r + m) * mD σ 2 r / 1000 := by
    rw [mD_0 hm] at sq ⊢
    exact mLd sq
  have eside : mSide (yR σ τ) (r : Int).toNat (m : Int).toNat = mD σ 0 (96 * r + m) := (mD_0 hm).symm
  have ek := mKi hr hm
  -- behind the returns
  have stC : ∀ (hh : Int) (x7 x8 x9 x10 x11 x12 : Option zV), zX (d + 5) 159 93 [some (.inr (.inr (10, 0))), some (.inl (r : Int)), some (.inl (m : Int)), some (.inl ((7 * m + r : Nat) : Int)), some (.inr (.inl (uCs (mD σ) V m r (uAm (mD σ) V m r)))), none, some (.inl hh), x7, x8, x9, x10, x11, x12] [] (yR σ (zU (zU τ 78 0 (7 * m + r) (mD σ 0 (96 * r + m))) 79 0 (7 * m + r) (uRet (mD σ) V r))) Q := by
    intro hh x7 x8 x9 x10 x11 x12
    have fin : zX (d + 5) 159 127 [some (.inr (.inr (10, 0))), some (.inl (r : Int)), some (.inl (m : Int)), some (.inl ((7 * m + r : Nat) : Int)), some (.inr (.inl (uCs (mD σ) V m r (uAm (mD σ) V m r)))), none, some (.inl (uCm (mD σ) V m r (uAm (mD σ) V m r))), x7, x8, x9, x10, x11, x12] [] (zUL (zU (yR σ (zU (zU τ 78 0 (7 * m + r) (mD σ 0 (96 * r + m))) 79 0 (7 * m + r) (uRet (mD σ) V r))) 80 0 (7 * m + r) (uCm (mD σ) V m r (uAm (mD σ) V m r))) 83 0 (7 * m + r) (uCs (mD σ) V m r (uAm (mD σ) V m r))) Q := by
      rw [yR_U rfl, yR_UL rfl]
      refine zs_159m hr hm O hV F ⟨fun j => ?_, fun j => ?_, fun j => ?_, fun j => ?_, fun k a b c => ?_, fun k a => ?_⟩ (fun τ2 y8 y9 y10 y11 y12 M => zs_159t hr hm O hV H C hn hO hR F M h)
      · show (if 78 = 78 ∧ j = 7 * m + r ∧ 0 = 0 then _ else τ.1 78 0 j) = _; exact ifk
      · show (if 79 = 79 ∧ j = 7 * m + r ∧ 0 = 0 then _ else τ.1 79 0 j) = _; exact ifk
      · show (if 80 = 80 ∧ j = 7 * m + r ∧ 0 = 0 then _ else τ.1 80 0 j) = _; exact ifk
      · show (if 83 = 83 ∧ j = 7 * m + r ∧ 0 = 0 then _ else τ.2 83 0 j) = _; exact ifk
      · show (zU (zU (zU τ 78 0 _ _) 79 0 _ _) 80 0 _ _).1 k = _
        rw [zU_off c, zU_off b, zU_off a]
      · rw [zUL_off a]; rfl
    have c78 : (yR σ (zU (zU τ 78 0 (7 * m + r) (mD σ 0 (96 * r + m))) 79 0 (7 * m + r) (uRet (mD σ) V r))).1 78 0 ((7 * m + r : Nat) : Int).toNat = mD σ 0 (96 * r + m) := zU_same (σ := τ)
    have c79 : (yR σ (zU (zU τ 78 0 (7 * m + r) (mD σ 0 (96 * r + m))) 79 0 (7 * m + r) (uRet (mD σ) V r))).1 79 0 ((7 * m + r : Nat) : Int).toNat = uRet (mD σ) V r := zU_same (σ := zU τ 78 0 (7 * m + r) (mD σ 0 (96 * r + m)))
    have ec : uCm (mD σ) V m r (uAm (mD σ) V m r) = (uAm (mD σ) V m r).1 + mD σ 0 (96 * r + m) + uRet (mD σ) V r := rfl
    have cb := B.2.2.2.2.1
    have ab := B.1
    have rb := B.2.2.1
    refine zb_159c (fun _ => ik) (fun q => ?_) (fun _ => ik) (fun q => ?_) (fun q => ?_)
    · rw [mKm (mR0 q) hr hm]; exact mIk (Nat.lt_of_le_of_lt (Nat.sub_le r 1) hr) hm
    · have e := r0z (mR1 q)
      have : zW (zW (0 + mD σ 0 (96 * r + m)) + uRet (mD σ) V r) = uCm (mD σ) V m r (uAm (mD σ) V m r) := by
        rw [ec, e.1]
        exact mA0 S rb
      rw [c78, c79, this]; exact fin
    · have r0 : 0 < r := mR0 q
      have e := hI r0
      have c82 : (yR σ (zU (zU τ 78 0 (7 * m + r) (mD σ 0 (96 * r + m))) 79 0 (7 * m + r) (uRet (mD σ) V r))).1 82 0 ((7 * m + (r - 1) : Nat) : Int).toNat = (uAm (mD σ) V m r).1 := e.1
      have : zW (zW ((uAm (mD σ) V m r).1 + mD σ 0 (96 * r + m)) + uRet (mD σ) V r) = uCm (mD σ) V m r (uAm (mD σ) V m r) := by
        rw [ec]
        exact mA3 ab S rb
      rw [mKm r0 hr hm, c82, c78, c79, this]; exact fin
  have ecs : mD σ 0 (96 * r + m) * mD σ 2 r / 1000 + (uAm (mD σ) V m r).2.1 + uRetS (mD σ) V r = uCs (mD σ) V m r (uAm (mD σ) V m r) := rfl
  -- the returns
  have stB : zX (d + 5) 159 46 [some (.inr (.inr (10, 0))), some (.inl (r : Int)), some (.inl (m : Int)), some (.inl ((7 * m + r : Nat) : Int)), some (.inr (.inl (mD σ 0 (96 * r + m) * mD σ 2 r / 1000 + (uAm (mD σ) V m r).2.1))), none, some (.inl 0), none, none, none, none, none, none] [] (yR σ (zU (zU τ 78 0 (7 * m + r) (mD σ 0 (96 * r + m))) 79 0 (7 * m + r) 0)) Q := by
    by_cases m0 : m = 0
    · have z := F.2.2 m0 r
      have hh := stC 0 none none none none none none
      rw [z.1, ← ecs, z.2, Int.add_zero] at hh
      have me : (m : Int) ≤ 0 := mR1' m0
      exact zb_159b (fun _ q => absurd me q) (fun _ q => absurd me q) (fun _ q => absurd me q) (fun _ => hh) (fun _ _ => hh) (fun _ q => absurd me q) (fun _ q => absurd me q)
    · have m1 : 0 < m := Nat.pos_of_ne_zero m0
      have me : ¬ (m : Int) ≤ 0 := mR2 m1
      have L := zLoop (P := fun k => zX (d + 5) 159 46 [some (.inr (.inr (10, 0))), some (.inl (r : Int)), some (.inl (m : Int)), some (.inl ((7 * m + r : Nat) : Int)), some (.inr (.inl (mD σ 0 (96 * r + m) * mD σ 2 r / 1000 + (uAm (mD σ) V m r).2.1 + uPs (mD σ) V r k))), none, some (.inl (k : Int)), none, none, none, none, none, none] [] (yR σ (zU (zU τ 78 0 (7 * m + r) (mD σ 0 (96 * r + m))) 79 0 (7 * m + r) (uPr (mD σ) V r k))) Q) (k := 0) (N := uN (mD σ)) (Nat.zero_le _) ?_ (fun k _ hk ih => ?_)
      · have e1 : uPr (mD σ) V r 0 = 0 := rfl
        have e2 : uPs (mD σ) V r 0 = 0 := rfl
        rw [e1, e2, Int.add_zero] at L
        exact L
      · have hh := stC (uN (mD σ) : Int) none none none none none none
        rw [← ecs] at hh
        have ge : (yR σ (zU (zU τ 78 0 (7 * m + r) (mD σ 0 (96 * r + m))) 79 0 (7 * m + r) (uPr (mD σ) V r (uN (mD σ))))).1 10 0 4 ≤ (uN (mD σ) : Int) := Int.le_of_eq hN
        exact zb_159b (fun q => absurd ge q) (fun q => absurd ge q) (fun q => absurd ge q) (fun _ => hh) (fun q => absurd ge q) (fun q => absurd ge q) (fun q => absurd ge q)
      · have lt : ¬ (yR σ (zU (zU τ 78 0 (7 * m + r) (mD σ 0 (96 * r + m))) 79 0 (7 * m + r) (uPr (mD σ) V r k))).1 10 0 4 ≤ (k : Int) := mNk hk _ hN
        obtain ⟨k17, k0, k17i, kbig⟩ := mK17 hk N16
        have b1 := uPr_b (r := r) (h := k + 1) hV hk
        have p1 : uPr (mD σ) V r (k + 1) = uPr (mD σ) V r k + (if mD σ 10 k + 1 = (r : Int) then uBack (mD σ) k (V 2 k) else 0) := rfl
        have p2 : uPs (mD σ) V r (k + 1) = uPs (mD σ) V r k + (if mD σ 10 k + 1 = (r : Int) then V 3 k else 0) := rfl
        have rb := B.2.2.1
        have sb := B.2.2.2.1
        have cb := B.2.2.2.2.2.1
        rw [← ecs] at cb
        have ab := B.2.1
        have bk := F.2.1 m1 k hk
        have kz : zW ((k : Int) + 1) = ((k + 1 : Nat) : Int) := zWs kbig
        refine zb_159b (fun _ _ => ⟨k0, k17i⟩) (fun _ _ _ => ik) (fun _ _ _ => by rw [mKb m1 hm k17]; exact mKn hm k17) (fun q => absurd q lt) (fun _ q => absurd q me) (fun _ _ a => ?_) (fun _ _ a => ?_)
        · have a2 : mD σ 10 k + 1 = (r : Int) := (mRr hr).mp a
          rw [mKb m1 hm k17, kz]
          have c79 : (yR σ (zU (zU τ 78 0 (7 * m + r) (mD σ 0 (96 * r + m))) 79 0 (7 * m + r) (uPr (mD σ) V r k))).1 79 0 ((7 * m + r : Nat) : Int).toNat = uPr (mD σ) V r k := zU_same (σ := zU τ 78 0 (7 * m + r) (mD σ 0 (96 * r + m)))
          have c93 : (yR σ (zU (zU τ 78 0 (7 * m + r) (mD σ 0 (96 * r + m))) 79 0 (7 * m + r) (uPr (mD σ) V r k))).1 93 0 ((17 * (m - 1) + k : Nat) : Int).toNat = uBack (mD σ) k (V 2 k) := bk.1
          have c94 : (yR σ (zU (zU τ 78 0 (7 * m + r) (mD σ 0 (96 * r + m))) 79 0 (7 * m + r) (uPr (mD σ) V r k))).2 94 0 ((17 * (m - 1) + k : Nat) : Int).toNat = V 3 k := bk.2
          rw [if_pos a2] at p1 p2
          rw [c79, c93, c94, yR_U rfl, Int.toNat_natCast, zU_zU, ← p1]
          have w1 : zW (uPr (mD σ) V r (k + 1)) = uPr (mD σ) V r (k + 1) := mPw (q := 0) b1.1 rb.2
          have sx := mSx sq ab.1 cb.2 b1.2
          have w2 : zWl (mD σ 0 (96 * r + m) * mD σ 2 r / 1000 + (uAm (mD σ) V m r).2.1 + uPs (mD σ) V r k + V 3 k) = mD σ 0 (96 * r + m) * mD σ 2 r / 1000 + (uAm (mD σ) V m r).2.1 + uPs (mD σ) V r (k + 1) := by
            rw [p2] at b1 sx ⊢
            exact mLp sx.1 b1.2.1 sx.2
          rw [w1, w2]
          exact ih
        · have a2 : ¬ mD σ 10 k + 1 = (r : Int) := fun q => a ((mRr hr).mpr q)
          rw [if_neg a2, Int.add_zero] at p1 p2
          rw [p1, p2] at ih
          rw [kz]
          exact ih
  have ab := B.2.1
  refine zb_159a ir im hfl (by rw [ek]; exact ik) ir (fun q => ?_) (fun q => ?_) (fun q => ?_)
  · rw [ek, mKm (mR0 q) hr hm]; exact mIk (Nat.lt_of_le_of_lt (Nat.sub_le r 1) hr) hm
  · have e := r0z (mR1 q)
    rw [ek, es, eside, yR_U rfl, yR_U rfl]
    rw [e.2, Int.add_zero] at stB
    exact stB
  · have r0 : 0 < r := mR0 q
    have e := hI r0
    have c84 : (yR σ τ).2 84 0 ((7 * m + (r - 1) : Nat) : Int).toNat = (uAm (mD σ) V m r).2.1 := e.2
    have w : zWl (mD σ 0 (96 * r + m) * mD σ 2 r / 1000 + (uAm (mD σ) V m r).2.1) = mD σ 0 (96 * r + m) * mD σ 2 r / 1000 + (uAm (mD σ) V m r).2.1 := zWl_id ⟨Int.le_trans (by decide) (Int.add_nonneg (Int.ediv_nonneg sq.1 (by decide)) ab.1), Int.le_trans (Int.add_le_add (Int.ediv_le_self _ sq.1) ab.2) (Int.le_trans (Int.add_le_add_right sq.2 _) (by decide))⟩
    rw [ek, es, eside, mKm r0 hr hm, c84, w, yR_U rfl, yR_U rfl]
    exact stB
