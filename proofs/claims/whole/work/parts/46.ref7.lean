-- the reference: flows from its entry (wip/whole/gen/laws26.py)
def mMb (τ τ' : zS) (D V : uT) (m r : Nat) : Prop :=
  (∀ j, τ'.1 78 0 j = if j = 7 * m + r then D 0 (96 * r + m) else τ.1 78 0 j) ∧ (∀ j, τ'.1 79 0 j = if j = 7 * m + r then uRet D V r else τ.1 79 0 j) ∧ (∀ j, τ'.1 80 0 j = if j = 7 * m + r then uCm D V m r (uAm D V m r) else τ.1 80 0 j) ∧ (∀ j, τ'.2 83 0 j = if j = 7 * m + r then uCs D V m r (uAm D V m r) else τ.2 83 0 j) ∧
  (∀ k, ¬ k = 78 → ¬ k = 79 → ¬ k = 80 → τ'.1 k = τ.1 k) ∧ (∀ k, ¬ k = 83 → τ'.2 k = τ.2 k)
theorem mIk {r m : Nat} (hr : r < 7) (hm : m < 96) : (0 : Int) ≤ ((7 * m + r : Nat) : Int) ∧ ((7 * m + r : Nat) : Int) < 672 := by omega
theorem mIk7 {r m : Nat} (hr : r < 7) (h : ¬ (95 : Int) ≤ (m : Int)) : (0 : Int) ≤ ((7 * m + r + 7 : Nat) : Int) ∧ ((7 * m + r + 7 : Nat) : Int) < 672 := by omega
theorem mK7 {r m : Nat} (hr : r < 7) (hm : m < 96) : zW (((7 * m + r : Nat) : Int) + 7) = ((7 * m + r + 7 : Nat) : Int) := by rw [zW_id (by omega)]; omega
theorem m95i {m : Nat} : (95 : Int) ≤ (m : Int) ↔ 95 ≤ m := by omega
set_option maxHeartbeats 1000000 in
theorem zs_159m {d : Nat} {σ τ τb : zS} {Q : Option zV → zS → Prop} {r m : Nat} {V : uT} {x7 x8 x9 x10 x11 x12 : Option zV} (hr : r < 7) (hm : m < 96) (O : uOk (mD σ)) (hV : uVk (mD σ) V (m * 205236)) (F : mFin τ (mD σ) V m) (B1 : mMb τ τb (mD σ) V m r)
    (h : ∀ (τ2 : zS) (y8 y9 y10 y11 y12 : Option zV), mMd τ τ2 (mD σ) V m r → zX (d + 5) 159 266 [some (.inr (.inr (10, 0))), some (.inl (r : Int)), some (.inl (m : Int)), some (.inl ((7 * m + r : Nat) : Int)), some (.inr (.inl (uWs (mD σ) V m r (uAm (mD σ) V m r)))), none, some (.inl (uWat (mD σ) V m r (uAm (mD σ) V m r))), some (.inl 0), y8, y9, y10, y11, y12] [] (yR σ τ2) Q) :
    zX (d + 5) 159 127 [some (.inr (.inr (10, 0))), some (.inl (r : Int)), some (.inl (m : Int)), some (.inl ((7 * m + r : Nat) : Int)), some (.inr (.inl (uCs (mD σ) V m r (uAm (mD σ) V m r)))), none, some (.inl (uCm (mD σ) V m r (uAm (mD σ) V m r))), x7, x8, x9, x10, x11, x12] [] (yR σ τb) Q := by
  have B := uBd O hm hr hV
  have R := uReach_b (r := r) (q := uAm (mD σ) V m r) O hr hm hV B.1.1 B.2.1.1
  obtain ⟨b1, b2, b3, b4, b5, b6⟩ := B1
  have ik : (0 : Int) ≤ ((7 * m + r : Nat) : Int) ∧ ((7 * m + r : Nat) : Int) < 672 := mIk hr hm
  have ir : (0 : Int) ≤ (r : Int) ∧ (r : Int) < 7 := by clear b1 b2 b3 b4 b5 b6 h R B; omega
  have ik7 : ¬ (95 : Int) ≤ (m : Int) → (0 : Int) ≤ ((7 * m + r + 7 : Nat) : Int) ∧ ((7 * m + r + 7 : Nat) : Int) < 672 := mIk7 hr
  refine zb_159d ir (fun _ => ik) (fun _ => ik) (fun ht => ?_) (fun ht => ?_)
  · have ht : mD σ 3 r = 0 := ht
    have w1 : uWat (mD σ) V m r (uAm (mD σ) V m r) = uCm (mD σ) V m r (uAm (mD σ) V m r) := if_pos ht
    have w2 : uWs (mD σ) V m r (uAm (mD σ) V m r) = uCs (mD σ) V m r (uAm (mD σ) V m r) := if_pos ht
    rw [yR_U rfl, ← w1, ← w2]
    refine h _ _ _ _ _ _ ⟨⟨fun j => b1 j, fun j => b2 j, fun j => b3 j, fun j => ?_, fun j => b4 j⟩, fun j _ => ⟨fun k a b => ?_, ?_⟩, fun j _ => ⟨?_, ?_⟩, fun e => absurd ht e, fun k hk => ?_, fun k hk => ?_⟩
    · rw [← b5 81 (by decide) (by decide) (by decide)]
      show (if 81 = 81 ∧ j = 7 * m + r ∧ 0 = 0 then _ else τb.1 81 0 j) = _; exact ifk
    · rw [zU_off (by omega), b5 k (by omega) (by omega) (by omega)]
    · show τb.2 86 0 j = _; rw [b6 86 (by decide)]
    · show τb.1 87 0 j = _; rw [b5 87 (by decide) (by decide) (by decide)]
    · show τb.2 85 0 j = _; rw [b6 85 (by decide)]
    · rw [zU_off (by omega), b5 k (by omega) (by omega) (by omega)]
    · show τb.2 k = _; rw [b6 k (by omega)]
  · have ht : ¬ mD σ 3 r = 0 := ht
    have w1 : uWat (mD σ) V m r (uAm (mD σ) V m r) = uOut (mD σ) V m r (uAm (mD σ) V m r) := if_neg ht
    have w2 : uWs (mD σ) V m r (uAm (mD σ) V m r) = uOutS (mD σ) V m r (uAm (mD σ) V m r) := if_neg ht
    have w3 : uNx (mD σ) m V 0 r = uIn (mD σ) V m r (uAm (mD σ) V m r) - uOut (mD σ) V m r (uAm (mD σ) V m r) := if_neg ht
    have w4 : uNx (mD σ) m V 1 r = uInS (mD σ) V m r (uAm (mD σ) V m r) - uOutS (mD σ) V m r (uAm (mD σ) V m r) := if_neg ht
    obtain ⟨r1, r2, r3, r4, r5, r6, r7, r8, r9, r10⟩ := R
    obtain ⟨s1, s2, s3, s4, s5, s6, s7, s8⟩ := r10 ht
    have f := F.1 r hr ht
    have L := O.2.2.2.1 r hr ht
    obtain ⟨L1, L2, L3, L4, L5, L6, L7⟩ := L
    have lv : (yR σ τb).1 87 0 ((7 * m + r : Nat) : Int).toNat = V 0 r := by
      show τb.1 87 0 (7 * m + r) = _; rw [b5 87 (by decide) (by decide) (by decide)]; exact f.1
    have lc : (yR σ τb).1 80 0 ((7 * m + r : Nat) : Int).toNat = uCm (mD σ) V m r (uAm (mD σ) V m r) := by
      show τb.1 80 0 (7 * m + r) = _; rw [b3, if_pos rfl]
    have st : zW ((zW (V 0 r * (yR σ τb).1 58 0 (r : Int).toNat)).tdiv 1000) = uStm (mD σ) V r := rfl
    have ib := B.2.2.2.2.2.2.2.2.2
    have hd : 0 ≤ zW ((V 0 r).tdiv 100) ∧ zW ((V 0 r).tdiv 100) ≤ 999 := by
      rw [zTd (by omega), zW_id (by omega)]; omega
    have e1 : zW (zW (V 0 r - uStm (mD σ) V r) + uCm (mD σ) V m r (uAm (mD σ) V m r)) = uIn (mD σ) V m r (uAm (mD σ) V m r) := by
      rw [zW_id (z := V 0 r - uStm (mD σ) V r) (by omega)]
      exact zW_id (by show -2147483648 ≤ uIn (mD σ) V m r (uAm (mD σ) V m r) ∧ uIn (mD σ) V m r (uAm (mD σ) V m r) ≤ _; have : uIn (mD σ) V m r (uAm (mD σ) V m r) = V 0 r - uStm (mD σ) V r + uCm (mD σ) V m r (uAm (mD σ) V m r) := rfl; omega)
    have inb : uIn (mD σ) V m r (uAm (mD σ) V m r) ≤ 3000000 := by have : uIn (mD σ) V m r (uAm (mD σ) V m r) = V 0 r - uStm (mD σ) V r + uCm (mD σ) V m r (uAm (mD σ) V m r) := rfl; omega
    rw [lv, lc, st, e1, yR_U rfl, yR_U rfl]
    generalize hτ : zU (zU τb 88 0 ((7 * m + r : Nat) : Int).toNat (uStm (mD σ) V r)) 90 0 ((7 * m + r : Nat) : Int).toNat (zW ((V 0 r).tdiv 100)) = τc
    have c88 : ∀ j, τc.1 88 0 j = if j = 7 * m + r then uStm (mD σ) V r else τ.1 88 0 j := fun j => by
      rw [← b5 88 (by decide) (by decide) (by decide)]; subst hτ
      show (if 88 = 88 ∧ j = 7 * m + r ∧ 0 = 0 then _ else τb.1 88 0 j) = _; exact ifk
    have c90 : ∀ j, τc.1 90 0 j = if j = 7 * m + r then zW ((V 0 r).tdiv 100) else τ.1 90 0 j := fun j => by
      rw [← b5 90 (by decide) (by decide) (by decide)]; subst hτ
      show (if 90 = 90 ∧ j = 7 * m + r ∧ 0 = 0 then _ else τb.1 90 0 j) = _; exact ifk
    have ck : ∀ k, ¬ k = 88 → ¬ k = 90 → τc.1 k = τb.1 k := fun k a b => by subst hτ; rw [zU_off b, zU_off a]
    have ck2 : τc.2 = τb.2 := by subst hτ; rfl
    have la : zWl ((yR σ τc).2 85 0 ((7 * m + r : Nat) : Int).toNat + uCs (mD σ) V m r (uAm (mD σ) V m r)) = uInS (mD σ) V m r (uAm (mD σ) V m r) := by
      show zWl (τc.2 85 0 (7 * m + r) + _) = _
      rw [ck2, b6 85 (by decide), f.2]
      exact zWl_id (by show -9223372036854775808 ≤ uInS (mD σ) V m r (uAm (mD σ) V m r) ∧ uInS (mD σ) V m r (uAm (mD σ) V m r) ≤ _; omega)
    have key : ∀ (o : Int) (y11 y12 : Option zV), o = uOut (mD σ) V m r (uAm (mD σ) V m r) → zX (d + 5) 159 207 [some (.inr (.inr (10, 0))), some (.inl (r : Int)), some (.inl (m : Int)), some (.inl ((7 * m + r : Nat) : Int)), some (.inr (.inl (uCs (mD σ) V m r (uAm (mD σ) V m r)))), none, some (.inl (uCm (mD σ) V m r (uAm (mD σ) V m r))), some (.inl (uIn (mD σ) V m r (uAm (mD σ) V m r))), some (.inr (.inl (uInS (mD σ) V m r (uAm (mD σ) V m r)))), none, some (.inl o), y11, y12] [] (yR σ τc) Q := by
      intro o y11 y12 ho
      subst ho
      have pw : zWl ((yR σ τc).1 90 0 ((7 * m + r : Nat) : Int).toNat * uOut (mD σ) V m r (uAm (mD σ) V m r)) = zW ((V 0 r).tdiv 100) * uOut (mD σ) V m r (uAm (mD σ) V m r) := by
        rw [show (yR σ τc).1 90 0 ((7 * m + r : Nat) : Int).toNat = zW ((V 0 r).tdiv 100) by show τc.1 90 0 (7 * m + r) = _; rw [c90, if_pos rfl]]
        have p0 : 0 ≤ zW ((V 0 r).tdiv 100) * uOut (mD σ) V m r (uAm (mD σ) V m r) := Int.mul_nonneg hd.1 s5
        have p1 : zW ((V 0 r).tdiv 100) * uOut (mD σ) V m r (uAm (mD σ) V m r) ≤ 999 * 3000000 := Int.mul_le_mul hd.2 (by omega) s5 (by decide)
        exact zWl_id (by omega)
      have fin : ∀ (so : Int) (z10 : Option zV), so = uOutS (mD σ) V m r (uAm (mD σ) V m r) → (95 ≤ m → zX (d + 5) 159 266 [some (.inr (.inr (10, 0))), some (.inl (r : Int)), some (.inl (m : Int)), some (.inl ((7 * m + r : Nat) : Int)), some (.inr (.inl so)), none, some (.inl (uOut (mD σ) V m r (uAm (mD σ) V m r))), some (.inl 0), some (.inr (.inl (uInS (mD σ) V m r (uAm (mD σ) V m r)))), none, z10, y11, y12] [] (zU (zUL (zU (yR σ τc) 89 0 (7 * m + r) (uOut (mD σ) V m r (uAm (mD σ) V m r))) 86 0 (7 * m + r) (zW ((V 0 r).tdiv 100) * uOut (mD σ) V m r (uAm (mD σ) V m r))) 81 0 (7 * m + r) (uOut (mD σ) V m r (uAm (mD σ) V m r))) Q) ∧
          (¬ 95 ≤ m → zX (d + 5) 159 266 [some (.inr (.inr (10, 0))), some (.inl (r : Int)), some (.inl (m : Int)), some (.inl ((7 * m + r : Nat) : Int)), some (.inr (.inl so)), none, some (.inl (uOut (mD σ) V m r (uAm (mD σ) V m r))), some (.inl 0), some (.inr (.inl (uInS (mD σ) V m r (uAm (mD σ) V m r)))), none, z10, y11, y12] [] (zU (zUL (zU (zUL (zU (yR σ τc) 89 0 (7 * m + r) (uOut (mD σ) V m r (uAm (mD σ) V m r))) 86 0 (7 * m + r) (zW ((V 0 r).tdiv 100) * uOut (mD σ) V m r (uAm (mD σ) V m r))) 87 0 (7 * m + r + 7) (uNx (mD σ) m V 0 r)) 85 0 (7 * m + r + 7) (uNx (mD σ) m V 1 r)) 81 0 (7 * m + r) (uOut (mD σ) V m r (uAm (mD σ) V m r))) Q) := by
        intro so z10 hso
        subst hso
        rw [← w2, ← w1]
        constructor
        · intro m95
          rw [yR_U rfl, yR_UL rfl, yR_U rfl]
          refine h _ _ _ _ _ _ ⟨⟨fun j => ?_, fun j => ?_, fun j => ?_, fun j => ?_, fun j => ?_⟩, fun j hj => ⟨fun k a b => ?_, ?_⟩, fun j hj => ⟨?_, ?_⟩, fun e => ⟨?_, ?_, ?_, ?_, fun q => absurd q (by omega)⟩, fun k hk => ?_, fun k hk => ?_⟩
          · show τc.1 78 0 j = _; rw [ck 78 (by decide) (by decide)]; exact b1 j
          · show τc.1 79 0 j = _; rw [ck 79 (by decide) (by decide)]; exact b2 j
          · show τc.1 80 0 j = _; rw [ck 80 (by decide) (by decide)]; exact b3 j
          · rw [← b5 81 (by decide) (by decide) (by decide), ← ck 81 (by decide) (by decide)]
            show (if 81 = 81 ∧ j = 7 * m + r ∧ 0 = 0 then _ else τc.1 81 0 j) = _; exact ifk
          · show τc.2 83 0 j = _; rw [ck2]; exact b4 j
          · rcases (show k = 88 ∨ k = 89 ∨ k = 90 by omega) with rfl | rfl | rfl
            · show τc.1 88 0 j = _; rw [c88, if_neg hj]
            · show (if 89 = 89 ∧ j = 7 * m + r ∧ 0 = 0 then _ else τc.1 89 0 j) = _
              rw [if_neg (fun q => hj q.2.1), ck 89 (by decide) (by decide), b5 89 (by decide) (by decide) (by decide)]
            · show τc.1 90 0 j = _; rw [c90, if_neg hj]
          · show (if 86 = 86 ∧ j = 7 * m + r ∧ 0 = 0 then _ else τc.2 86 0 j) = _
            rw [if_neg (fun q => hj q.2.1), ck2, b6 86 (by decide)]
          · show τc.1 87 0 j = _; rw [ck 87 (by decide) (by decide), b5 87 (by decide) (by decide) (by decide)]
          · show τc.2 85 0 j = _; rw [ck2, b6 85 (by decide)]
          · show τc.1 88 0 (7 * m + r) = _; rw [c88, if_pos rfl]
          · show (if 89 = 89 ∧ 7 * m + r = 7 * m + r ∧ 0 = 0 then _ else _) = _; rw [if_pos ⟨rfl, rfl, rfl⟩, w1]
          · show τc.1 90 0 (7 * m + r) = _; rw [c90, if_pos rfl]
          · show (if 86 = 86 ∧ 7 * m + r = 7 * m + r ∧ 0 = 0 then _ else _) = _; rw [if_pos ⟨rfl, rfl, rfl⟩, w1]
          · rw [zU_off (by omega)]
            show (zU τc 89 0 _ _).1 k = _
            rw [zU_off (by omega), ck k (by omega) (by omega), b5 k (by omega) (by omega) (by omega)]
          · show (zUL (zU τc 89 0 _ _) 86 0 _ _).2 k = _
            rw [zUL_off (by omega)]; show τc.2 k = _; rw [ck2, b6 k (by omega)]
        · intro m95
          rw [yR_U rfl, yR_UL rfl, yR_U rfl, yR_UL rfl, yR_U rfl]
          refine h _ _ _ _ _ _ ⟨⟨fun j => ?_, fun j => ?_, fun j => ?_, fun j => ?_, fun j => ?_⟩, fun j hj => ⟨fun k a b => ?_, ?_⟩, fun j hj => ⟨?_, ?_⟩, fun e => ⟨?_, ?_, ?_, ?_, fun _ => ⟨?_, ?_⟩⟩, fun k hk => ?_, fun k hk => ?_⟩
          · show τc.1 78 0 j = _; rw [ck 78 (by decide) (by decide)]; exact b1 j
          · show τc.1 79 0 j = _; rw [ck 79 (by decide) (by decide)]; exact b2 j
          · show τc.1 80 0 j = _; rw [ck 80 (by decide) (by decide)]; exact b3 j
          · rw [← b5 81 (by decide) (by decide) (by decide), ← ck 81 (by decide) (by decide)]
            show (if 81 = 81 ∧ j = 7 * m + r ∧ 0 = 0 then _ else τc.1 81 0 j) = _; exact ifk
          · show τc.2 83 0 j = _; rw [ck2]; exact b4 j
          · rcases (show k = 88 ∨ k = 89 ∨ k = 90 by omega) with rfl | rfl | rfl
            · show τc.1 88 0 j = _; rw [c88, if_neg hj]
            · show (if 89 = 89 ∧ j = 7 * m + r ∧ 0 = 0 then _ else τc.1 89 0 j) = _
              rw [if_neg (fun q => hj q.2.1), ck 89 (by decide) (by decide), b5 89 (by decide) (by decide) (by decide)]
            · show τc.1 90 0 j = _; rw [c90, if_neg hj]
          · show (if 86 = 86 ∧ j = 7 * m + r ∧ 0 = 0 then _ else τc.2 86 0 j) = _
            rw [if_neg (fun q => hj q.2.1), ck2, b6 86 (by decide)]
          · show (if 87 = 87 ∧ j = 7 * m + r + 7 ∧ 0 = 0 then _ else τc.1 87 0 j) = _
            rw [if_neg (fun q => hj q.2.1), ck 87 (by decide) (by decide), b5 87 (by decide) (by decide) (by decide)]
          · show (if 85 = 85 ∧ j = 7 * m + r + 7 ∧ 0 = 0 then _ else τc.2 85 0 j) = _
            rw [if_neg (fun q => hj q.2.1), ck2, b6 85 (by decide)]
          · show τc.1 88 0 (7 * m + r) = _; rw [c88, if_pos rfl]
          · show (if 89 = 89 ∧ 7 * m + r = 7 * m + r ∧ 0 = 0 then _ else _) = _; rw [if_pos ⟨rfl, rfl, rfl⟩, w1]
          · show τc.1 90 0 (7 * m + r) = _; rw [c90, if_pos rfl]
          · show (if 86 = 86 ∧ 7 * m + r = 7 * m + r ∧ 0 = 0 then _ else _) = _; rw [if_pos ⟨rfl, rfl, rfl⟩, w1]
          · show (if 87 = 87 ∧ 7 * m + r + 7 = 7 * m + r + 7 ∧ 0 = 0 then _ else _) = _; rw [if_pos ⟨rfl, rfl, rfl⟩]
          · show (if 85 = 85 ∧ 7 * m + r + 7 = 7 * m + r + 7 ∧ 0 = 0 then _ else _) = _; rw [if_pos ⟨rfl, rfl, rfl⟩]
          · rw [zU_off (by omega)]
            show (zU (zU τc 89 0 _ _) 87 0 _ _).1 k = _
            rw [zU_off (by omega), zU_off (by omega), ck k (by omega) (by omega), b5 k (by omega) (by omega) (by omega)]
          · show (zUL (zUL (zU τc 89 0 _ _) 86 0 _ _) 85 0 _ _).2 k = _
            rw [zUL_off (by omega), zUL_off (by omega)]; show τc.2 k = _; rw [ck2, b6 k (by omega)]
      have k7 : zW (((7 * m + r : Nat) : Int) + 7) = ((7 * m + r + 7 : Nat) : Int) := mK7 hr hm
      have vo : zW (uIn (mD σ) V m r (uAm (mD σ) V m r) - uOut (mD σ) V m r (uAm (mD σ) V m r)) = uNx (mD σ) m V 0 r := by rw [zW_id (by omega), w3]
      have ao : ∀ so, so = uOutS (mD σ) V m r (uAm (mD σ) V m r) → zWl (uInS (mD σ) V m r (uAm (mD σ) V m r) - so) = uNx (mD σ) m V 1 r := fun so hso => by rw [hso, zWl_id (by omega), w4]
      by_cases v0 : uIn (mD σ) V m r (uAm (mD σ) V m r) = 0
      · have so : (0 : Int) = uOutS (mD σ) V m r (uAm (mD σ) V m r) := (if_pos v0).symm
        have ff := fin 0 (some (.inl (uOut (mD σ) V m r (uAm (mD σ) V m r)))) so
        refine zb_159f ik (fun q => absurd v0 q) (fun q => absurd v0 q) (fun _ a => by rw [k7]; exact ik7 a) (fun q => absurd v0 q) (fun q => absurd v0 q) (fun _ a => ?_) (fun _ a => ?_)
        · rw [pw]; exact ff.1 (m95i.mp a)
        · rw [pw, k7, vo, ao 0 so]; exact ff.2 (fun q => a (m95i.mpr q))
      · have so : uInS (mD σ) V m r (uAm (mD σ) V m r) * uOut (mD σ) V m r (uAm (mD σ) V m r) / uIn (mD σ) V m r (uAm (mD σ) V m r) = uOutS (mD σ) V m r (uAm (mD σ) V m r) := (if_neg v0).symm
        have p0 : 0 ≤ uInS (mD σ) V m r (uAm (mD σ) V m r) * uOut (mD σ) V m r (uAm (mD σ) V m r) := Int.mul_nonneg ib.1 s5
        have p1 : uInS (mD σ) V m r (uAm (mD σ) V m r) * uOut (mD σ) V m r (uAm (mD σ) V m r) ≤ 25000000 * 3000000 := Int.mul_le_mul ib.2 (by omega) s5 (by decide)
        have sd : zWl ((zWl (uInS (mD σ) V m r (uAm (mD σ) V m r) * uOut (mD σ) V m r (uAm (mD σ) V m r))).tdiv (uIn (mD σ) V m r (uAm (mD σ) V m r))) = uOutS (mD σ) V m r (uAm (mD σ) V m r) := by
          rw [zWl_id (z := uInS (mD σ) V m r (uAm (mD σ) V m r) * uOut (mD σ) V m r (uAm (mD σ) V m r)) (by omega), zTd p0, so, zWl_id (by omega)]
        have ff := fin (uOutS (mD σ) V m r (uAm (mD σ) V m r)) (some (.inl (uOut (mD σ) V m r (uAm (mD σ) V m r)))) rfl
        refine zb_159f ik (fun q => q) (fun _ a => by rw [k7]; exact ik7 a) (fun q => absurd q v0) (fun _ a => ?_) (fun _ a => ?_) (fun q => absurd q v0) (fun q => absurd q v0)
        · rw [pw, sd]; exact ff.1 (m95i.mp a)
        · rw [pw, sd, k7, vo, ao _ rfl]; exact ff.2 (fun q => a (m95i.mpr q))
    have g59 : (yR σ τc).1 59 0 (r : Int).toNat = mD σ 7 r := rfl
    have g56 : (yR σ τc).1 56 0 (r : Int).toNat = mD σ 4 r := rfl
    clear h
    refine zb_159e ik ir (fun a b => ?_) (fun a b => ?_) (fun a b => ?_) (fun a b => ?_)
    · rw [la]; rw [g59] at a; rw [g56] at b
      refine key _ _ _ ?_
      rw [zW_id (by omega)] at b
      unfold uOut uMax uMin; clear key
      (repeat' split) <;> omega
    · rw [la]; rw [g59] at a; rw [g56] at b ⊢
      refine key _ _ _ ?_
      rw [zW_id (by omega)] at b
      rw [zW_id (by omega)]
      unfold uOut uMax uMin; clear key
      (repeat' split) <;> omega
    · rw [la]; rw [g59] at a b ⊢; rw [g56] at b
      refine key _ _ _ ?_
      rw [zW_id (by omega)] at b
      unfold uOut uMax uMin; clear key
      (repeat' split) <;> omega
    · rw [la]; rw [g59] at a b; rw [g56] at b ⊢
      refine key _ _ _ ?_
      rw [zW_id (by omega)] at b
      rw [zW_id (by omega)]
      unfold uOut uMax uMin; clear key
      (repeat' split) <;> omega
