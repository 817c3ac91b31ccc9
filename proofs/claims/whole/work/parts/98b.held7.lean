-- held, the reference's sums (wip/whole/gen/laws71.py)
theorem z7i {m r : Nat} (hm : m < 96) (hr : r < 7) : (0 : Int) ≤ ((7 * m + r : Nat) : Int) ∧ ((7 * m + r : Nat) : Int) < 672 := by omega
theorem vMon_37 {D : uT} {m : Nat} : vMon D 7 m = uSum (vQ D 7 m) 7 ∧ vMon D 3 m = uSum (vQ D 3 m) 7 := by
  have z7 : uSum (vT D 7 m) (uN D) = 0 := uSum_z (fun h _ => rfl)
  have z3 : uSum (vT D 3 m) (uN D) = 0 := uSum_z (fun h _ => rfl)
  have y7 : vZ D 7 m = 0 := rfl
  have y3 : vZ D 3 m = 0 := rfl
  unfold vMon
  rw [z7, z3, y7, y3]
  generalize uSum (vQ D 7 m) 7 = x
  generalize uSum (vQ D 3 m) 7 = y
  omega
theorem zWlB {v s q : Int} (h1 : -100000000000000 ≤ v ∧ v ≤ 100000000000000) (h3 : -15032385536 ≤ s ∧ s ≤ 15032385536) (h2 : -2147483648 ≤ q ∧ q ≤ 2147483648) : zWl (v + s + q) = v + (s + q) := by
  rw [zWlI (by omega)]; omega
theorem zH_j {d : Nat} {t : zS} {Q : Option zV → zS → Prop} {D : uT} {p u a best least w q0 A B : Int} {m : Nat} (O : uOk D) (m96 : m < 96)
    (hA : -100000000000000 ≤ A ∧ A ≤ 100000000000000) (hB : -100000000000000 ≤ B ∧ B ≤ 100000000000000)
    (hL : ∀ j, j < 7 → ¬ D 3 j = 0 → t.1 103 0 (uCnt (D 3) j) = (j : Int)) (h86 : ∀ r, r < 7 → ¬ D 3 r = 0 → t.2 86 0 (7 * m + r) = vPow D r m) (h88 : ∀ r, r < 7 → ¬ D 3 r = 0 → t.1 88 0 (7 * m + r) = uStm D (uV D m) r) {n : Int} (hn : n = (uCnt (D 3) 7 : Int))
    (q : ∀ i : Int, zX (d + 10) 181 130 [some (.inr (.inr (10, 0))), some (.inl p), some (.inl u), some (.inl n), some (.inl a), some (.inl best), some (.inr (.inl least)), none, some (.inl w), some (.inl q0), some (.inr (.inl (A + uSum (vQ D 7 m) 7))), none, some (.inr (.inl (B + uSum (vQ D 3 m) 7))), none, some (.inl ((m + 1 : Nat) : Int)), some (.inl i)] [] t Q) :
    zX (d + 10) 181 135 [some (.inr (.inr (10, 0))), some (.inl p), some (.inl u), some (.inl n), some (.inl a), some (.inl best), some (.inr (.inl least)), none, some (.inl w), some (.inl q0), some (.inr (.inl (A))), none, some (.inr (.inl (B))), none, some (.inl (m : Int)), some (.inl 0)] [] t Q := by
  have b7 : ∀ r, r ≤ 7 → -15032385536 ≤ uSum (vQ D 7 m) r ∧ uSum (vQ D 7 m) r ≤ 15032385536 := fun r hr => uSum_p (B := 2147483648) (n := 7) (by decide) hr (fun k hk => vQ_b O m96 hk)
  have b3 : ∀ r, r ≤ 7 → -15032385536 ≤ uSum (vQ D 3 m) r ∧ uSum (vQ D 3 m) r ≤ 15032385536 := fun r hr => uSum_p (B := 2147483648) (n := 7) (by decide) hr (fun k hk => vQ_b O m96 hk)
  have mz : zW ((m : Int) + 1) = ((m + 1 : Nat) : Int) := zWs (Nat.lt_trans m96 (by decide))
  have L := zLoop (P := fun r => zX (d + 10) 181 135 [some (.inr (.inr (10, 0))), some (.inl p), some (.inl u), some (.inl n), some (.inl a), some (.inl best), some (.inr (.inl least)), none, some (.inl w), some (.inl q0), some (.inr (.inl (A + uSum (vQ D 7 m) r))), none, some (.inr (.inl (B + uSum (vQ D 3 m) r))), none, some (.inl (m : Int)), some (.inl (uCnt (D 3) r : Int))] [] t Q) (k := 0) (N := 7) (Nat.zero_le _) ?_ (fun r _ hr ih => ?_)
  · have L : zX (d + 10) 181 135 [some (.inr (.inr (10, 0))), some (.inl p), some (.inl u), some (.inl n), some (.inl a), some (.inl best), some (.inr (.inl least)), none, some (.inl w), some (.inl q0), some (.inr (.inl (A + 0))), none, some (.inr (.inl (B + 0))), none, some (.inl (m : Int)), some (.inl ((0 : Nat) : Int))] [] t Q := L
    rw [Int.add_zero, Int.add_zero] at L
    exact L
  · have le : n ≤ (uCnt (D 3) 7 : Int) := Int.le_of_eq hn
    refine zb_181j (fun c => absurd le c) (fun c => absurd le c) (fun _ => ?_) (fun c => absurd le c)
    rw [mz]; exact q _
  · by_cases c : D 3 r = 0
    · have e : uCnt (D 3) (r + 1) = uCnt (D 3) r := if_pos c
      have e7 : uSum (vQ D 7 m) (r + 1) = uSum (vQ D 7 m) r := by
        show uSum (vQ D 7 m) r + (if D 3 r = 0 then 0 else vPow D r m) = _
        rw [if_pos c, Int.add_zero]
      have e3 : uSum (vQ D 3 m) (r + 1) = uSum (vQ D 3 m) r := by
        show uSum (vQ D 3 m) r + (if D 3 r = 0 then 0 else uStm D (uV D m) r) = _
        rw [if_pos c, Int.add_zero]
      rw [e, e7, e3] at ih
      exact ih
    · have e : uCnt (D 3) (r + 1) = uCnt (D 3) r + 1 := if_neg c
      have lt := uCnt_lt (th := D 3) hr c
      have c7 : uCnt (D 3) r < 7 := Nat.lt_of_le_of_lt uCnt_le hr
      have nl : ¬ n ≤ (uCnt (D 3) r : Int) := by rw [hn]; exact Int.not_le.mpr (Int.ofNat_lt.mpr lt)
      have cz : zW ((uCnt (D 3) r : Int) + 1) = ((uCnt (D 3) r + 1 : Nat) : Int) := zWs (Nat.lt_trans c7 (by decide))
      have lk : t.1 103 0 (uCnt (D 3) r : Int).toNat = (r : Int) := hL r hr c
      have zx : zW ((zW (7 * (m : Int))) + (r : Int)) = ((7 * m + r : Nat) : Int) := zW7 m96 hr
      have ix : (0 : Int) ≤ ((7 * m + r : Nat) : Int) ∧ ((7 * m + r : Nat) : Int) < 672 := z7i m96 hr
      have q7 : t.2 86 0 (((7 * m + r : Nat) : Int)).toNat = vQ D 7 m r := (h86 r hr c).trans (show (if D 3 r = 0 then 0 else vPow D r m) = _ from if_neg c).symm
      have q3 : t.1 88 0 (((7 * m + r : Nat) : Int)).toNat = vQ D 3 m r := (h88 r hr c).trans (show (if D 3 r = 0 then 0 else uStm D (uV D m) r) = _ from if_neg c).symm
      refine zb_181j (fun _ => (hc1 c7).2.2.1) (fun _ => by rw [lk, zx]; exact ix) (fun z => absurd z nl) (fun _ => ?_)
      rw [lk, zx, q7, q3, cz, zWlB hA (b7 r (Nat.le_of_lt hr)) (vQ_b O m96 hr), zWlB hB (b3 r (Nat.le_of_lt hr)) (vQ_b O m96 hr)]
      rw [e] at ih
      exact ih
theorem zH_i {d : Nat} {t : zS} {Q : Option zV → zS → Prop} {D : uT} {p u a best least w q0 n : Int} (O : uOk D)
    (hL : ∀ j, j < 7 → ¬ D 3 j = 0 → t.1 103 0 (uCnt (D 3) j) = (j : Int)) (h86 : ∀ m r, m < 96 → r < 7 → ¬ D 3 r = 0 → t.2 86 0 (7 * m + r) = vPow D r m) (h88 : ∀ m r, m < 96 → r < 7 → ¬ D 3 r = 0 → t.1 88 0 (7 * m + r) = uStm D (uV D m) r) (hn : n = (uCnt (D 3) 7 : Int))
    (q : ∀ (m : Int) (x : Option zV), zX (d + 10) 181 171 [some (.inr (.inr (10, 0))), some (.inl p), some (.inl u), some (.inl n), some (.inl a), some (.inl best), some (.inr (.inl least)), none, some (.inl w), some (.inl q0), some (.inr (.inl (uSum (fun m => vMon D 7 m) 96))), none, some (.inr (.inl (uSum (fun m => vMon D 3 m) 96))), none, some (.inl m), x] [] t Q) (x : Option zV) :
    zX (d + 10) 181 130 [some (.inr (.inr (10, 0))), some (.inl p), some (.inl u), some (.inl n), some (.inl a), some (.inl best), some (.inr (.inl least)), none, some (.inl w), some (.inl q0), some (.inr (.inl (0))), none, some (.inr (.inl (0))), none, some (.inl 0), x] [] t Q := by
  have b7 : ∀ m, m ≤ 96 → -4947802324992 ≤ uSum (fun m => vMon D 7 m) m ∧ uSum (fun m => vMon D 7 m) m ≤ 4947802324992 := fun m hm => uSum_p (f := fun m => vMon D 7 m) (B := 51539607552) (n := 96) (by decide) hm (fun k hk => vMon_b O hk)
  have b3 : ∀ m, m ≤ 96 → -4947802324992 ≤ uSum (fun m => vMon D 3 m) m ∧ uSum (fun m => vMon D 3 m) m ≤ 4947802324992 := fun m hm => uSum_p (f := fun m => vMon D 3 m) (B := 51539607552) (n := 96) (by decide) hm (fun k hk => vMon_b O hk)
  have L := zLoop (P := fun m => ∀ x : Option zV, zX (d + 10) 181 130 [some (.inr (.inr (10, 0))), some (.inl p), some (.inl u), some (.inl n), some (.inl a), some (.inl best), some (.inr (.inl least)), none, some (.inl w), some (.inl q0), some (.inr (.inl (uSum (fun m => vMon D 7 m) m))), none, some (.inr (.inl (uSum (fun m => vMon D 3 m) m))), none, some (.inl (m : Int)), x] [] t Q) (k := 0) (N := 96) (Nat.zero_le _) (fun x => ?_) (fun m _ hm ih x => ?_)
  · exact L x
  · exact zb_181i (fun _ => q _ _) (fun c => absurd (by decide) c)
  · have nl : ¬ (96 : Int) ≤ (m : Int) := Int.not_le.mpr (Int.ofNat_lt.mpr hm)
    have x7 := b7 m (Nat.le_of_lt hm)
    have x3 := b3 m (Nat.le_of_lt hm)
    refine zb_181i (fun c => absurd c nl) (fun _ => ?_)
    refine zH_j O hm ⟨Int.le_trans (by decide) x7.1, Int.le_trans x7.2 (by decide)⟩ ⟨Int.le_trans (by decide) x3.1, Int.le_trans x3.2 (by decide)⟩ hL (fun r => h86 m r hm) (fun r => h88 m r hm) hn (fun i => ?_)
    have k := ih (some (.inl i))
    have e7 : uSum (fun m => vMon D 7 m) (m + 1) = uSum (fun m => vMon D 7 m) m + uSum (vQ D 7 m) 7 := by
      show uSum (fun m => vMon D 7 m) m + vMon D 7 m = _
      rw [vMon_37.1]
    have e3 : uSum (fun m => vMon D 3 m) (m + 1) = uSum (fun m => vMon D 3 m) m + uSum (vQ D 3 m) 7 := by
      show uSum (fun m => vMon D 3 m) m + vMon D 3 m = _
      rw [vMon_37.2]
    rw [e7, e3] at k
    exact k
