-- sum, both sides (wip/whole/gen/laws48.py)
theorem vQ_b {D : uT} {w : Int} {r m : Nat} (O : uOk D) (hm : m < 96) (hr : r < 7) : -2147483648 ≤ vQ D w m r ∧ vQ D w m r ≤ 2147483648 := by
  have d0 := O.1 r m hr hm
  have rt := uRet_u (r := r) O (uV_k O m (Nat.le_of_lt hm))
  have st : -2147483648 ≤ uStm D (uV D m) r ∧ uStm D (uV D m) r ≤ 2147483648 := zW_b
  have pw : -2147483648 ≤ vPow D r m ∧ vPow D r m ≤ 2147483648 := zW_b
  unfold vQ
  clear O
  generalize D 0 (96 * r + m) = b at *
  generalize uStm D (uV D m) r = e at *
  generalize uRet D (uV D m) r = f at *
  generalize vPow D r m = i at *
  (repeat' split) <;> omega
theorem uBack_b {D V : uT} {B : Int} {h : Nat} (hV : uVk D V B) (hh : h < uN D) : 0 ≤ uBack D h (V 2 h) ∧ uBack D h (V 2 h) ≤ 19999 := by
  have k := hV.2.1 h hh
  have g := uGb_b (k := D 8 h) k.1 k.2.2.1
  exact g.2
theorem vT_b {D : uT} {w : Int} {h m : Nat} (O : uOk D) (hm : m < 96) (hh : h < uN D) : -2147483648 ≤ vT D w m h ∧ vT D w m h ≤ 2147483648 := by
  have k := uV_k O (m + 1) hm
  have g := (k.2.1 h hh).2.1
  have g0 := (k.2.1 h hh).1
  have b := uBack_b k hh
  unfold vT
  clear O k
  generalize uV D (m + 1) 2 h = x at *
  generalize uBack D h x = y at *
  (repeat' split) <;> omega
theorem vZ_b {D : uT} {w : Int} {m : Nat} (O : uOk D) (hm : m < 96) : -2147483648 ≤ vZ D w m ∧ vZ D w m ≤ 2147483648 := by
  have on : 0 ≤ vOn D 6 m ∧ vOn D 6 m ≤ 2089807 := (uOn_b (r := 6) O hm (by decide)).1
  unfold vZ
  split <;> omega
theorem vMon_b {D : uT} {w : Int} {m : Nat} (O : uOk D) (hm : m < 96) : -51539607552 ≤ vMon D w m ∧ vMon D w m ≤ 51539607552 := by
  have a := vZ_b (w := w) O hm
  have b := uSum_ab (B := 2147483648) (n := 7) (fun r hr => vQ_b (w := w) O hm hr)
  have c := uSum_ab (B := 2147483648) (n := uN D) (fun h hh => vT_b (w := w) O hm hh)
  have N := O.2.2.2.2.1
  unfold vMon
  clear O
  generalize vZ D w m = x at *
  generalize uSum (vQ D w m) 7 = y at *
  generalize uSum (vT D w m) (uN D) = z at *
  generalize uN D = n at *
  omega
theorem zs_24 {d : Nat} {σ : zS} {Q : Option zV → zS → Prop} {f r m : Nat} {w M : Int} {D : uT} (O : uOk D) (W : cWk σ f D M) (hm : (m : Int) < M) (m96 : m < 96) (hr : r < 7) (hw : 0 ≤ w ∧ w ≤ 7) (q : Q (some (.inl (vP D w r m))) σ) : zM (d + 12) 24 [.inr (.inr (0, f)), .inl w, .inl (r : Int), .inl (m : Int)] σ Q := by
  have row := cw_r W hm hr
  have th := cw_th W hr
  have E : ∀ v, vP D w r m = v → Q (some (.inl v)) σ := fun v e => e ▸ q
  have ir : (0 : Int) ≤ (r : Int) ∧ (r : Int) < 7 := by omega
  have im : (0 : Int) ≤ (m : Int) ∧ (m : Int) < 96 := by omega
  have im2 : (0 : Int) ≤ (m : Int) ∧ (m : Int) < 97 := by omega
  refine zb_24 ir (fun _ => ir) (fun _ => im) (fun _ _ => im) (fun _ => ir) (fun _ => im) (fun _ => im) (fun _ => ir) (fun _ => im2) (fun _ => ir) (fun _ => im) (fun _ _ => im) (fun _ _ _ => im)
    (fun a => E _ ?_) (fun a b => E _ ?_) (fun a b => E _ ?_) (fun a => E _ ?_) (fun a => E _ ?_) (fun a => E _ ?_) (fun a => E _ ?_) (fun a b => E _ ?_) (fun a b => E _ ?_) (fun a b => E _ ?_) (fun a b c => E _ ?_) (fun a b c => E _ ?_)
  · obtain rfl : w = 7 := by omega
    show (if D 3 r = 0 then 0 else vPow D r m) = cPow σ f r m
    by_cases t : D 3 r = 0
    · rw [if_pos t]; unfold cPow cHead; rw [if_pos (th.trans t), Int.zero_mul]; rfl
    · rw [if_neg t, (cw_st W hm hr t).2.2.2]; rfl
  · subst a
    show (if r = 6 then vOn D r m else 0) = 0
    exact if_neg (by omega)
  · subst a
    show (if r = 6 then vOn D r m else 0) = _
    rw [if_pos (by omega)]; exact row.2.2.2.1.symm
  · subst a; exact ((cw_d W).1.1 r m hr m96).symm
  · subst a
    show uWat D (uV D m) m r (uAm D (uV D m) m r) - vOn D r m = _
    have e1 : σ.1 21 (7 * f + (r : Int).toNat) (m : Int).toNat = uWat D (uV D m) m r (uAm D (uV D m) m r) := row.2.2.1
    have e2 : σ.1 22 (7 * f + (r : Int).toNat) (m : Int).toNat = vOn D r m := row.2.2.2.1
    rw [e1, e2]
    have B := (uBd O m96 hr (uV_k O m (Nat.le_of_lt m96))).2.2.2.2.2.2.2.1
    have on : 0 ≤ vOn D r m ∧ vOn D r m ≤ 2089807 := (uOn_b O m96 hr).1
    clear E row e1 e2 q
    generalize vOn D r m = x at *
    generalize uWat D (uV D m) m r (uAm D (uV D m) m r) = y at *
    unfold zW; omega
  · subst a
    show (if D 3 r = 0 then 0 else uStm D (uV D m) r) = cStm σ f r m
    by_cases t : D 3 r = 0
    · rw [if_pos t]; unfold cStm; rw [if_pos (th.trans t)]
    · rw [if_neg t, (cw_st W hm hr t).1]
  · subst a; exact (cw_ret O W hm hr).symm
  · subst a
    show (if r = 6 then uRet D (uV D (m + 1)) (r + 1) else 0) = 0
    exact if_neg (by omega)
  · subst a
    show (if r = 6 then uRet D (uV D (m + 1)) (r + 1) else 0) = _
    rw [if_pos (by omega)]; exact row.2.2.2.2.2.1.symm
  · subst a
    show (if ¬ r = 6 ∧ m = 95 then uRet D (uV D (m + 1)) (r + 1) else 0) = 0
    exact if_neg (fun k => k.1 (by omega))
  · subst a
    show (if ¬ r = 6 ∧ m = 95 then uRet D (uV D (m + 1)) (r + 1) else 0) = 0
    exact if_neg (fun k => c (by omega))
  · subst a
    show (if ¬ r = 6 ∧ m = 95 then uRet D (uV D (m + 1)) (r + 1) else 0) = _
    rw [if_pos ⟨by omega, by omega⟩]; exact row.2.2.2.2.2.1.symm
theorem zs_23 {d : Nat} {σ : zS} {Q : Option zV → zS → Prop} {f : Nat} {w : Int} {D : uT} (O : uOk D) (W : cWk σ f D 96) (hw : 0 ≤ w ∧ w ≤ 7) (q : Q (some (.inr (.inl (uSum (fun m => vMon D w m) 96)))) σ) : zM (d + 13) 23 [.inr (.inr (0, f)), .inl w] σ Q := by
  rw [← uSum_congr (f := fun m => uSum (fun r => vP D w r m) 7) (fun m _ => vMon_eq O hw), ← uSum_sw] at q
  have b1 : ∀ r m, r < 7 → m ≤ 96 → -206158430208 ≤ uSum (fun m => vP D w r m) m ∧ uSum (fun m => vP D w r m) m ≤ 206158430208 := fun r m hr hm => by
    have h := uSum_ab (f := fun m => vP D w r m) (B := 2147483648) (n := m) (fun k hk => vP_b O (Nat.lt_of_lt_of_le hk hm) hr)
    clear q W O
    generalize uSum (fun m => vP D w r m) m = x at *
    omega
  have b2 : ∀ r, r ≤ 7 → -1443109011456 ≤ uSum (fun r => uSum (fun m => vP D w r m) 96) r ∧ uSum (fun r => uSum (fun m => vP D w r m) 96) r ≤ 1443109011456 := fun r hr => by
    have h := uSum_ab (f := fun r => uSum (fun m => vP D w r m) 96) (B := 206158430208) (n := r) (fun k hk => b1 k 96 (Nat.lt_of_lt_of_le hk hr) (Nat.le_refl _))
    clear q W O b1
    generalize uSum (fun r => uSum (fun m => vP D w r m) 96) r = x at *
    omega
  refine zb_23 ?_
  have L := zLoop (P := fun r => ∀ x : Option zV, zX (d + 13) 23 4 [some (.inr (.inr (0, f))), some (.inl w), some (.inr (.inl (uSum (fun r => uSum (fun m => vP D w r m) 96) r))), none, some (.inl (r : Int)), x] [] σ Q) (k := 0) (N := 7) (by omega) (fun x => zb_23o (fun _ => q) (fun a => absurd (by decide) a)) (fun r _ hr ih x => ?_)
  · exact L none
  · have nl : ¬ (7 : Int) ≤ (r : Int) := by clear b1 b2 q ih; omega
    have hz : zW ((r : Int) + 1) = ((r + 1 : Nat) : Int) := zWs (by clear b1 b2 q ih; omega)
    refine zb_23o (fun a => absurd a nl) (fun _ => ?_)
    have I := zLoop (P := fun m => zX (d + 13) 23 9 [some (.inr (.inr (0, f))), some (.inl w), some (.inr (.inl (uSum (fun r => uSum (fun m => vP D w r m) 96) r + uSum (fun m => vP D w r m) m))), none, some (.inl (r : Int)), some (.inl (m : Int))] [] σ Q) (k := 0) (N := 96) (by omega) ?_ (fun m _ hm ih2 => ?_)
    · have I : zX (d + 13) 23 9 [some (.inr (.inr (0, f))), some (.inl w), some (.inr (.inl (uSum (fun r => uSum (fun m => vP D w r m) 96) r + 0))), none, some (.inl (r : Int)), some (.inl ((0 : Nat) : Int))] [] σ Q := I
      rw [Int.add_zero] at I
      exact I
    · refine zb_23i (fun _ => ?_) (fun a => absurd (by decide) a)
      rw [hz]
      exact ih _
    · have nm : ¬ (96 : Int) ≤ (m : Int) := by clear b1 b2 q ih ih2; omega
      have hz2 : zW ((m : Int) + 1) = ((m + 1 : Nat) : Int) := zWs (by clear b1 b2 q ih ih2; omega)
      have hm2 : (m : Int) < 96 := by clear b1 b2 q ih ih2; omega
      refine zb_23i (fun a => absurd a nm) (fun _ => ?_)
      refine zX_call rfl rfl ?_
      refine zs_24 (d := d) O W hm2 hm hr hw ?_
      refine zb_23p ?_
      have x1 := b1 r m hr (Nat.le_of_lt hm)
      have x2 := b2 r (Nat.le_of_lt hr)
      have x3 := vP_b (w := w) O hm hr
      have e : zWl (uSum (fun r => uSum (fun m => vP D w r m) 96) r + uSum (fun m => vP D w r m) m + vP D w r m) = uSum (fun r => uSum (fun m => vP D w r m) 96) r + (uSum (fun m => vP D w r m) m + vP D w r m) := by
        clear q ih ih2 W b1 b2
        generalize uSum (fun r => uSum (fun m => vP D w r m) 96) r = a at *
        generalize uSum (fun m => vP D w r m) m = b at *
        generalize vP D w r m = c at *
        rw [zWlI (by omega)]; omega
      rw [e, hz2]
      exact ih2
