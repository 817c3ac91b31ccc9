-- the machine follows the constructors' run: calls, Arrays.fill, whole (wip/whole/gen/laws91.py)
theorem gArr_cong {cI : ClassId} {N : Nat} {f g : Nat → Int32} (h : ∀ j, j < N → f j = g j) : vp_cell cI (N, .inl f) = vp_cell cI (N, .inl g) := by
  show arrV cI N (fun j => .int (f j)) = arrV cI N (fun j => .int (g j))
  have e : (fun j : Fin N => Value.int (f j.val)) = fun j : Fin N => Value.int (g j.val) := funext fun j => by rw [h j.val j.isLt]
  unfold arrV
  rw [e]
theorem gP_cong {D : va_G} {b : Nat} {cA : Nat → ClassId} {h : List gE} {q N : Nat} {f g : Nat → Int32} {H : Heap} (hq : q < h.length) (hP : va_P D vwCl (gWs b cA (h.set q (.inr (.inl (1, N, f))))) H) (hc : ∀ j, j < N → f j = g j) : va_P D vwCl (gWs b cA (h.set q (.inr (.inl (1, N, g))))) H := by
  intro k p hk
  by_cases e : k = q
  · subst e
    have h1 := hP k _ (gWs_at (List.getElem?_set_self hq))
    rw [gWs_at (List.getElem?_set_self hq)] at hk
    cases hk
    show H[b + k]? = some (vp_cell (cA 1) (N, .inl g))
    rw [← gArr_cong hc]
    exact h1
  · rw [gWs_get, List.getElem?_set_ne (Ne.symm e)] at hk
    exact hP k p (by rw [gWs_get, List.getElem?_set_ne (Ne.symm e)]; exact hk)
theorem gSet_self {h : List gE} {q : Nat} {x : gE} (hq : h[q]? = some x) : h.set q x = h := by
  apply List.ext_getElem?
  intro j
  by_cases e : j = q
  · subst e
    rw [List.getElem?_set_self (List.getElem?_eq_some_iff.mp hq).1, hq]
  · rw [List.getElem?_set_ne (Ne.symm e)]
section GF
variable {p : Program} {l : Launch} {e : Env} {R : Room} {s : State} {m : MethodId} {args : Array Value} {below : List Frame} {meth : Method} {c : Code} {H : Heap} {locs : List Loc} {cells slots : Nat} {Q : State → Prop} {pc : Nat} {ls : Array Slot} {rest : List Value} {cc : ByteArray} {b nL : Nat}
theorem gIst (hx : p.tables.exec = Jvm.exec) (hb : c.code = cc) {als : List gV} {a : Nat} {v : Int32} {k : Fin 4} (hka : (k : Nat) = a) (hL : rvLR (gAd b) nL (als.map gO) ls) (ha : a < nL) (hal : a < als.length) (hd : decode cc pc = .ok (.istore_n k, 1))
    (kk : ∀ ls' : Array Slot, rvLR (gAd b) nL ((als.set a (.inl v)).map gO) ls' → W p l e R s m args below meth c H locs cells slots Q (F0 m (pc + 1) ls' rest)) : W p l e R s m args below meth c H locs cells slots Q (F0 m pc ls (.int v :: rest)) := by
  have hk := fun ls' (h9 : lv_has ls' nL ((a, Value.int v) :: (rvPr (gAd b) (als.map gO)).filter (fun q => !(q.1 == a) && !(q.1 + 1 == a && q.2.category == 2)))) => kk ls' (by
    have := rvLR_st1 (v := .inl v) h9
    rw [gO_set (v := .inl v) rfl hal] at this
    exact this)
  exact lv_istore_n hx hb hd hka (rvLR_has hL) ha rfl hk
def cF : ByteArray := (rvM 190).2.1
set_option maxRecDepth 100000 in
theorem cF_0 : decode cF 0 = .ok (.iconst 0, 1) ∧ decode cF 1 = .ok (.istore_n 2, 1) ∧ decode cF 2 = .ok (.aload_n 0, 1) ∧ decode cF 3 = .ok (.arraylength, 1) ∧ decode cF 4 = .ok (.istore_n 3, 1) ∧ decode cF 5 = .ok (.iload_n 2, 1) ∧ decode cF 6 = .ok (.iload_n 3, 1) ∧ decode cF 7 = .ok (.if_icmp .ge 13, 3) := by decide +kernel
set_option maxRecDepth 100000 in
theorem cF_1 : decode cF 10 = .ok (.aload_n 0, 1) ∧ decode cF 11 = .ok (.iload_n 2, 1) ∧ decode cF 12 = .ok (.iload_n 1, 1) ∧ decode cF 13 = .ok (.iastore, 1) ∧ decode cF 14 = .ok (.iinc 2 1, 3) ∧ decode cF 17 = .ok (.goto (-12), 3) ∧ decode cF 20 = .ok (.return_, 1) := by decide +kernel
theorem gSm {n : Nat} (h : n ≤ 100000) : (Int32.ofNat n).toInt = (n : Int) := rvOfNat_small (by omega)
def gFi (f : Nat → Int32) (v : Int32) (i : Nat) : Nat → Int32 := fun j => if j < i then v else f j
theorem gFi_s (f : Nat → Int32) (v : Int32) (i : Nat) : upd (gFi f v i) i v = gFi f v (i + 1) := by
  funext j
  unfold upd gFi
  by_cases e : j = i
  · rw [if_pos e, if_pos (by omega)]
  · rw [if_neg e]
    by_cases e2 : j < i
    · rw [if_pos e2, if_pos (by omega)]
    · rw [if_neg e2, if_neg (by omega)]
theorem gFill_loop (hx : p.tables.exec = Jvm.exec) (hb : c.code = cF) (hrt : meth.sig.returnType = none) (hlk : meth.locks = false) {cA : Nat → ClassId} {D : va_G} (hK : va_K D vwCl (rvTys cA) s) {h : List gE} {q N : Nat} {f : Nat → Int32} {v : Int32} (hq : h[q]? = some (.inr (.inl (1, N, f)))) (hN : N ≤ 100000) (e0 : s.heap.size = b + h.length) :
    ∀ (k i : Nat), N ≤ i + k → i ≤ N → ∀ (H : Heap) (locs : List Loc) (ls : Array Slot), va_P D vwCl (gWs b cA (h.set q (.inr (.inl (1, N, gFi f v i))))) H → va_S (fun q => b ≤ q) s.heap H locs → rvLR (gAd b) 4 (([.inr (some q), .inl v, .inl (Int32.ofNat i), .inl (Int32.ofNat N)] : List gV).map gO) ls →
      W p l e R s m args below meth c H locs 0 0 (MQ below (gQc D cA b (h.set q (.inr (.inl (1, N, fun _ => v))))) args s 0 0 (fun q => b ≤ q)) (F0 m 5 ls []) := by
  have hql := (List.getElem?_eq_some_iff.mp hq).1
  intro k
  induction k with
  | zero =>
    intro i h1 h2 H locs ls hP hS hL
    have hi : i = N := by omega
    refine lv_iload_n hx hb cF_0.2.2.2.2.2.1 (i := 2) rfl (gLoc hL (a := 2) (v := .inl (Int32.ofNat i)) rfl rfl) ?_
    refine lv_iload_n hx hb cF_0.2.2.2.2.2.2.1 (i := 3) rfl (gLoc hL (a := 3) (v := .inl (Int32.ofNat N)) rfl rfl) ?_
    refine lv_icmp_ge (tgt := 20) hx hb cF_0.2.2.2.2.2.2.2 (by omega) (fun _ => ?_) (fun z => ?_)
    · refine gW_size hP (by rw [List.length_set]; exact e0) (by rw [List.length_set]; omega) (fun hz => ?_)
      refine W.vret hx hb hrt (fun t ht _ => ⟨⟨rfl, by rw [ht]; exact gP_cong hql hP (fun j hj => by unfold gFi; rw [if_pos (by omega)]), by rw [ht, hz, List.length_set, List.length_set]⟩, hS.F ht⟩) hS.2.2 cF_1.2.2.2.2.2.2 hlk
    · refine absurd (Int32.le_iff_toInt_le.mpr ?_) z
      rw [gSm hN, gSm (by omega)]
      omega
  | succ k ih =>
    intro i h1 h2 H locs ls hP hS hL
    refine lv_iload_n hx hb cF_0.2.2.2.2.2.1 (i := 2) rfl (gLoc hL (a := 2) (v := .inl (Int32.ofNat i)) rfl rfl) ?_
    refine lv_iload_n hx hb cF_0.2.2.2.2.2.2.1 (i := 3) rfl (gLoc hL (a := 3) (v := .inl (Int32.ofNat N)) rfl rfl) ?_
    refine lv_icmp_ge (tgt := 20) hx hb cF_0.2.2.2.2.2.2.2 (by omega) (fun z => ?_) (fun z => ?_)
    · have hi : i = N := by
        have := Int32.le_iff_toInt_le.mp z
        rw [gSm hN, gSm (by omega)] at this
        omega
      refine gW_size hP (by rw [List.length_set]; exact e0) (by rw [List.length_set]; omega) (fun hz => ?_)
      refine W.vret hx hb hrt (fun t ht _ => ⟨⟨rfl, by rw [ht]; exact gP_cong hql hP (fun j hj => by unfold gFi; rw [if_pos (by omega)]), by rw [ht, hz, List.length_set, List.length_set]⟩, hS.F ht⟩) hS.2.2 cF_1.2.2.2.2.2.2 hlk
    · have hi : i < N := by
        by_cases e9 : i < N
        · exact e9
        · refine absurd (Int32.le_iff_toInt_le.mpr ?_) z
          rw [gSm hN, gSm (by omega)]
          omega
      refine lv_aload_n hx hb cF_1.1 (i := 0) rfl (gLoc hL (a := 0) (v := .inr (some q)) rfl rfl) ?_
      refine lv_iload_n hx hb cF_1.2.1 (i := 2) rfl (gLoc hL (a := 2) (v := .inl (Int32.ofNat i)) rfl rfl) ?_
      refine lv_iload_n hx hb cF_1.2.2.1 (i := 1) rfl (gLoc hL (a := 1) (v := .inl v) rfl rfl) ?_
      have hq2 : (h.set q (.inr (.inl (1, N, gFi f v i))))[q]? = some (.inr (.inl (1, N, gFi f v i))) := List.getElem?_set_self hql
      have hc : 0 ≤ (Int32.ofNat i).toInt ∧ (Int32.ofNat i).toInt < (N : Int) := by rw [gSm (by omega)]; omega
      refine va_iast hx hb hK hP (gWs_D b cA _) hS q 0 (gWs_at hq2) (rvTys_get cA (t := 1) (by decide) (by decide)) (rvIn hc) cF_1.2.2.2.1 (fun H1 locs1 a1 a2 a3 => ?_)
      have ei : (Int32.ofNat i).toNatClampNeg = i := by
        rw [rvCl, gSm (by omega)]; rfl
      rw [ei, gFi_s] at a1
      rw [show (gWs b cA (h.set q (.inr (.inl (1, N, gFi f v i))))).set q (b + q, .inl (cA 1, N, .inl (gFi f v (i + 1)))) = _ from gW_at (y := .inr (.inl (1, N, gFi f v (i + 1)))) hq2, List.set_set] at a1
      obtain ⟨k9, hk9⟩ := List.getElem?_of_mem (rvPr_mem (A := gAd b) (als := ([.inr (some q), .inl v, .inl (Int32.ofNat i), .inl (Int32.ofNat N)] : List gV).map gO) (j := 2) (w := .inl (Int32.ofNat i)) rfl)
      have ev : Int32.ofNat i + Int32.ofInt 1 = Int32.ofNat (i + 1) := by
        rw [Int32.ofNat_add]; rfl
      refine lv_iinc hx hb cF_1.2.2.2.2.1 (rvLR_has hL) hk9 ev (by decide) rfl (fun ls' h9 => ?_)
      have hL2 : rvLR (gAd b) 4 (([.inr (some q), .inl v, .inl (Int32.ofNat (i + 1)), .inl (Int32.ofNat N)] : List gV).map gO) ls' := by
        have := rvLR_st1 (v := .inl (Int32.ofNat (i + 1))) h9
        rw [gO_set (v := .inl (Int32.ofNat (i + 1))) rfl (show 2 < 4 by decide)] at this
        exact this
      exact lv_goto (tgt := 5) hx hb cF_1.2.2.2.2.2.1 (by omega) (ih (i + 1) (by omega) (by omega) H1 locs1 ls' a1 a3 hL2)
end GF
