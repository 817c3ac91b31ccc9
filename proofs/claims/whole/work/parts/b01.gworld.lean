-- the heap of the constructors' machine as a world, and as the small machine's world
def gTr (b : Nat) : gV → Value
  | .inl v => .int v
  | .inr (some k) => .ref (b + k)
  | .inr none => .null
def gEnt (b : Nat) (cA : Nat → ClassId) : gE → va_E
  | .inl (k, fs) => .inr (k, fs.map (gTr b))
  | .inr (.inl (t, N, f)) => .inl (cA t, N, .inl f)
  | .inr (.inr (.inl N)) => .inl (cA 2, N, .inr (.inl (fun _ => 0)))
  | .inr (.inr (.inr (t, N, f))) => .inl (cA t, N, .inr (.inr (.inr (.inr (fun j => (f j).map (fun k => b + k))))))
def gWs (b : Nat) (cA : Nat → ClassId) (h : List gE) : va_W := (List.range h.length).map (fun j => (b + j, gEnt b cA (h.getD j (.inr (.inr (.inl 0))))))
theorem gWs_get (b : Nat) (cA : Nat → ClassId) (h : List gE) (j : Nat) : (gWs b cA h)[j]? = (h[j]?).map (fun e => (b + j, gEnt b cA e)) := by
  rw [gWs, List.getElem?_map]
  by_cases hj : j < h.length
  · rw [List.getElem?_range hj]
    show some (b + j, gEnt b cA (h.getD j (.inr (.inr (.inl 0))))) = _
    rw [List.getD_eq_getElem?_getD, List.getElem?_eq_getElem hj]
    rfl
  · rw [List.getElem?_eq_none (by rw [List.length_range]; omega), List.getElem?_eq_none (by omega)]
    rfl
theorem gWs_at {b : Nat} {cA : Nat → ClassId} {h : List gE} {j : Nat} {e : gE} (he : h[j]? = some e) : (gWs b cA h)[j]? = some (b + j, gEnt b cA e) := by rw [gWs_get, he]; rfl
theorem gWs_len (b : Nat) (cA : Nat → ClassId) (h : List gE) : (gWs b cA h).length = h.length := by simp [gWs]
theorem gWs_set {b : Nat} {cA : Nat → ClassId} {h : List gE} {q : Nat} {e : gE} (hq : q < h.length) : (gWs b cA h).set q (b + q, gEnt b cA e) = gWs b cA (h.set q e) := by
  apply List.ext_getElem?
  intro j
  rw [gWs_get]
  by_cases hj : j = q
  · subst hj
    rw [List.getElem?_set_self (by rw [gWs_len]; exact hq), List.getElem?_set_self hq]
    rfl
  · rw [List.getElem?_set_ne (Ne.symm hj), List.getElem?_set_ne (Ne.symm hj), gWs_get]
theorem gWs_push {b : Nat} {cA : Nat → ClassId} {h : List gE} {e : gE} : gWs b cA (h ++ [e]) = gWs b cA h ++ [(b + h.length, gEnt b cA e)] := by
  apply List.ext_getElem?
  intro j
  rw [gWs_get]
  by_cases hj : j < h.length
  · rw [List.getElem?_append_left hj, List.getElem?_append_left (by rw [gWs_len]; exact hj), gWs_get]
  · rw [List.getElem?_append_right (by omega), List.getElem?_append_right (by rw [gWs_len]; omega), gWs_len]
    by_cases hj2 : j = h.length
    · subst hj2
      rw [Nat.sub_self]
      rfl
    · rw [List.getElem?_eq_none (by simp only [List.length_cons, List.length_nil]; omega), List.getElem?_eq_none (by simp only [List.length_cons, List.length_nil]; omega)]
      rfl
/-- the addresses are apart, and new -/
theorem gWs_D (b : Nat) (cA : Nat → ClassId) (h : List gE) : va_D (fun q => b ≤ q) (gWs b cA h) := by
  have key : ∀ (i : Nat) (p : Nat × va_E), (gWs b cA h)[i]? = some p → p.1 = b + i := by
    intro i p hp
    rw [gWs_get] at hp
    cases hc : h[i]? with
    | none => rw [hc] at hp; cases hp
    | some e => rw [hc] at hp; cases hp; rfl
  refine ⟨fun i j p q hi hj hpq => ?_, fun k q hk => ?_⟩
  · have h1 := key i p hi
    have h2 := key j q hj
    omega
  · have h1 := key k q hk
    show b ≤ q.1
    omega
/-- the first state: what the heap holds, and the script -/
def gSig (h : List gE) (L : Nat) (xs : Nat → Int32) : rvS := (fun k n j => if k = 108 then (if j = 1000000 then Int32.ofNat L else xs j) else match h[gOff k n]? with
  | some (.inl (_, fs)) => (match fs[j]? with
    | some (.inl v) => v
    | _ => 0)
  | some (.inr (.inl (_, _, f))) => f j
  | _ => 0, fun _ _ _ => 0)
/-- locals and stack -/
def gO : gV → Option rvV
  | .inl v => some (.inl v)
  | .inr (some k) => some (.inr (.inr (0, k)))
  | .inr none => none
def gAd (b : Nat) : Nat → Nat → Nat := fun _ k => b + k
theorem gO_tr {b : Nat} {v : gV} {w : rvV} (h : gO v = some w) : rvTr (gAd b) w = gTr b v := by
  unfold gO at h
  split at h
  · cases h; rfl
  · cases h; rfl
  · cases h
theorem gO_set : ∀ {als : List gV} {a : Nat} {v : gV} {w : rvV}, gO v = some w → a < als.length → rvSt1 (als.map gO) a w = (als.set a v).map gO
  | [], a, v, w, hv, ha => absurd ha (Nat.not_lt_zero _)
  | x :: r, 0, v, w, hv, ha => by
    show some w :: r.map gO = gO v :: r.map gO
    rw [hv]
  | x :: r, 1, v, w, hv, ha => by
    show rvKill (gO x) :: rvSt1 (r.map gO) 0 w = gO x :: (r.set 0 v).map gO
    rw [gO_set hv (Nat.lt_of_succ_lt_succ ha)]
    congr 1
    unfold gO
    split <;> rfl
  | x :: r, a + 2, v, w, hv, ha => by
    show gO x :: rvSt1 (r.map gO) (a + 1) w = gO x :: (r.set (a + 1) v).map gO
    rw [gO_set hv (Nat.lt_of_succ_lt_succ ha)]
theorem gLoc {b nL : Nat} {als : List gV} {ls : Array Slot} (h : rvLR (gAd b) nL (als.map gO) ls) {a : Nat} {v : gV} {w : rvV} (hv : als[a]? = some v) (hw : gO v = some w) : ls[a]? = some (.val (gTr b v)) := by
  rw [← gO_tr (b := b) hw]
  refine h.2.2 a w ?_
  rw [List.getElem?_map, hv]
  show some (gO v) = _
  rw [hw]
def gSum (h : List gE) : Nat := (h.map gSz).sum
theorem gSum_app {h : List gE} {e : gE} : gSum (h ++ [e]) = gSum h + gSz e := by
  unfold gSum
  rw [List.map_append, List.sum_append]
  simp
theorem gSum_set : ∀ {h : List gE} {q : Nat} {e e2 : gE}, h[q]? = some e → gSz e2 = gSz e → gSum (h.set q e2) = gSum h
  | [], q, e, e2, h1, h2 => by cases h1
  | x :: r, 0, e, e2, h1, h2 => by
    have h1 : some x = some e := h1
    cases h1
    show gSz e2 + gSum r = gSz x + gSum r
    rw [h2]
  | x :: r, q + 1, e, e2, h1, h2 => by
    show gSz x + gSum (r.set q e2) = gSz x + gSum r
    rw [gSum_set (h := r) h1 h2]
section GX
variable {p : Program} {l : Launch} {e : Env} {R : Room} {s : State} {m : MethodId} {args : Array Value} {below : List Frame} {meth : Method} {c : Code} {H : Heap} {locs : List Loc} {cells slots : Nat} {Q : State → Prop} {pc : Nat} {ls : Array Slot} {rest : List Value} {cc : ByteArray} {D : va_G} {cA : Nat → ClassId} {b : Nat} {h : List gE}
/-- a new cell behind the others -/
theorem gP_push {H1 : Heap} {x : gE} (hP : va_P D vwCl (gWs b cA h) H) (hz : H.size = b + h.length) (o1 : ∀ q, q < H.size → H1[q]? = H[q]?) (hx : va_at D vwCl (b + h.length, gEnt b cA x) H1) : va_P D vwCl (gWs b cA (h ++ [x])) H1 := by
  rw [gWs_push]
  refine (hP.kept (fun k q hq => o1 q.1 ((hP k q hq).lt))).app (fun k q hk => ?_)
  have hk0 : k < 1 := (List.getElem?_eq_some_iff.mp hk).1
  rw [show k = 0 by omega] at hk
  cases hk
  exact hx
theorem gS_push {H0 H1 : Heap} (hS : va_S (fun q => b ≤ q) H0 H locs) (z1 : H1.size = H.size + 1) (o1 : ∀ q, q < H.size → H1[q]? = H[q]?) : va_S (fun q => b ≤ q) H0 H1 locs :=
  ⟨Nat.le_trans hS.1 (by omega), fun x h1 h2 => (o1 x (Nat.lt_of_lt_of_le h1 hS.1)).trans (hS.2.1 x h1 h2), hS.2.2⟩
theorem gX_new (hexec : p.tables.exec = Jvm.exec) (hb : c.code = cc) {own : String} {index a : Nat} {r : vw_C} (hr : vwCl[a]? = some r) (hts : ∀ w ∈ rvT, w.before args s = true) (hown : s.vm.findClass own = some m.cls) (hcl : (Cond.classLink own index r.1).before args s = true) (hinst : (Cond.instantiable r.1 r.2.2).before args s = true) (hini : (Cond.initialized r.1).before args s = true)
    (hK : va_K D vwCl (rvTys cA) s) (hP : va_P D vwCl (gWs b cA h) H) (hz : H.size = b + h.length) (hS : va_S (fun q => b ≤ q) s.heap H locs) (ty : Nat → FieldType) (hty : ∀ k, k < r.2.2 → parseFieldDescriptor (r.2.1 k).2.2.1 = some (ty k)) (hfs : ∀ j, j < r.2.2 → defaultValue (ty j) = vp_V ((gNew a).map (gTr b)) j) (hcells : cells + 1 ≤ R.cells) (hslots : slots + r.2.2 ≤ R.slots) (hdg : decode cc pc = .ok (.new index, 3))
    (kk : ∀ H1 : Heap, va_P D vwCl (gWs b cA (h ++ [.inl (a, gNew a)])) H1 → H1.size = b + (h ++ [(.inl (a, gNew a) : gE)]).length → va_S (fun q => b ≤ q) s.heap H1 locs →
      W p l e R s m args below meth c H1 locs (cells + 1) (slots + r.2.2) Q (F0 m (pc + 3) ls (.ref (b + h.length) :: rest))) : W p l e R s m args below meth c H locs cells slots Q (F0 m pc ls rest) := by
  have hKn := hK.1 a r hr
  refine W.newcK hexec hb hown hcl hinst hini rfl hdg hcells hslots hKn.2.1 rfl fun H1 kC hkC e1 z1 o1 => ?_
  rw [hz] at e1 ⊢
  refine kk H1 (gP_push hP hz o1 ⟨r, hr, (u_born ty hts (rvU_ws a r hr) hKn hkC e1 hty).to hfs⟩) (by rw [List.length_append]; show _ = b + (h.length + 1); omega) (gS_push hS z1 o1)
theorem gX_newa (hexec : p.tables.exec = Jvm.exec) (hb : c.code = cc) {atype : ArrayType} {t : Nat} (ht : 1 ≤ t ∧ t ≤ 10) (hty : newarray.typeOf atype = rvTy t) (harr : (Cond.arrayClass (rvTy t)).before args s = true) {x : gE} {N' : Nat} {a0 : vp_A} (hx : gEnt b cA x = .inl (cA t, a0)) (ha : vp_cell (cA t) a0 = arrV (cA t) N' (fun _ => defaultValue (rvTy t))) (hp : ∀ C, ¬ rvTy t = .object C)
    (hK : va_K D vwCl (rvTys cA) s) (hP : va_P D vwCl (gWs b cA h) H) (hz : H.size = b + h.length) (hS : va_S (fun q => b ≤ q) s.heap H locs) {n : Int32} (hn : ¬ n < 0) (hN : n.toNatClampNeg = N') (hbytes : N' * componentBytes (rvTy t) ≤ 536870912) (hcells : cells + 1 ≤ R.cells) (hslots : slots + N' ≤ R.slots) (hdg : decode cc pc = .ok (.newarray atype, 2))
    (kk : ∀ H1 : Heap, va_P D vwCl (gWs b cA (h ++ [x])) H1 → H1.size = b + (h ++ [x]).length → va_S (fun q => b ≤ q) s.heap H1 locs →
      W p l e R s m args below meth c H1 locs (cells + 1) (slots + N') Q (F0 m (pc + 2) ls (.ref (b + h.length) :: rest))) : W p l e R s m args below meth c H locs cells slots Q (F0 m pc ls (.int n :: rest)) := by
  rw [← hty] at harr hbytes ha hp
  refine va_newaK hexec hb harr rfl hdg rfl hn hN hbytes hcells hslots rfl fun H1 cA' e1 z1 o1 hAr hNm => ?_
  have hk := (hK.2 (t - 1) (cA t, rvTy t) (by
    rw [rvTys, List.getElem?_map, List.getElem?_range (by omega)]
    show some (cA (t - 1 + 1), rvTy (t - 1 + 1)) = _
    rw [show t - 1 + 1 = t by omega])).2
  have hcA : cA' = cA t := by
    rw [← hty] at hk
    have : s.vm.findClass ("[" ++ (newarray.typeOf atype).toString) = some (cA t) := by
      cases atype <;> first | exact hk | exact absurd rfl (hp _)
    exact Option.some.inj (hNm.symm.trans this)
  rw [hcA] at e1
  rw [hz] at e1 ⊢
  refine kk H1 (gP_push hP hz o1 ?_) (by rw [List.length_append]; show _ = b + (h.length + 1); omega) (gS_push hS z1 o1)
  rw [hx]
  show H1[b + h.length]? = some (vp_cell (cA t) a0)
  rw [ha]; exact e1
theorem gX_newq (hexec : p.tables.exec = Jvm.exec) (hb : c.code = cc) {own C : String} {index t : Nat} (ht : 1 ≤ t ∧ t ≤ 10) (hC : rvTy t = .object C) (hown : s.vm.findClass own = some m.cls) (hclink : (Cond.classLink own index C).before args s = true) (hover : va_AO C s)
    (hK : va_K D vwCl (rvTys cA) s) (hP : va_P D vwCl (gWs b cA h) H) (hz : H.size = b + h.length) (hS : va_S (fun q => b ≤ q) s.heap H locs) {n : Int32} {N' : Nat} (hn : ¬ n < 0) (hN : n.toNatClampNeg = N') (hbytes : N' * 4 ≤ 536870912) (hcells : cells + 1 ≤ R.cells) (hslots : slots + N' ≤ R.slots) (hdg : decode cc pc = .ok (.anewarray index, 3))
    (kk : ∀ H1 : Heap, va_P D vwCl (gWs b cA (h ++ [.inr (.inr (.inr (t, N', fun _ => none)))])) H1 → H1.size = b + (h ++ [(.inr (.inr (.inr (t, N', fun _ => none))) : gE)]).length → va_S (fun q => b ≤ q) s.heap H1 locs →
      W p l e R s m args below meth c H1 locs (cells + 1) (slots + N') Q (F0 m (pc + 3) ls (.ref (b + h.length) :: rest))) : W p l e R s m args below meth c H locs cells slots Q (F0 m pc ls (.int n :: rest)) := by
  subst hN
  refine W.anew hexec hb hown hclink (va_AO.use hover) rfl hdg rfl hn hbytes hcells hslots fun cA' kA comp f1 f2 f3 f4 => ?_
  have hk := (hK.2 (t - 1) (cA t, rvTy t) (by
    rw [rvTys, List.getElem?_map, List.getElem?_range (by omega)]
    show some (cA (t - 1 + 1), rvTy (t - 1 + 1)) = _
    rw [show t - 1 + 1 = t by omega])).2
  rw [hC] at hk
  obtain ⟨kA2, comp2, g1, g2, g3, g4⟩ := hk
  have hcA : cA' = cA t := Option.some.inj (f1.symm.trans g4)
  subst hcA
  generalize hH1 : H.push ({ cls := cA t, slots := Array.replicate n.toNatClampNeg .null, vm := .none } : Cell) = H1
  have z1 : H1.size = H.size + 1 := by rw [← hH1, Array.size_push]
  have e1 : H1[H.size]? = some (arrV (cA t) n.toNatClampNeg (fun _ => .null)) := by rw [← hH1, Array.getElem?_push_size, ← arrV_new]
  have o1 : ∀ q : Nat, q < H.size → H1[q]? = H[q]? := fun q hq => by rw [← hH1, Array.getElem?_push, if_neg (Nat.ne_of_lt hq)]
  rw [hz] at e1 ⊢
  refine kk H1 (gP_push hP hz o1 ?_) (by rw [List.length_append]; show _ = b + (h.length + 1); omega) (gS_push hS z1 o1)
  show H1[b + h.length]? = some (vp_cell (cA t) (n.toNatClampNeg, .inr (.inr (.inr (.inr (fun _ => none))))))
  rw [vp_cell_q]
  exact e1
end GX
