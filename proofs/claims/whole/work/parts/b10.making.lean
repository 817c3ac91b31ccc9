-- the law's beginning: both objects are made (wip/whole/gen/laws96.py)
def gR1 : Bool := match gRunV 4000 9 0 [.inr (some 0), .inr none, .inr none] [] [.inl (9, gNew 9)] with
  | some h1 => Nat.beq h1.length 343
  | none => false
set_option maxRecDepth 100000 in
theorem gR1_ok : gR1 = true := by decide +kernel
set_option maxRecDepth 100000 in
theorem gLw_d : decode code 0 = .ok (.new 7, 3) ∧ decode code 3 = .ok (.dup, 1) ∧ decode code 4 = .ok (.invokespecial 9, 3) ∧ decode code 7 = .ok (.astore_n 1, 1) ∧ decode code 8 = .ok (.new 10, 3) ∧ decode code 11 = .ok (.dup, 1) ∧ decode code 12 = .ok (.invokespecial 12, 3) ∧ decode code 15 = .ok (.astore_n 2, 1) := by decide +kernel
set_option maxRecDepth 100000 in
theorem gLw_w : ((rvAtT 82 (.classLink "RiverCompactLaw" 7 "RiverCompact") && (rvAtT 83 (.instantiable "RiverCompact" (gCNn 9)) && (rvAtT 63 (.initialized "RiverCompact") && rvAtT 84 (.methodLink "RiverCompactLaw" 9 (gY 9))))) && (rvAtT 1052 (.classLink "RiverCompactLaw" 10 "RiverCompactModel") && (rvAtT 1053 (.instantiable "RiverCompactModel" (gCNn 10)) && (rvAtT 74 (.initialized "RiverCompactModel") && rvAtT 1054 (.methodLink "RiverCompactLaw" 12 (gY 10)))))) = true := by decide +kernel
section GLW
variable {p : Program} {l : Launch} {e : Env} {R : Room} {s : State} {m : MethodId} {args : Array Value} {below : List Frame} {meth : Method} {c : Code} {Q : State → Prop}
theorem gLawCall {cA : Nat → ClassId} {D : va_G} {b nc ns mc ms pc : Nat} {h1 : List gE} {av : Array Value} {H : Heap} {locs : List Loc} {ls : Array Slot} {st0 rest : List Value} (hS3 : va_S (fun q => b ≤ q) s.heap H locs)
    (hr : va_Run p l e R s m args below meth c H locs nc ns mc ms (F0 m pc ls st0) rest (gQc D cA b h1 av) (fun q => b ≤ q))
    (kk : ∀ (H1 : Heap) (locs1 : List Loc), va_P D vwCl (gWs b cA h1) H1 → H1.size = b + h1.length → va_S (fun q => b ≤ q) s.heap H1 locs1 → W p l e R s m args below meth c H1 locs1 (nc + mc) (ns + ms) Q (F0 m (pc + 3) ls rest)) :
    W p l e R s m args below meth c H locs nc ns Q (F0 m pc ls st0) := by
  intro T hT X
  obtain ⟨v, st₀, t, T', L, h0, X', hL, f1, f2, ⟨⟨hv, hP', hz'⟩, hz, hkp⟩, st⟩ := hr T hT X
  cases hv
  rw [h0] at hz hkp
  obtain ⟨t2, a1, b1⟩ := kk T'.heap (locs ++ L) (by rw [f1]; exact hP') (by rw [f1]; exact hz') ⟨Nat.le_trans hS3.1 (by rw [f1]; exact hz), fun q g1 g2 => by rw [f1, hkp q (Nat.lt_of_lt_of_le g1 hS3.1) g2]; exact hS3.2.1 q g1 g2, fun q hq => by
      rcases List.mem_append.mp hq with g | g
      · exact hS3.2.2 q g
      · exact hL q g⟩ T' rfl X'
  exact ⟨t2, st t2 a1, b1⟩
/-- an object is made, and its constructor runs -/
theorem gLawNew (hx : p.tables.exec = Jvm.exec) (hb : c.code = code) (hml : c.maxLocals = 4) (hown : s.vm.findClass "RiverCompactLaw" = some m.cls) (hts : ∀ w ∈ rvT, w.before args s = true) {cA : Nat → ClassId} {D : va_G} (hK : va_K D vwCl (rvTys cA) s) (hN : gNs s) (hA : gAs s) {a ci mi pc nc ns z : Nat} (ha : a < 11) {h h' : List gE} (hrun : gRunV 4000 a 0 [.inr (some h.length), .inr none, .inr none] [] (h ++ [.inl (a, gNew a)]) = some h')
    (w1 : Cond.classLink "RiverCompactLaw" ci (gCN a) ∈ rvT) (w2 : Cond.instantiable (gCN a) (gCNn a) ∈ rvT) (w3 : Cond.initialized (gCN a) ∈ rvT) (w4 : Cond.methodLink "RiverCompactLaw" mi (gY a) ∈ rvT) (hpar : (parseMethodDescriptor (gY a).desc).map (fun d => d.parameters.length) = some 0)
    (d1 : decode code pc = .ok (.new ci, 3)) (d2 : decode code (pc + 3) = .ok (.dup, 1)) (d3 : decode code (pc + 3 + 1) = .ok (.invokespecial mi, 3)) (hRf : 5 ≤ R.frames) (hRl : 1000 ≤ R.locals) (hfc : nc + 1 + (h'.length - (h.length + 1)) ≤ R.cells) (hfs : ns + gCNn a + (gSum h' - (gSum h + gCNn a)) ≤ R.slots)
    {H : Heap} {locs : List Loc} {ls : Array Slot} (hls : ls.size = 4) (hP : va_P D vwCl (gWs z cA h) H) (hz : H.size = z + h.length) (hS : va_S (fun q => z ≤ q) s.heap H locs)
    (kk : ∀ (H1 : Heap) (locs1 : List Loc), va_P D vwCl (gWs z cA h') H1 → H1.size = z + h'.length → va_S (fun q => z ≤ q) s.heap H1 locs1 → W p l e R s m args below meth c H1 locs1 (nc + 1 + (h'.length - (h.length + 1))) (ns + gCNn a + (gSum h' - (gSum h + gCNn a))) Q (F0 m (pc + 3 + 1 + 3) ls [.ref (z + h.length)])) :
    W p l e R s m args below meth c H locs nc ns Q (F0 m pc ls []) := by
  obtain ⟨q, hq⟩ := gCl_some ha
  obtain ⟨o1, o2, o3, -⟩ := gOb hq
  obtain ⟨hpl, hmh, v1, v2, v3, h4, hp0⟩ := gClW ha
  obtain ⟨ty, hty⟩ := rvTyOk a q hq
  rw [o2] at w1 w2 w3
  have hsz : gSz (.inl (a, gNew a) : gE) = q.2.2 := by
    show (gNew a).length = _
    unfold gNew
    rw [List.length_map]; exact o1.symm
  rw [o3] at w2 hfs kk
  refine gX_new (r := q) hx hb hq hts hown (hts _ w1) (hts _ w2) (hts _ w3) hK hP hz hS ty hty (fun j hj => ?_) (by omega) (by omega) d1 (fun H1 k1 k2 k3 => ?_)
  · obtain ⟨t, t1, t2, t3⟩ := gFld hq hj
    have et : ty j = t := Option.some.inj ((hty j hj).symm.trans t1)
    rw [et]
    unfold vp_V gNew
    rw [List.getD_eq_getElem?_getD, List.getElem?_map, List.getElem?_map]
    have hl : j < (rvFts.getD a []).length := by omega
    rw [List.getElem?_eq_getElem hl]
    have ef : (rvFts.getD a [])[j] = rvFt a j := by
      unfold rvFt
      rw [List.getD_eq_getElem?_getD (l := rvFts.getD a []), List.getElem?_eq_getElem hl]; rfl
    rw [ef]
    by_cases c2 : rvFt a j = 2
    · rw [(t2 c2).1]
      show _ = gTr z (if rvFt a j = 2 then (.inr none : gV) else .inl 0)
      rw [if_pos c2]; rfl
    · rw [t3 c2]
      show _ = gTr z (if rvFt a j = 2 then (.inr none : gV) else .inl 0)
      rw [if_neg c2]; rfl
  · refine lv_dup hx hb d2 rfl ?_
    have hgood : GoodIn rvT (gWd a) := fun w hw => by
      rcases List.mem_cons.mp hw with rfl | hw
      · exact rvT_good _ v3
      · exact rvT_good _ hw
    have hlen : (rvArgs [.inr (.inr (0, h.length))]).length ≤ gMl a := by
      have := List.all_eq_true.mp gMl_ok a (List.mem_range.mpr ha)
      cases hp : parseMethodDescriptor (gY a).desc with
      | none => rw [hp] at this; cases this
      | some d =>
        rw [hp] at this
        have h5 : d.parameters.length + 1 ≤ gMl a := of_decide_eq_true this
        show 1 ≤ gMl a
        omega
    have hlv : gLv a ≤ 4 := by
      unfold gLv
      split
      · decide
      · split <;> decide
    have hM := gMet (gSound l 4000) ha (als := [.inr (some h.length), .inr none, .inr none]) (asR := [.inr (.inr (0, h.length))]) hrun (fun j w hj => by
      match j, hj with
      | 0, hj => exact hj
      | 1, hj => cases hj
      | 2, hj => cases hj
      | j + 3, hj => cases hj) hlen cA D z
    have el : (h ++ [(.inl (a, gNew a) : gE)]).length = h.length + 1 := by rw [List.length_append]; rfl
    have es : gSum (h ++ [(.inl (a, gNew a) : gE)]) = gSum h + q.2.2 := by rw [gSum_app, hsz]
    rw [el, es] at hM
    have hRd : (gRm a (h'.length - (h.length + 1)) (gSum h' - (gSum h + q.2.2))).frames + 1 ≤ R.frames ∧ 8 + (gMl a + 11) + (gRm a (h'.length - (h.length + 1)) (gSum h' - (gSum h + q.2.2))).locals ≤ R.locals := by
      show gLv a + 1 ≤ R.frames ∧ 8 + (gMl a + 11) + 64 * gLv a ≤ R.locals
      omega
    refine gLawCall k3 (va_runI (As := []) (b := z + h.length) (rest := [.ref (z + h.length)]) ⟨hx, hb, hml, hown, hts⟩ hM (cwI 0 hts hgood rfl rfl rfl (hts _ v1) (hts _ w4) (hts _ v2) (gOwnCN ha).2.2 ⟨hmh.1, hmh.2, hpar⟩ hRd) ⟨gPcB_blind, gPcB_pre k1 k2 hK hN hA⟩ rfl rfl hls rfl (by show 2 * 0 + 1 ≤ 8; omega) d3 ⟨by omega, by omega⟩) (fun H2 locs2 a1 a2 a3 => kk H2 locs2 a1 a2 a3)
end GLW
