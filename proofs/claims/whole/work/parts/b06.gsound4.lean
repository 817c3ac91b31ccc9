-- the machine follows the constructors' run: calls, whole (wip/whole/gen/laws92.py)
def gWd (a : Nat) : List Cond := .code (gY a) (gB a) (gMl a) none :: rvT
def gRm (a mc ms : Nat) : Room := { frames := gLv a, cells := mc, slots := ms, locals := 64 * gLv a }
def gPcB (cA : Nat → ClassId) (D : va_G) (b : Nat) (h : List gE) : State → Prop := fun U => U.heap.size = b + h.length ∧ va_P D vwCl (gWs b cA h) U.heap ∧ va_K D vwCl (rvTys cA) U ∧ gNs U ∧ gAs U
theorem gPcB_blind {cA : Nat → ClassId} {D : va_G} {b : Nat} {h : List gE} {as : List Value} : FrameBlind (va_Pc as (gPcB cA D b h)) := by
  intro a' U g mk q
  obtain ⟨q1, q2, q3, q4, q5, q6⟩ := q
  exact ⟨q1, q2, q3, va_K.moved (u := U) (U := U.calling g mk a') (Vm.Alike.refl U.vm) q4, gNs_same (u := U) (U := U.calling g mk a') rfl q5, gAs_moved (u := U) (U := U.calling g mk a') (Vm.Alike.refl U.vm) q6⟩
theorem gPcB_pre {cA : Nat → ClassId} {D : va_G} {b : Nat} {h : List gE} {as : List Value} {s : State} {H : Heap} (hP : va_P D vwCl (gWs b cA h) H) (hz : H.size = b + h.length) (hK : va_K D vwCl (rvTys cA) s) (hN : gNs s) (hA : gAs s) : ∀ U : State, U.heap = H → s.WarmedH U.vm → va_Pc as (gPcB cA D b h) as.toArray U := by
  intro U hU hW
  subst hU
  exact ⟨rfl, hz, hP, va_K.moved hW.alike hK, gNs_warm hW hN, gAs_moved hW.alike hA⟩
theorem gMl_ok : (List.range 11).all (fun a => match parseMethodDescriptor (gY a).desc with
  | some d => decide (d.parameters.length + 1 ≤ gMl a)
  | none => false) = true := by decide +kernel
theorem gClW {a : Nat} (h : a < 11) : plainName (gY a).cls = true ∧ ((gY a).cls ≠ "java/lang/invoke/MethodHandle" ∧ (gY a).cls ≠ "java/lang/invoke/VarHandle") ∧ Cond.initialized (gY a).cls ∈ rvT ∧ Cond.instanceMethod (gY a) ∈ rvT ∧ Cond.code (gY a) (gB a) (gMl a) none ∈ rvT ∧ gMl a ≤ 4 ∧ gPc a 0 = 0 := by
  have H := gCl_at h
  unfold gClOk at H
  simp only [Bool.and_eq_true, decide_eq_true_eq] at H
  obtain ⟨-, h1, h2, h3, h4, h5, ⟨h6, h7, -⟩, -⟩ := H
  exact ⟨h1, h2, rvAtT_in h3, rvAtT_in h4, rvAtT_in h5, h6, h7⟩
section GC
variable {l : Launch} {F : Nat}
theorem gMet (hF : gHyp l F) {a : Nat} (ha : a < 11) {als : List gV} {asR : List rvV} {h h' : List gE} (hrun : gRunV F a 0 als [] h = some h') (hals : ∀ (j : Nat) (w : rvV), (als.map gO)[j]? = some (some w) → (rvArgs asR)[j]? = some (some w)) (hlen : (rvArgs asR).length ≤ gMl a) (cA : Nat → ClassId) (D : va_G) (b : Nat) :
    Met l (gY a) (gWd a) (gRm a (h'.length - h.length) (gSum h' - gSum h)) (va_Pc (asR.map (rvTr (gAd b))) (gPcB cA D b h)) (gQc D cA b h') (h'.length - h.length) (gSum h' - gSum h) (fun q => b ≤ q) := by
  obtain ⟨hpl, hmh, -, -, -, h4, hp0⟩ := gClW ha
  have mo := gRunV_mono _ _ _ _ _ _ _ hrun
  refine Met.ofW (cc := gB a) (maxL := gMl a) (ret := none) hpl rfl ?_
  intro p e s m args below meth c s₁ B hml hv
  obtain ⟨rfl, hz, hP, hK, hN, hA⟩ := hv
  have hts : ∀ w ∈ gWd a, w.before _ s = true := atoms_spec (ws := gWd a) B.pre
  have hfc : s.vm.findClass (gOwn a) = some m.cls := (gOwnCN ha).1 ▸ findClass_of_methodNamed B.named
  have hnm : meth.name = "<init>" := (name_of_methodNamed B.named B.method).1.trans (gOwnCN ha).2.2
  have hl := lv_entry (asR.map (rvTr (gAd b))) (n := gMl a) (by rw [rvArgs_len]; exact hlen)
  rw [lg_entry_eq]
  generalize (lg_sl (asR.map (rvTr (gAd b))) ++ List.replicate (gMl a - (lg_sl (asR.map (rvTr (gAd b)))).length) Slot.unset).toArray = ls at hl ⊢
  have hk := hF a 0 als [] h h' ha hrun p e (gRm a (h'.length - h.length) (gSum h' - gSum h)) s m (asR.map (rvTr (gAd b))).toArray below meth c cA D b 0 0 (h'.length - h.length) (gSum h' - gSum h) ⟨B.exec, B.bytes, B.returns, B.notSynchronized, hml, hfc, fun w hw => hts w (List.mem_cons_of_mem _ hw), hK, hN, hA, hnm⟩ ⟨Nat.le_refl _, Nat.le_refl _, Nat.le_refl _, Nat.le_refl _⟩ (by omega) (by omega) s.heap [] ls
    ⟨hP, hz, va_S.rf, hl.1, hl.2.1, fun j w hj => by
      have h1 := rvArgs_in (gAd b) asR 0 j w (hals j w hj)
      have h2 := hl.2.2 _ h1
      rwa [Nat.zero_add] at h2⟩
  rw [hp0] at hk
  exact hk
/-- behind a call -/
theorem gAfter (hF : gHyp l F) {i n : Nat} {als r : List gV} {h h1 h' : List gE} (hi : i < 11) (hrest : gRunV F i (n + 1) als r h1 = some h') {p : Program} {e : Env} {R : Room} {s : State} {m : MethodId} {args av : Array Value} {below : List Frame} {meth : Method} {c : Code} {cA : Nat → ClassId} {D : va_G} {b nc ns NC NS mc ms : Nat} (hE : gEnv p s m args meth c cA D i) (hR : gLv i ≤ R.frames ∧ 64 * gLv i ≤ R.locals ∧ NC ≤ R.cells ∧ NS ≤ R.slots) (e1 : nc + h'.length = NC + h.length ∧ s.heap.size + nc = b + h.length) (e2 : ns + gSum h' = NS + gSum h) (em : h1.length = h.length + mc ∧ gSum h1 = gSum h + ms)
    {H : Heap} {locs : List Loc} {ls : Array Slot} {st0 : List Value} (hS3 : va_S (fun q => b ≤ q) s.heap H locs) (hS4 : rvLR (gAd b) (gMl i) (als.map gO) ls) (hn : gPc i (n + 1) = gPc i n + 3)
    (hr : va_Run p l e R s m args below meth c H locs nc ns mc ms (F0 m (gPc i n) ls st0) (r.map (gTr b)) (gQc D cA b h1 av) (fun q => b ≤ q)) :
    W p l e R s m args below meth c H locs nc ns (MQ below (gQc D cA b h') args s NC NS (fun q => b ≤ q)) (F0 m (gPc i n) ls st0) := by
  intro T hT X
  obtain ⟨v, st₀, t, T', L, h0, X', hL, f1, f2, ⟨⟨hv, hP', hz'⟩, hz, hkp⟩, st⟩ := hr T hT X
  cases hv
  rw [h0] at hz hkp
  have hk := hF i (n + 1) als r h1 h' hi hrest p e R s m args below meth c cA D b (nc + mc) (ns + ms) NC NS hE hR (by omega) (by omega) T'.heap (locs ++ L) ls
    ⟨by rw [f1]; exact hP', by rw [f1]; exact hz', ⟨Nat.le_trans hS3.1 (by rw [f1]; exact hz), fun q g1 g2 => by rw [f1, hkp q (Nat.lt_of_lt_of_le g1 hS3.1) g2]; exact hS3.2.1 q g1 g2, fun q hq => by
      rcases List.mem_append.mp hq with g | g
      · exact hS3.2.2 q g
      · exact hL q g⟩, hS4⟩
  obtain ⟨t2, a1, b1⟩ := hk T' rfl X'
  rw [hn] at a1
  exact ⟨t2, st t2 a1, b1⟩
theorem gNest {a i ix : Nat} {s : State} (hN : gNs s) (h : gNl.any (fun e => e.1 == i && (e.2.1 == ix && e.2.2 == a)) = true) : va_Nw (.methodLinkNest (gOwn i) ix (gY a) "RiverCompact") s := by
  obtain ⟨en, he, h1⟩ := List.any_eq_true.mp h
  simp only [Bool.and_eq_true, beq_iff_eq] at h1
  obtain ⟨rfl, rfl, rfl⟩ := h1
  exact hN en he
theorem gC_8 (hF : gHyp l F) {i n : Nat} {als ast r : List gV} {h h1 h' : List gE} {a b0 ix q : Nat} {alsC : List gV} {rsR : List rvV} (hi : i < 11) (hck : gCk i n (gPc i n, 8, a, b0, ix) = true) (hr8 : r.length ≤ 8) (hrs : rsR.length = if b0 = 0 then 0 else 1) (hrl : (rvArgs (.inr (.inr (0, q)) :: rsR)).length = rsR.length + 1)
    (hrun : gRunV F a 0 alsC [] h = some h1) (hals : ∀ (j : Nat) (w : rvV), (alsC.map gO)[j]? = some (some w) → (rvArgs (.inr (.inr (0, q)) :: rsR))[j]? = some (some w)) (hrest : gRunV F i (n + 1) als r h1 = some h')
    (hast : ∀ b, ast.map (gTr b) = (rsR.map (rvTr (gAd b))).reverse ++ .ref (b + q) :: r.map (gTr b)) : gSnd l i n als ast h h' := by
  intro p e R s m args below meth c cA D b nc ns NC NS hE hR e1 e2 H locs ls hS
  simp only [gCk, Bool.and_eq_true, Bool.or_eq_true, decide_eq_true_eq] at hck
  obtain ⟨hd, hlink, ⟨ha, hlv⟩, hpar⟩ := hck
  obtain ⟨hd, hn⟩ := rvD_of hd
  obtain ⟨hpl, hmh, w1, w2, w3, h4, hp0⟩ := gClW ha
  have mo := gRunV_mono _ _ _ _ _ _ _ hrun
  have mo2 := gRunV_mono _ _ _ _ _ _ _ hrest
  have hlen : (rvArgs (.inr (.inr (0, q)) :: rsR)).length ≤ gMl a := by
    have := List.all_eq_true.mp gMl_ok a (List.mem_range.mpr ha)
    cases hp : parseMethodDescriptor (gY a).desc with
    | none => rw [hp] at this; cases this
    | some d =>
      rw [hp] at this hpar
      have h5 : d.parameters.length + 1 ≤ gMl a := of_decide_eq_true this
      have h6 : d.parameters.length = if b0 = 0 then 0 else 1 := Option.some.inj hpar
      omega
  have hM := gMet hF ha (asR := .inr (.inr (0, q)) :: rsR) hrun hals hlen cA D b
  have hE0 := hE
  obtain ⟨hx, hb, hrt, hlk, hml, hown, hts, hK, hN, hA, hnm⟩ := hE
  have hgood : GoodIn rvT (gWd a) := fun w hw => by
    rcases List.mem_cons.mp hw with rfl | hw
    · exact rvT_good _ w3
    · exact rvT_good _ hw
  have hRd : (gRm a (h1.length - h.length) (gSum h1 - gSum h)).frames + 1 ≤ R.frames ∧ 8 + (gMl a + 11) + (gRm a (h1.length - h.length) (gSum h1 - gSum h)).locals ≤ R.locals := by
    show gLv a + 1 ≤ R.frames ∧ 8 + (gMl a + 11) + 64 * gLv a ≤ R.locals
    omega
  have hW8 : 2 * (F0 m (gPc i n) ls (ast.map (gTr b))).monitorRoom + ((r.map (gTr b)).map fun v => v.category).sum ≤ 8 := by
    rw [gCat]
    show 2 * 0 + _ ≤ 8
    omega
  have hlA : (rsR.map (rvTr (gAd b))).length = if b0 = 0 then 0 else 1 := by rw [List.length_map]; exact hrs
  have hfits : nc + (h1.length - h.length) ≤ R.cells ∧ ns + (gSum h1 - gSum h) ≤ R.slots := by omega
  refine gAfter hF hi hrest hE0 hR e1 e2 (mc := h1.length - h.length) (ms := gSum h1 - gSum h) (by omega) hS.2.2.1 hS.2.2.2 hn (av := ((Value.ref (b + q)) :: rsR.map (rvTr (gAd b))).toArray) ?_
  rcases hlink with hl | hl
  · exact va_runIN (As := rsR.map (rvTr (gAd b))) (b := b + q) (host := "RiverCompact") ⟨hx, hb, hml, hown, hts⟩ hM ⟨va_cnB _ hts hgood rfl rfl rfl (gNest hN hl) (hts _ w1) ⟨hmh.1, hmh.2, hpar⟩ hRd, (gOwnCN ha).2.2, hts _ w2⟩ ⟨gPcB_blind, gPcB_pre hS.1 hS.2.1 hK hN hA⟩ rfl hlA hS.2.2.2.1 (hast b) hW8 hd hfits
  · obtain ⟨en, he, h1e⟩ := List.any_eq_true.mp hl
    simp only [Bool.and_eq_true, beq_iff_eq] at h1e
    obtain ⟨-, -, hl2⟩ := h1e
    exact va_runI (As := rsR.map (rvTr (gAd b))) (b := b + q) ⟨hx, hb, hml, hown, hts⟩ hM (cwI _ hts hgood rfl rfl rfl (hts _ w1) (hts _ (rvAtT_in hl2)) (hts _ w2) (gOwnCN ha).2.2 ⟨hmh.1, hmh.2, hpar⟩ hRd) ⟨gPcB_blind, gPcB_pre hS.1 hS.2.1 hK hN hA⟩ rfl hlA hS.2.2.2.1 (hast b) hW8 hd hfits
theorem gFlt_of {h : List gE} {q t N : Nat} {f : Nat → Int32} (hr : gFlt h q = true) (hq : h[q]? = some (.inr (.inl (t, N, f)))) : N ≤ 100000 := by
  unfold gFlt at hr
  rw [hq] at hr
  exact of_decide_eq_true hr
theorem gFill {h : List gE} {q N : Nat} {f : Nat → Int32} {v : Int32} (hq : h[q]? = some (.inr (.inl (1, N, f)))) (hN9 : N ≤ 100000) (cA : Nat → ClassId) (D : va_G) (b : Nat) :
    Met l (rvM 190).1 (rvWd 190) (rvRm 1) (va_Pc [.ref (b + q), .int v] (gPcB cA D b h)) (gQc D cA b (h.set q (.inr (.inl (1, N, fun _ => v))))) 0 0 (fun q => b ≤ q) := by
  obtain ⟨-, -, -, hpl, -⟩ := rvMOk_of (a := 190) (by decide)
  refine Met.ofW (cc := (rvM 190).2.1) (maxL := (rvM 190).2.2.1) (ret := (rvM 190).2.2.2.1) hpl rfl ?_
  intro p e s m args below meth c s₁ B hml hv
  obtain ⟨rfl, hz, hP, hK, hN, hA⟩ := hv
  have hl := lv_entry [.ref (b + q), .int v] (n := (rvM 190).2.2.1) (show 2 ≤ 4 by decide)
  rw [lg_entry_eq]
  generalize (lg_sl [.ref (b + q), .int v] ++ List.replicate ((rvM 190).2.2.1 - (lg_sl [.ref (b + q), .int v]).length) Slot.unset).toArray = ls at hl ⊢
  have hx := B.exec
  have hb : c.code = cF := B.bytes
  have hL : rvLR (gAd b) 4 (([.inr (some q), .inl v, .inr none, .inr none] : List gV).map gO) ls := ⟨hl.1, hl.2.1, fun j w hj => by
    match j, hj with
    | 0, hj => cases hj; exact hl.2.2 (0, .ref (b + q)) List.mem_cons_self
    | 1, hj => cases hj; exact hl.2.2 (1, .int v) (List.mem_cons_of_mem _ List.mem_cons_self)
    | 2, hj => cases hj
    | 3, hj => cases hj
    | j + 4, hj => cases hj⟩
  refine lv_iconst hx hb cF_0.1 (v := 0) rfl ?_
  refine gIst hx hb (a := 2) rfl hL (by decide) (show 2 < 4 by decide) cF_0.2.1 (fun ls2 hL2 => ?_)
  refine lv_aload_n hx hb cF_0.2.2.1 (i := 0) rfl (gLoc hL2 (a := 0) (v := .inr (some q)) rfl rfl) ?_
  refine va_alen hx hb hK hP q 0 (gWs_at hq) (rvTys_get cA (t := 1) (by decide) (by decide)) (v := Int32.ofNat N) rfl cF_0.2.2.2.1 ?_
  refine gIst hx hb (a := 3) rfl hL2 (by decide) (show 3 < 4 by decide) cF_0.2.2.2.2.1 (fun ls3 hL3 => ?_)
  refine gFill_loop hx hb B.returns B.notSynchronized hK hq hN9 hz N 0 (by omega) (by omega) s.heap [] ls3 ?_ va_S.rf hL3
  rw [gSet_self (x := .inr (.inl (1, N, gFi f v 0)))]
  · exact hP
  · rw [hq]; rfl
theorem gC_19 (hF : gHyp l F) : gCase l F 19 := by
  intro i n als ast h h' a b0 ix hi hck hv hg p e R s m args below meth c cA D b nc ns NC NS hE hR e1 e2 H locs ls hS
  obtain ⟨y, hy, hr⟩ := hg
  replace hy : (match (generalizing := false) ast with | .inl v :: .inr (some q) :: st => (match h[q]? with | some (.inr (.inl (t, N, _))) => if t = 1 then some (n + 1, als, st, h.set q (.inr (.inl (t, N, fun _ => v)))) else none | _ => none) | _ => none) = some y := hy
  split at hy
  · rename_i v q r
    split at hy
    · rename_i t N f hq
      split at hy
      · rename_i ht
        subst ht
        cases hy
        dsimp only at hr
        replace hv : (Nat.ble (r.length + 1 + 1) 8 && (gFlt h q && gMod.contains q)) = true := hv
        simp only [Bool.and_eq_true] at hv
        have hv8 := Nat.le_of_ble_eq_true hv.1
        simp only [gCk, Bool.and_eq_true] at hck
        obtain ⟨hd, hl⟩ := hck
        obtain ⟨hd, hn⟩ := rvD_of hd
        have hs := gSum_set (e2 := .inr (.inl (1, N, fun _ => v))) hq rfl
        have mo2 := gRunV_mono _ _ _ _ _ _ _ hr
        rw [List.length_set, hs] at mo2
        have hE0 := hE
        obtain ⟨hx, hb, hrt, hlk, hml, hown, hts, hK, hN, hA, hnm⟩ := hE
        obtain ⟨m1, m2, m3, m4, m5, m6, m7, m8, m9⟩ := rvMOk_of (a := 190) (by decide)
        have hlv := gLv2 i
        refine gAfter hF hi hr hE0 hR e1 e2 (mc := 0) (ms := 0) ⟨by rw [List.length_set]; rfl, by rw [hs]; rfl⟩ hS.2.2.1 hS.2.2.2 hn (av := #[.ref (b + q), .int v]) ?_
        exact va_runS (As := [.ref (b + q), .int v]) ⟨hx, hb, hml, hown, hts⟩ (gFill hq (gFlt_of hv.2.1 hq) cA D b) (va_cwS 2 hts (rvGoodS (rvAtT_in hl) (m2 rfl) m1 (rvCd 190 (by decide))) rfl rfl rfl ⟨m5.1, m5.2, m6⟩ ⟨by show 1 + 1 ≤ _; omega, by show 8 + (4 + 11) + 64 * 1 ≤ _; omega⟩) ⟨gPcB_blind, gPcB_pre hS.1 hS.2.1 hK hN hA⟩ rfl rfl hS.2.2.2.1 rfl (by rw [gCat]; show 2 * 0 + _ ≤ 8; omega) hd (show nc + 0 ≤ R.cells ∧ ns + 0 ≤ R.slots by omega)
      · cases hy
    · cases hy
  · cases hy
end GC
theorem gSound (l : Launch) : ∀ F, gHyp l F
  | 0 => fun i n als ast h h' hi hr => by cases hr
  | F + 1 => fun i n als ast h h' hi hr => by
    have IH := gSound l F
    unfold gRunV at hr
    split at hr
    · cases hr
    · rename_i ai hg
      obtain ⟨hck, hpc⟩ := gCk_at hi hg
      split at hr
      · rename_i hv
        split at hr
        · rename_i pc a b ix
          replace hpc : pc = gPc i n := hpc
          subst hpc
          split at hr
          · cases hr
            exact gC_18 hck
          · cases hr
        · rename_i pc a ix
          replace hpc : pc = gPc i n := hpc
          subst hpc
          split at hr
          · rename_i q st
            split at hr
            · rename_i h1 e
              have hv8 := Nat.le_of_ble_eq_true (show Nat.ble (st.length + 1) 8 = true from hv)
              refine gC_8 IH (rsR := []) hi hck (by omega) rfl rfl e (fun j w hj => ?_) hr (fun b => rfl)
              match j, hj with
              | 0, hj => exact hj
              | 1, hj => cases hj
              | 2, hj => cases hj
              | j + 3, hj => cases hj
            · cases hr
          · cases hr
        · rename_i pc a b ix hb0
          replace hpc : pc = gPc i n := hpc
          subst hpc
          split at hr
          · rename_i r q st
            split at hr
            · rename_i h1 e
              have hv8 := Nat.le_of_ble_eq_true (show Nat.ble (st.length + 1 + 1) 8 = true from hv)
              refine gC_8 IH (rsR := [.inr (.inr (0, r))]) hi hck (by omega) (by rw [if_neg hb0]; rfl) rfl e (fun j w hj => ?_) hr (fun b => rfl)
              match j, hj with
              | 0, hj => exact hj
              | 1, hj => exact hj
              | 2, hj => cases hj
              | j + 3, hj => cases hj
            · cases hr
          · cases hr
        · rename_i n18 n80 n8
          split at hr
          · rename_i n' ls' st' h2 e
            obtain ⟨pc, op, a, b, ix⟩ := ai
            replace hpc : pc = gPc i n := hpc
            subst hpc
            have hg9 : gGo F i n als ast h h' (gPc i n, op, a, b, ix) := ⟨_, e, hr⟩
            match op, hck, hv, hg9, n18, n8 with
            | 0, hck, hv, hg9, _, _ => exact gC_0 IH i n als ast h h' a b ix hi hck hv hg9
            | 1, hck, hv, hg9, _, _ => exact gC_1 IH i n als ast h h' a b ix hi hck hv hg9
            | 2, hck, hv, hg9, _, _ => exact gC_2 IH i n als ast h h' a b ix hi hck hv hg9
            | 3, hck, hv, hg9, _, _ => exact gC_3 IH i n als ast h h' a b ix hi hck hv hg9
            | 4, hck, hv, hg9, _, _ => exact gC_4 IH i n als ast h h' a b ix hi hck hv hg9
            | 5, hck, hv, hg9, _, _ => exact gC_5 IH i n als ast h h' a b ix hi hck hv hg9
            | 6, hck, hv, hg9, _, _ => exact gC_6 IH i n als ast h h' a b ix hi hck hv hg9
            | 7, hck, hv, hg9, _, _ => exact gC_7 IH i n als ast h h' a b ix hi hck hv hg9
            | 8, hck, hv, hg9, _, n8 => exact (n8 _ _ _ _ rfl).elim
            | 9, hck, hv, hg9, _, _ => exact gC_9 IH i n als ast h h' a b ix hi hck hv hg9
            | 10, hck, hv, hg9, _, _ => exact gC_10 IH i n als ast h h' a b ix hi hck hv hg9
            | 11, hck, hv, hg9, _, _ => exact gC_11 IH i n als ast h h' a b ix hi hck hv hg9
            | 12, hck, hv, hg9, _, _ => exact gC_12 IH i n als ast h h' a b ix hi hck hv hg9
            | 13, hck, hv, hg9, _, _ => exact gC_13 IH i n als ast h h' a b ix hi hck hv hg9
            | 14, hck, hv, hg9, _, _ => exact gC_14 IH i n als ast h h' a b ix hi hck hv hg9
            | 15, hck, hv, hg9, _, _ => exact gC_15 IH i n als ast h h' a b ix hi hck hv hg9
            | 16, hck, hv, hg9, _, _ => exact gC_16 IH i n als ast h h' a b ix hi hck hv hg9
            | 17, hck, hv, hg9, _, _ => exact gC_17 IH i n als ast h h' a b ix hi hck hv hg9
            | 18, hck, hv, hg9, n18, _ => exact (n18 _ _ _ _ rfl).elim
            | 19, hck, hv, hg9, _, _ => exact gC_19 IH i n als ast h h' a b ix hi hck hv hg9
            | k + 20, hck, hv, hg9, _, _ => exact absurd hck (by show ¬ false = true; decide)
          · cases hr
      · cases hr
