-- the law from its entry to its end (wip/whole/gen/laws97.py)
def gF (L : Nat) (xs : Nat → Int32) : Nat → Nat → Int := fun _ j => (if j = 1000000 then Int32.ofNat L else xs j).toInt
theorem gInit_b (k n j : Nat) : -1 ≤ gInit k n j ∧ gInit k n j ≤ 101 := by
  unfold gInit
  repeat' split
  all_goals decide
theorem gSig_Z {L : Nat} {xs : Nat → Int32} : zSg (gSg L xs) = gZ (gF L xs) := by
  refine Prod.ext ?_ rfl
  funext k n j
  show (if k = 108 then (if j = 1000000 then Int32.ofNat L else xs j) else Int32.ofInt (gInit k n j)).toInt = if k = 108 then gF L xs n j else gInit k n j
  by_cases hk : k = 108
  · rw [if_pos hk, if_pos hk]; rfl
  · rw [if_neg hk, if_neg hk, Int32.toInt_ofInt]
    have h := gInit_b k n j
    have e : (gInit k n j).bmod (2 ^ 32) = zW (gInit k n j) := (zW_bmod _).symm
    rw [show (Int32.size : Nat) = 2 ^ 32 from rfl, e]
    exact zW_id (by omega)
theorem gF_b {L : Nat} {xs : Nat → Int32} (j : Nat) : -2147483648 ≤ gF L xs 0 j ∧ gF L xs 0 j ≤ 2147483647 := by
  unfold gF
  generalize (if j = 1000000 then Int32.ofNat L else xs j) = v
  have h1 := Int32.le_toInt v
  have h2 := Int32.toInt_lt v
  omega
def gAls : rvL := [some (.inr (.inr (108, 0))), some (.inr (.inr (9, 0))), some (.inr (.inr (10, 0))), none]
theorem gAls_ok : rvOks gAls := by
  intro j w hj
  match j, hj with
  | 0, hj => cases hj; exact (show 0 < (rvK 108).2.2 by decide)
  | 1, hj => cases hj; exact (show 0 < (rvK 9).2.2 by decide)
  | 2, hj => cases hj; exact (show 0 < (rvK 10).2.2 by decide)
  | 3, hj => cases hj
  | j + 4, hj => cases hj
theorem gLaw_wp {L : Nat} {xs : Nat → Int32} (hL : L ≤ 3584) : ∃ F, rvWp F 61 191 8 gAls [] (gSg L xs) (fun r _ => r = some (.inl 1)) := by
  have hl : (gF L xs 0 1000000).toNat = L := by
    show (Int32.ofNat L).toInt.toNat = L
    rw [gSm (by omega)]; rfl
  have hz : zX (0 + 61) 191 8 [some (.inr (.inr (108, 0))), some (.inr (.inr (9, 0))), some (.inr (.inr (10, 0))), none] [] (gZ (gF L xs)) (fun r _ => r = some (.inl 1)) := by
    refine zX_run (n' := 10) (ls' := [some (.inr (.inr (108, 0))), some (.inr (.inr (9, 0))), some (.inr (.inr (10, 0))), some (.inl 0)]) (st' := []) (σ' := gZ (gF L xs)) 2 rfl ?_
    exact lw_loop hl hL gF_b (fun s _ => rfl) L 0 0 _ rfl (by omega) (by omega) gZ_S
  obtain ⟨F, r, s9, hev, hr⟩ := hz
  refine ⟨F, zBr F 61 191 8 gAls [] (gSg L xs) r s9 (by rw [gSig_Z]; exact hev) _ (fun r' s' e1 _ => ?_)⟩
  rw [hr] at e1
  match r', e1 with
  | some (.inl v), e1 =>
    have e2 : v.toInt = 1 := Sum.inl.inj (Option.some.inj e1)
    have : v = 1 := Int32.toInt_inj.mp (e2.trans (by decide))
    rw [this]
  | some (.inr (.inl v)), e1 => cases e1
  | some (.inr (.inr v)), e1 => cases e1
  | none, e1 => cases e1
section GWH
variable {p : Program} {l : Launch} {e : Env} {s : State} {m : MethodId} {below : List Frame} {meth : Method} {c : Code}
theorem gLawEnd {b L nc ns : Nat} {xs : Nat → Int32} (hL : L ≤ 3584) (hx : p.tables.exec = Jvm.exec) (hb : c.code = code) (hrt : meth.sig.returnType = ret) (hml : c.maxLocals = 4) (hlk : meth.locks = false) (hown : s.vm.findClass "RiverCompactLaw" = some m.cls) (hts : ∀ w ∈ rvT, w.before #[Value.ref b] s = true)
    {u : Nat} {tA tB : Nat → Nat} (hSt : rvStat (gA s.heap.size u b tA tB) (gSg L xs) (rvAd (gA s.heap.size u b tA tB) s.heap.size) s s.heap) {D : va_G} {cA : Nat → ClassId} (hK : va_K D vwCl (rvTys cA) s) {h : List gE} (hc : rvCells.all (gOkCell h) = true) (hv : rvCells.all (gOkVal h) = true) (hz : gZr h)
    (hnc : nc ≤ 600000) (hns : ns ≤ 7302250) {H : Heap} {locs : List Loc} {ls : Array Slot} (hP : va_P D vwCl (gWs s.heap.size cA h) H) (hS : va_S (fun q => s.heap.size ≤ q) s.heap H locs) (hl : lv_has ls 4 [(2, .ref (s.heap.size + 343)), (1, .ref (s.heap.size + 0)), (0, .ref b)]) :
    W p l e room_1 s m #[Value.ref b] below meth c H locs nc ns (fun t => ∃ o, t.status = .running ∧ Ended t below o ∧ o = .returned (some (.int 1)) ∧ Framed s o t [] 600000 7302250) (F0 m 16 ls []) := by
  obtain ⟨F, hwp⟩ := gLaw_wp (xs := xs) hL
  have h16 : rvPc 191 8 = 16 := by decide +kernel
  have hk := rvSound l (rvStr l) F 61 191 8 gAls [] (gSg L xs) _ (by decide) hwp p e room_1 s m #[Value.ref b] below meth c (gA s.heap.size u b tA tB) cA D (gSg L xs) nc ns
    ⟨hx, hb, hrt, hlk, hml, hown, hts, ⟨show 61 ≤ 2048 by decide, show 64 * 61 ≤ 84000 by decide, hnc, hns⟩, hK, hSt⟩ H locs ls
    ⟨gP_rv hc hv hz hP, rvAd_self gD_rv, ⟨hS.1, fun q h1 h2 => hS.2.1 q h1 (fun h3 => h2 (Or.inr h3)), fun y hy => Or.inr (hS.2.2 y hy)⟩, ⟨hl.1, hl.2.1, fun j w hj => by
      match j, hj with
      | 0, hj => cases hj; exact hl.2.2 (0, .ref b) (by simp)
      | 1, hj => cases hj; exact hl.2.2 (1, .ref (s.heap.size + 0)) (by simp)
      | 2, hj => cases hj; exact hl.2.2 (2, .ref (s.heap.size + 343)) (by simp)
      | 3, hj => cases hj
      | j + 4, hj => cases hj⟩, fun v hv => absurd hv (by simp), gAls_ok, rfl⟩
  rw [h16] at hk
  intro T hT X
  obtain ⟨t, h1, o, q1, q2, ⟨⟨rr, σ', ho, hQ, -⟩, -⟩, L9, ⟨hv9, hW9, hsame⟩, hfree⟩ := hk T hT X
  refine ⟨t, h1, o, q1, q2, ?_, hv9, hW9, hsame.weaken (fun y hy hlt => absurd hlt (Nat.not_lt.mpr (gAd_in _ (hfree y hy)))) hnc hns⟩
  rw [ho, hQ]
  rfl
theorem gWhole {b L : Nat} {xs : Nat → Int32} (hL : L ≤ 3584) (hx : p.tables.exec = Jvm.exec) (hb : c.code = code) (hrt : meth.sig.returnType = ret) (hml : c.maxLocals = 4) (hown : s.vm.findClass "RiverCompactLaw" = some m.cls) (hts : ∀ w ∈ lw_tbl, w.before #[Value.ref b] s = true) (hX : va_X b L xs s s.heap) (hbl : b < s.heap.size) (hlk : meth.locks = false) (hg : (Jvm.Cond.and given_1 narrow_1).before #[Value.ref b] s = true) :
    W p l e room_1 s m #[Value.ref b] below meth c s.heap [] 0 0 (fun t => ∃ o, t.status = .running ∧ Ended t below o ∧ o = .returned (some (.int 1)) ∧ Framed s o t [] 600000 7302250) (entryFrame m ([Value.ref b] : List Value).toArray 4) := by
  have htsT : ∀ w ∈ rvT, w.before #[Value.ref b] s = true := fun w hw => hts w (List.mem_filter.mp hw).1
  obtain ⟨u, tA, tB, hSt⟩ := gStat (b := b) (xs := xs) hL hts hX hbl hg
  have hN := gNs0 hts
  have hA := gAs0 hts
  obtain ⟨D, cA, hK⟩ := gK0 htsT hA
  obtain ⟨h1, h, r1, r2, n402, nS, hcell, hval, hzr⟩ := gMk_all
  have h343 : h1.length = 343 := by
    have hq := gR1_ok
    unfold gR1 at hq
    rw [r1] at hq
    exact Nat.eq_of_beq_eq_true hq
  have mo1 := gRunV_mono _ _ _ _ _ _ _ r1
  have mo2 := gRunV_mono _ _ _ _ _ _ _ r2
  have z9 : gSz (.inl (9, gNew 9) : gE) = gCNn 9 := by decide +kernel
  have z10 : gSz (.inl (10, gNew 10) : gE) = gCNn 10 := by decide +kernel
  have z0 : gSum ([] : List gE) = 0 := rfl
  have y9 : gSum [(.inl (9, gNew 9) : gE)] = gCNn 9 := by
    show gSum ([] ++ [(.inl (9, gNew 9) : gE)]) = _
    rw [gSum_app, z0, z9]; omega
  rw [y9] at mo1
  rw [gSum_app, z10, List.length_append] at mo2
  have mo21 : h1.length + 1 ≤ h.length := mo2.1
  have hw := gLw_w
  simp only [Bool.and_eq_true] at hw
  obtain ⟨⟨w1, w2, w3, w4⟩, w5, w6, w7, w8⟩ := hw
  rw [lg_entry_eq]
  have hl0 : lv_has ((lg_sl [.ref b] ++ List.replicate (4 - (lg_sl [.ref b]).length) Slot.unset).toArray) 4 [(0, .ref b)] := lv_entry [.ref b] (n := 4) (show 1 ≤ 4 by decide)
  generalize (lg_sl [.ref b] ++ List.replicate (4 - (lg_sl [.ref b]).length) Slot.unset).toArray = ls at hl0 ⊢
  refine gLawNew (a := 9) (h := []) (h' := h1) (pc := 0) (ci := 7) (mi := 9) (z := s.heap.size) hx hb hml hown htsT hK hN hA (by decide) r1 (rvAtT_in w1) (rvAtT_in w2) (rvAtT_in w3) (rvAtT_in w4) (by decide +kernel) gLw_d.1 gLw_d.2.1 gLw_d.2.2.1 (show 5 ≤ 2048 by decide) (show 1000 ≤ 84000 by decide) ?_ ?_ hl0.1 (fun k q hk => ?_) rfl va_S.rf (fun H1 locs1 a1 a2 a3 => ?_)
  · show 0 + 1 + (h1.length - (0 + 1)) ≤ 600000
    omega
  · show 0 + gCNn 9 + (gSum h1 - (gSum [] + gCNn 9)) ≤ 7302250
    omega
  · rw [gWs_get] at hk
    cases hk
  · refine lv_astore_n (i := 1) hx hb gLw_d.2.2.2.1 rfl hl0 (by decide) rfl (fun ls1 hl1 => ?_)
    refine gLawNew (a := 10) (h := h1) (h' := h) (pc := 8) (ci := 10) (mi := 12) (z := s.heap.size) hx hb hml hown htsT hK hN hA (by decide) r2 (rvAtT_in w5) (rvAtT_in w6) (rvAtT_in w7) (rvAtT_in w8) (by decide +kernel) gLw_d.2.2.2.2.1 gLw_d.2.2.2.2.2.1 gLw_d.2.2.2.2.2.2.1 (show 5 ≤ 2048 by decide) (show 1000 ≤ 84000 by decide) ?_ ?_ hl1.1 a1 a2 a3 (fun H2 locs2 b1 b2 b3 => ?_)
    · show 0 + 1 + (h1.length - (0 + 1)) + 1 + (h.length - (h1.length + 1)) ≤ 600000
      omega
    · show 0 + gCNn 9 + (gSum h1 - (gSum [] + gCNn 9)) + gCNn 10 + (gSum h - (gSum h1 + gCNn 10)) ≤ 7302250
      omega
    · rw [h343]
      refine lv_astore_n (i := 2) hx hb gLw_d.2.2.2.2.2.2.2 rfl hl1 (by decide) rfl (fun ls2 hl2 => ?_)
      refine gLawEnd hL hx hb hrt hml hlk hown htsT hSt hK hcell hval hzr ?_ ?_ b1 b3 hl2
      · show 0 + 1 + (343 - (0 + 1)) + 1 + (h.length - (343 + 1)) ≤ 600000
        omega
      · show 0 + gCNn 9 + (gSum h1 - (gSum [] + gCNn 9)) + gCNn 10 + (gSum h - (gSum h1 + gCNn 10)) ≤ 7302250
        omega
end GWH
