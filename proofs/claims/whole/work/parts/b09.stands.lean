-- what the small machine stands on, at the law's entry (wip/whole/gen/laws95.py)
def gNar : List Cond := flatC (Jvm.Cond.and given_1 narrow_1)
def gIs : List (Nat × Nat) := [(93, 248), (99, 254), (101, 256), (103, 257), (105, 258), (107, 260), (109, 267), (111, 269), (113, 261), (115, 263), (117, 265)]
def gTm (i : Nat) : Term := .string "RiverCompact$Reader" (gIs.getD i (0, 0)).1
def gVal (i : Nat) : Term := .field (gTm i) "java/lang/String" "value" "[B"
set_option maxRecDepth 100000 in
theorem gStr_1 : (List.range 11).all (fun i => decide (Cond.exactly (gTm i) "java/lang/String" ∈ gNar) && (decide (Cond.eq (.field (gTm i) "java/lang/String" "coder" "B") (.int 0) ∈ gNar) && (decide (Cond.arrayOf (gVal i) .byte ∈ gNar) && decide (Cond.eq (.length (gVal i)) (.int (Int32.ofNat (rvSn.getD i 0))) ∈ gNar)))) = true := by decide +kernel
set_option maxRecDepth 100000 in
theorem gStr_2 : (List.range 11).all (fun i => (List.range (rvSn.getD i 0)).all (fun j => decide (Cond.eq (.elem (gVal i) (.int (Int32.ofNat j))) (.int ((rvSb.getD i []).getD j 0)) ∈ gNar))) = true := by decide +kernel
set_option maxRecDepth 100000 in
theorem gStr_3 : (List.range 11).all (fun i => (List.range i).all (fun j => decide (Cond.not (Cond.eq (gTm j) (gTm i)) ∈ gNar) || decide (Cond.not (Cond.eq (gTm i) (gTm j)) ∈ gNar))) = true := by decide +kernel
set_option maxRecDepth 100000 in
theorem gStr_4 : (List.range 11).all (fun i => decide (Cond.eq (.string "RiverCompactModel" (gIs.getD i (0, 0)).2) (gTm i) ∈ gNar) || decide (Cond.eq (gTm i) (.string "RiverCompactModel" (gIs.getD i (0, 0)).2) ∈ gNar)) = true := by decide +kernel
set_option maxRecDepth 100000 in
theorem gStr_5 : rvLs.all (fun e => decide (lw_tbl[e.2.2.2]? = some (.stringRef (rvCn.getD e.1 "") e.2.1 (rvSt.getD e.2.2.1 ""))) && (decide (e.2.2.1 < 11) && ((decide (e.1 = 5) && decide (e.2.1 = (gIs.getD e.2.2.1 (0, 0)).1)) || (decide (e.1 = 10) && decide (e.2.1 = (gIs.getD e.2.2.1 (0, 0)).2))))) = true := by decide +kernel
set_option maxRecDepth 100000 in
theorem gUnd_1 : (Cond.arrayOf (.static "RiverCompact" "UNDER" "[I") .int ∈ gNar ∧ Cond.eq (.length (.static "RiverCompact" "UNDER" "[I")) (.int 6) ∈ gNar) ∧ (Cond.eq (.static "java/lang/String" "COMPACT_STRINGS" "Z") (.int 1) ∈ gNar ∧ Cond.isRef (.static "jdk/internal/util/Preconditions" "SIOOBE_FORMATTER" "Ljava/util/function/BiFunction;") ∈ gNar) := by decide +kernel
set_option maxRecDepth 100000 in
theorem gUnd_2 : (List.range 6).all (fun j => decide (Cond.eq (.elem (.static "RiverCompact" "UNDER" "[I") (.int (Int32.ofNat j))) (.int (rvUn.getD j 0)) ∈ gNar)) = true := by decide +kernel
set_option maxRecDepth 100000 in
theorem gLay : (Cond.laysStatic "RiverCompact" "UNDER" "[I" ∈ lw_tbl ∧ Cond.initialized "RiverCompact" ∈ lw_tbl) ∧ (Cond.laysStatic "java/lang/String" "COMPACT_STRINGS" "Z" ∈ lw_tbl ∧ Cond.initialized "java/lang/String" ∈ lw_tbl) ∧ (Cond.laysStatic "jdk/internal/util/Preconditions" "SIOOBE_FORMATTER" "Ljava/util/function/BiFunction;" ∈ lw_tbl ∧ Cond.initialized "jdk/internal/util/Preconditions" ∈ lw_tbl) := by decide +kernel
set_option maxRecDepth 100000 in
theorem gNst : Cond.fieldLinkNest "RiverCompact$Hold" 41 "RiverCompact" "UNDER" "[I" "RiverCompact" ∈ lw_tbl ∧ Cond.methodLinkNest "RiverCompact$Hold" 33 (rvM 104).1 "RiverCompact" ∈ lw_tbl ∧ Cond.methodLinkNest "RiverCompact$Reader" 129 (rvM 104).1 "RiverCompact" ∈ lw_tbl := by decide +kernel
theorem gAd_in {s : State} {u scr : Nat} {tA tB : Nat → Nat} : ∀ a, rvAd (gA s.heap.size u scr tA tB) s.heap.size a → s.heap.size ≤ a := by
  intro a h
  rcases h with ⟨k, n, hk, -, rfl⟩ | h
  · unfold gA
    rw [if_pos hk]
    omega
  · exact h
theorem gStat {s : State} {args : Array Value} {b L : Nat} {xs : Nat → Int32} (hL : L ≤ 3584) (hts : ∀ w ∈ lw_tbl, w.before args s = true) (hX : va_X b L xs s s.heap) (hbl : b < s.heap.size) (hg : (Jvm.Cond.and given_1 narrow_1).before args s = true) :
    ∃ (u : Nat) (tA tB : Nat → Nat), rvStat (gA s.heap.size u b tA tB) (gSg L xs) (rvAd (gA s.heap.size u b tA tB) s.heap.size) s s.heap := by
  have hn : ∀ c ∈ gNar, c.before args s = true := flat_of_before _ hg
  have hA : ∀ a : Nat, a < s.heap.size → ¬ (fun q => s.heap.size ≤ q) a := fun a h1 (h2 : s.heap.size ≤ a) => by omega
  obtain ⟨u, hu, hT⟩ := va_Tof (tm := .static "RiverCompact" "UNDER" "[I") (ty := .int) (N := 6) (f := fun j => .int (rvUn.getD j 0)) (A := fun q => s.heap.size ≤ q) (by decide) (hn _ gUnd_1.1.1) (va_eqt (hn _ gUnd_1.1.2)) (fun j hj => va_eqt (hn _ (of_decide_eq_true (List.all_eq_true.mp gUnd_2 j (List.mem_range.mpr hj))))) hA
  have c1 : ∀ i, i < 11 → Cond.exactly (gTm i) "java/lang/String" ∈ gNar ∧ Cond.eq (.field (gTm i) "java/lang/String" "coder" "B") (.int 0) ∈ gNar ∧ Cond.arrayOf (gVal i) .byte ∈ gNar ∧ Cond.eq (.length (gVal i)) (.int (Int32.ofNat (rvSn.getD i 0))) ∈ gNar := fun i hi => by
    have h := List.all_eq_true.mp gStr_1 i (List.mem_range.mpr hi)
    simp only [Bool.and_eq_true, decide_eq_true_eq] at h
    exact h
  have c3 : ∀ i j, i < 11 → j < i → Cond.not (Cond.eq (gTm j) (gTm i)) ∈ gNar ∨ Cond.not (Cond.eq (gTm i) (gTm j)) ∈ gNar := fun i j hi hj => by
    have h := List.all_eq_true.mp (List.all_eq_true.mp gStr_3 i (List.mem_range.mpr hi)) j (List.mem_range.mpr hj)
    simp only [Bool.or_eq_true, decide_eq_true_eq] at h
    exact h
  obtain ⟨tA, tB, hS, htm⟩ := vk_Sof (args := args) (s := s) (N := 11) (tm := gTm) (len := rvSn) (byt := rvSb) (A := fun q => s.heap.size ≤ q) (fun i hi => by
      have h0 : (List.range 11).all (fun i => decide (rvSn.getD i 0 < 2 ^ 31)) = true := by decide +kernel
      exact of_decide_eq_true (List.all_eq_true.mp h0 i (List.mem_range.mpr hi))) (fun i hi => hn _ (c1 i hi).1) (fun i hi => hn _ (c1 i hi).2.1) (fun i hi => hn _ (c1 i hi).2.2.1) (fun i hi => hn _ (c1 i hi).2.2.2)
    (fun i hi j hj => hn _ (of_decide_eq_true (List.all_eq_true.mp (List.all_eq_true.mp gStr_2 i (List.mem_range.mpr hi)) j (List.mem_range.mpr hj))))
    (fun i j hi hj e => by
      by_cases c : j < i
      · rcases c3 i j hi c with h | h
        · exact Or.inr (hn _ h)
        · exact Or.inl (hn _ h)
      · rcases c3 j i hj (by omega) with h | h
        · exact Or.inl (hn _ h)
        · exact Or.inr (hn _ h)) hA
  refine ⟨u, tA, tB, rvStat_narrow (A0 := fun q => s.heap.size ≤ q) ?_ gAd_in⟩
  have hfm : ∃ q : Option Nat, va_Z "jdk/internal/util/Preconditions" "SIOOBE_FORMATTER" "Ljava/util/function/BiFunction;" (va_rf q) (fun q => s.heap.size ≤ q) s s.heap := by
    rcases va_Zqof (A := fun q => s.heap.size ≤ q) (hts _ gLay.2.2.1) (hts _ gLay.2.2.2) (hn _ gUnd_1.2.2) hA with h | ⟨t, h⟩
    · exact ⟨none, h⟩
    · exact ⟨some t, h⟩
  refine ⟨hT, ?_, va_Zref (hts _ gLay.1.1) (hts _ gLay.1.2) hu hA, hS, va_Nw.of rfl (hts _ gNst.1), va_Nw.of rfl (hts _ gNst.2.1), va_Nw.of rfl (hts _ gNst.2.2), fun e he => ?_, va_Zof (hts _ gLay.2.1.1) (hts _ gLay.2.1.2) (va_eqi (hn _ gUnd_1.2.1)) hA, hfm⟩
  · obtain ⟨scr, x1, x2, x3, x4, x5⟩ := hX
    have eL : rvLen (gSg L xs) 108 0 = L := by
      show (Int32.ofNat L).toInt.toNat = L
      rw [gSm (by omega)]; rfl
    rw [eL]
    refine ⟨scr, x1, x2, x3, by omega, by rw [x4], fun j hj => ?_, hA b hbl⟩
    rw [x5 j hj]
    show some (Value.int (xs j)) = some (Value.int (if j = 1000000 then Int32.ofNat L else xs j))
    rw [if_neg (by omega)]
  · have h := List.all_eq_true.mp gStr_5 e he
    simp only [Bool.and_eq_true, Bool.or_eq_true, decide_eq_true_eq] at h
    obtain ⟨h1, hi, h2⟩ := h
    refine vk_R.of (A := args) (hts _ (List.mem_of_getElem? h1)) ?_
    have ht := htm e.2.2.1 hi
    rcases h2 with ⟨q1, q2⟩ | ⟨q1, q2⟩
    · rw [q1, q2]
      exact ht
    · rw [q1, q2]
      have h4 := List.all_eq_true.mp gStr_4 e.2.2.1 (List.mem_range.mpr hi)
      simp only [Bool.or_eq_true, decide_eq_true_eq] at h4
      rcases h4 with h4 | h4
      · exact va_eqv (hn _ h4) ht
      · exact va_eqR (hn _ h4) ht
theorem gNs0 {s : State} {args : Array Value} (hts : ∀ w ∈ lw_tbl, w.before args s = true) : gNs s := by
  intro e he
  obtain ⟨j, hj⟩ := List.getElem?_of_mem he
  have hj7 : j < 7 := (List.getElem?_eq_some_iff.mp hj).1
  have h := of_decide_eq_true (List.all_eq_true.mp gNl_ok j (List.mem_range.mpr hj7))
  have e0 : gNl.getD j (0, 0, 0) = e := by rw [List.getD_eq_getElem?_getD, hj]; rfl
  rw [e0] at h
  exact va_Nw.of rfl (hts _ (List.mem_of_getElem? h))
theorem gAs0 {s : State} {args : Array Value} (hts : ∀ w ∈ lw_tbl, w.before args s = true) : gAs s := by
  intro e he
  have h := of_decide_eq_true (List.all_eq_true.mp gAo_ok e he)
  exact va_AO.of (A := args) (hts _ (List.mem_of_getElem? h.1))
theorem gIn_ok : (List.range 11).all (fun c => rvAtT (gWp.getD c (0, 0, 0, 0, 0)).2.1 (.instantiable (gCN c) (gCNn c))) = true := by decide +kernel
theorem gPr_ok : (rvAtT 132 (.arrayClass .int) && (rvAtT 1279 (.arrayClass .long) && (rvAtT 438 (.arrayClass .byte) && rvAtT 1278 (.arrayClass .boolean)))) = true := by decide +kernel
theorem gK0 {s : State} {args : Array Value} (hts : ∀ w ∈ rvT, w.before args s = true) (hao : gAs s) : ∃ (D : va_G) (cA : Nat → ClassId), va_K D vwCl (rvTys cA) s := by
  have h1 : ∀ c : Nat, ∃ p : ClassId × (Nat → Nat), ∀ q, vwCl[c]? = some q → u_Kn s q.1 q.2.1 q.2.2 p.1 p.2 := by
    intro c
    cases hq : vwCl[c]? with
    | none => exact ⟨(0, fun _ => 0), fun q h => by cases h⟩
    | some q =>
      obtain ⟨-, o2, o3, hc⟩ := gOb hq
      have hi := rvAtT_in (List.all_eq_true.mp gIn_ok c (List.mem_range.mpr hc))
      rw [o2] at hi
      obtain ⟨cC, iS, h⟩ := u_known hts (rvU_ws c q hq) (hts _ hi)
      exact ⟨(cC, iS), fun q' h' => by cases h'; exact h⟩
  have hp := gPr_ok
  simp only [Bool.and_eq_true] at hp
  have hprim : ∀ ty : FieldType, (∀ C, ¬ ty = .object C) → Cond.arrayClass ty ∈ rvT → ∃ c : ClassId, ArrOfT s c ty ∧ va_RA s c ty := fun ty hC hw => by
    obtain ⟨c, k, comp, f1, f2, f3⟩ := Cond.arrayClass_spec (hts _ hw)
    refine ⟨c, fun n z => ⟨fun k h => (by cases h), k, f2, comp, f3⟩, ?_⟩
    cases ty with
    | object C => exact absurd rfl (hC C)
    | _ => exact f1
  have href : ∀ C : String, va_AO C s → ∃ c : ClassId, ArrOfT s c (.object C) ∧ va_RA s c (.object C) := fun C h => by
    obtain ⟨comp, c, k, f1, -, f2, f3, f4⟩ := Cond.arrayOver_spec h
    exact ⟨c, fun n z => ⟨fun k h => (by cases h), k, f2, comp, f3⟩, k, comp, f2, f3, f1, f4⟩
  have h2 : ∀ t : Nat, ∃ c : ClassId, 1 ≤ t → t ≤ 10 → ArrOfT s c (rvTy t) ∧ va_RA s c (rvTy t) := by
    intro t
    by_cases ht : 1 ≤ t ∧ t ≤ 10
    · have : ∃ c : ClassId, ArrOfT s c (rvTy t) ∧ va_RA s c (rvTy t) := by
        rcases (show t = 1 ∨ t = 2 ∨ t = 3 ∨ t = 4 ∨ t = 5 ∨ t = 6 ∨ t = 7 ∨ t = 8 ∨ t = 9 ∨ t = 10 by omega) with rfl | rfl | rfl | rfl | rfl | rfl | rfl | rfl | rfl | rfl
        · exact hprim .int (fun C q => by cases q) (rvAtT_in hp.1)
        · exact hprim .long (fun C q => by cases q) (rvAtT_in hp.2.1)
        · exact hprim .byte (fun C q => by cases q) (rvAtT_in hp.2.2.1)
        · exact hprim .boolean (fun C q => by cases q) (rvAtT_in hp.2.2.2)
        · exact href _ (hao (5, 99) (by decide))
        · exact href _ (hao (6, 278) (by decide))
        · exact href _ (hao (7, 97) (by decide))
        · exact href _ (hao (8, 276) (by decide))
        · exact href _ (hao (9, 440) (by decide))
        · exact href _ (hao (10, 101) (by decide))
      obtain ⟨c, h⟩ := this
      exact ⟨c, fun _ _ => h⟩
    · exact ⟨0, fun a b => absurd ⟨a, b⟩ ht⟩
  obtain ⟨FD, hFD⟩ := Classical.axiomOfChoice h1
  obtain ⟨FA, hFA⟩ := Classical.axiomOfChoice h2
  refine ⟨(fun c => (FD c).1, fun c => (FD c).2), FA, fun c q hq => hFD c q hq, fun k q hk => ?_⟩
  unfold rvTys at hk
  rw [List.getElem?_map] at hk
  by_cases hk10 : k < 10
  · rw [List.getElem?_range hk10] at hk
    cases hk
    exact hFA (k + 1) (by omega) (by omega)
  · rw [List.getElem?_eq_none (by rw [List.length_range]; omega)] at hk
    cases hk
