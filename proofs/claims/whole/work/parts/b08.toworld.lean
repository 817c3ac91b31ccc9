-- the heap that the constructors leave is the small machine's world (wip/whole/gen/laws94.py)
def gInv : List Nat := [83, 82, 331, 332, 333, 334, 335, 336, 337, 338, 339, 340, 341, 342, 50, 51, 52, 53, 54, 55, 56, 2, 3, 4, 5, 6, 7, 8, 9, 10, 11, 12, 13, 14, 15, 16, 17, 76, 325, 77, 326, 78, 327, 79, 328, 80, 329, 81, 330, 0, 85, 87, 89, 91, 93, 57, 191, 205, 219, 233, 247, 261, 275, 289, 303, 58, 192, 206, 220, 234, 248, 262, 276, 290, 304, 59, 193, 207, 221, 235, 249, 263, 277, 291, 305, 60, 194, 208, 222, 236, 250, 264, 278, 292, 306, 61, 195, 209, 223, 237, 251, 265, 279, 293, 307, 62, 196, 210, 224, 238, 252, 266, 280, 294, 308, 63, 197, 211, 225, 239, 253, 267, 281, 295, 309, 18, 95, 127, 159, 19, 96, 128, 160, 20, 97, 129, 161, 21, 98, 130, 162, 22, 99, 131, 163, 23, 100, 132, 164, 24, 101, 133, 165, 25, 102, 134, 166, 26, 103, 135, 167, 27, 104, 136, 168, 28, 105, 137, 169, 29, 106, 138, 170, 30, 107, 139, 171, 31, 108, 140, 172, 32, 109, 141, 173, 33, 110, 142, 174, 1, 86, 88, 90, 92, 94, 64, 198, 212, 226, 240, 254, 268, 282, 296, 310, 65, 199, 213, 227, 241, 255, 269, 283, 297, 311, 66, 200, 214, 228, 242, 256, 270, 284, 298, 312, 67, 201, 215, 229, 243, 257, 271, 285, 299, 313, 68, 202, 216, 230, 244, 258, 272, 286, 300, 314, 69, 203, 217, 231, 245, 259, 273, 287, 301, 315, 70, 204, 218, 232, 246, 260, 274, 288, 302, 316, 34, 111, 143, 175, 35, 112, 144, 176, 36, 113, 145, 177, 37, 114, 146, 178, 38, 115, 147, 179, 39, 116, 148, 180, 40, 117, 149, 181, 41, 118, 150, 182, 42, 119, 151, 183, 43, 120, 152, 184, 44, 121, 153, 185, 45, 122, 154, 186, 46, 123, 155, 187, 47, 124, 156, 188, 48, 125, 157, 189, 49, 126, 158, 190, 71, 317, 318, 319, 320, 343, 72, 321, 73, 322, 74, 323, 75, 324, 84, 344, 345, 346, 347, 348, 349, 350, 351, 352, 353, 354, 355, 356, 357, 358, 359, 360, 361, 362, 363, 364, 365, 366, 367, 368, 369, 370, 371, 372, 373, 374, 375, 376, 377, 378, 379, 380, 381, 382, 383, 384, 385, 386, 387, 388, 389, 390, 391, 392, 393, 394, 395, 396, 397, 398, 399, 400, 401]
def gA (z u scr : Nat) (tA tB : Nat → Nat) : Nat → Nat → Nat := fun k n => if k < 105 then z + gOff k n else if k = 105 then u else if k = 106 then tA n else if k = 107 then tB n else scr
def gOkVal (h : List gE) (q : Nat × Nat) : Bool := match h[gOff q.1 q.2]? with
  | some (.inl (_, fs)) => (List.range fs.length).all (fun j => match fs[j]? with
    | some (.inl v) => v == Int32.ofInt (gInit q.1 q.2 j)
    | _ => true)
  | some (.inr (.inl (t, N, f))) => (t == 1 || (t == 3 || t == 4)) && (if gMod.contains (gOff q.1 q.2) then (List.range N).all (fun j => f j == Int32.ofInt (gInit q.1 q.2 j)) else true)
  | _ => true
def gZeroQ (q : Nat × Nat) : Bool := decide ((rvK q.1).1 = 0) || (gMod.contains (gOff q.1 q.2) || !(q.1 == 0 || (q.1 == 6 || (q.1 == 7 || (q.1 == 8 || (q.1 == 10 || ((q.1 == 33 && q.2 == 0) || (q.1 == 37 || (q.1 == 71 || (q.1 == 72 || (q.1 == 73 || q.1 == 74)))))))))))
set_option maxRecDepth 100000 in
theorem gZero_ok : rvCells.all gZeroQ = true := by decide +kernel
theorem gInit_0 {k n : Nat} (h : (!(k == 0 || (k == 6 || (k == 7 || (k == 8 || (k == 10 || ((k == 33 && n == 0) || (k == 37 || (k == 71 || (k == 72 || (k == 73 || k == 74))))))))))) = true) (j : Nat) : gInit k n j = 0 := by
  simp only [Bool.not_eq_true', Bool.or_eq_false_iff, Bool.and_eq_false_iff, beq_eq_false_iff_ne, ne_eq] at h
  obtain ⟨a1, a2, a3, a4, a5, a6, a7, a8, a9, a10, a11⟩ := h
  unfold gInit
  rw [if_neg a1, if_neg a2, if_neg a3, if_neg a4, if_neg a5]
  by_cases c : k = 33
  · rw [if_pos c]
    have : ¬ n = 0 := by rcases a6 with q | q; exact absurd c q; exact q
    rw [if_neg (fun q => this q.1)]
  · rw [if_neg c, if_neg a7, if_neg a8, if_neg a9, if_neg a10, if_neg a11]
/-- rows of numbers that nobody writes hold zeros -/
def gZr (h : List gE) : Prop := ∀ q t N f, gMod.contains q = false → h[q]? = some (.inr (.inl (t, N, f))) → ∀ j, f j = 0
theorem gZr_set {h : List gE} {q : Nat} {x : gE} (hz : gZr h) (hx : ∀ t N f, x = .inr (.inl (t, N, f)) → gMod.contains q = true) : gZr (h.set q x) := by
  intro q' t N f hm hq j
  by_cases e : q' = q
  · subst e
    by_cases hl : q' < h.length
    · rw [List.getElem?_set_self hl] at hq
      have := hx t N f (Option.some.inj hq)
      rw [this] at hm
      cases hm
    · rw [List.getElem?_eq_none (by rw [List.length_set]; omega)] at hq
      cases hq
  · rw [List.getElem?_set_ne (Ne.symm e)] at hq
    exact hz q' t N f hm hq j
theorem gZr_push {h : List gE} {x : gE} (hz : gZr h) (hx : ∀ t N f, x = .inr (.inl (t, N, f)) → ∀ j, f j = 0) : gZr (h ++ [x]) := by
  intro q' t N f hm hq j
  by_cases hl : q' < h.length
  · rw [List.getElem?_append_left hl] at hq
    exact hz q' t N f hm hq j
  · rw [List.getElem?_append_right (by omega)] at hq
    have h0 : q' - h.length < 1 := (List.getElem?_eq_some_iff.mp hq).1
    rw [show q' - h.length = 0 by omega] at hq
    exact hx t N f (Option.some.inj hq) j
theorem gStep_zr {n : Nat} {ls st : List gV} {h : List gE} {ai : gI} {y : gS} (hv : gVc ai st h = true) (hz : gZr h) (hy : gStep n ls st h ai = some y) : gZr y.2.2.2 := by
  unfold gStep at hy
  (repeat' split at hy) <;> first
    | (cases hy; done)
    | (cases hy; exact hz)
    | (cases hy; exact gZr_push hz (fun t N f e => by
        first
          | (cases e; done)
          | (cases e; intro j; rfl)
          | (split at e <;> cases e <;> intro j <;> rfl)))
    | (cases hy; refine gZr_set hz (fun t N f e => ?_); first | (cases e; done) | exact hv | (have hv2 := hv; simp only [gVc, Bool.and_eq_true] at hv2; exact hv2.2.2) )
theorem gRunV_zr : ∀ (F i n : Nat) (ls st : List gV) (h h' : List gE), gRunV F i n ls st h = some h' → gZr h → gZr h' := by
  intro F
  induction F with
  | zero => intro i n ls st h h' hr; cases hr
  | succ F ih =>
    intro i n ls st h h' hr hz
    unfold gRunV at hr
    split at hr
    · cases hr
    · split at hr
      · rename_i hv
        split at hr
        · split at hr
          · cases hr; exact hz
          · cases hr
        · split at hr
          · split at hr
            · rename_i e
              exact ih _ _ _ _ _ _ hr (ih _ _ _ _ _ _ e hz)
            · cases hr
          · cases hr
        · split at hr
          · split at hr
            · rename_i e
              exact ih _ _ _ _ _ _ hr (ih _ _ _ _ _ _ e hz)
            · cases hr
          · cases hr
        · split at hr
          · rename_i e
            exact ih _ _ _ _ _ _ hr (gStep_zr hv hz e)
          · cases hr
      · cases hr
def gTgOk (q : Nat × Nat) : Bool := (List.range (if (rvK q.1).1 = 0 then (rvFts.getD q.1 []).length else if 5 ≤ (rvK q.1).1 then (rvK q.1).2.1 else 0)).all (fun j => (decide ((rvK q.1).1 = 0) && !(rvFt q.1 j == 2)) || decide ((rvTg q.1 q.2 j).1 < 105))
set_option maxRecDepth 100000 in
theorem gTg_ok : rvCells.all gTgOk = true := by decide +kernel
def gIxOk : Bool := (List.range 402).all (fun i => match rvCells[i]? with
  | some c => Nat.beq (gInv.getD (gOff c.1 c.2) 999) i
  | none => false) && Nat.beq rvCells.length 402
set_option maxRecDepth 100000 in
theorem gIx_ok : gIxOk = true := by decide +kernel
def gMkOk2 : Bool := match gMk with
  | some h => Nat.beq (gSum h) 44444 && rvCells.all (gOkVal h)
  | none => false
set_option maxRecDepth 100000 in
theorem gMk_ok2 : gMkOk2 = true := by decide +kernel
theorem gMk_all : ∃ h1 h : List gE, gRunV 4000 9 0 [.inr (some 0), .inr none, .inr none] [] [.inl (9, gNew 9)] = some h1 ∧ gRunV 4000 10 0 [.inr (some h1.length), .inr none, .inr none] [] (h1 ++ [.inl (10, gNew 10)]) = some h ∧ h.length = 402 ∧ gSum h = 44444 ∧ rvCells.all (gOkCell h) = true ∧ rvCells.all (gOkVal h) = true ∧ gZr h := by
  have a := gMk_ok
  have b := gMk_ok2
  unfold gMkOk at a
  unfold gMkOk2 at b
  cases hm : gMk with
  | none => rw [hm] at a; cases a
  | some h =>
    rw [hm] at a b
    dsimp only at a b
    simp only [Bool.and_eq_true, Nat.beq_eq] at a b
    unfold gMk at hm
    split at hm
    · rename_i h1 e
      have z0 : gZr [.inl (9, gNew 9)] := fun q t N f _ hq => by
        match q, hq with
        | 0, hq => cases hq
        | q + 1, hq => cases hq
      exact ⟨h1, h, e, hm, a.1, b.1, a.2, b.2, gRunV_zr _ _ _ _ _ _ _ hm (gZr_push (gRunV_zr _ _ _ _ _ _ _ e z0) (fun t N f e => by cases e))⟩
    · cases hm
theorem gArq_cong {cI : ClassId} {N : Nat} {f g : Nat → Option Nat} (h : ∀ j, j < N → f j = g j) : vp_cell cI (N, .inr (.inr (.inr (.inr f)))) = vp_cell cI (N, .inr (.inr (.inr (.inr g)))) := by
  show arrV cI N (fun j => va_rf (f j)) = arrV cI N (fun j => va_rf (g j))
  have e : (fun j : Fin N => va_rf (f j.val)) = fun j : Fin N => va_rf (g j.val) := funext fun j => by rw [h j.val j.isLt]
  unfold arrV
  rw [e]
theorem gSg_1 {L : Nat} {xs : Nat → Int32} {k n j : Nat} (hk : k < 105) : (gSg L xs).1 k n j = Int32.ofInt (gInit k n j) := by
  show (if k = 108 then _ else _) = _
  rw [if_neg (by omega)]
theorem gP_rv {z u scr L : Nat} {tA tB : Nat → Nat} {xs : Nat → Int32} {cA : Nat → ClassId} {D : va_G} {h : List gE} {H : Heap} (hc : rvCells.all (gOkCell h) = true) (hv : rvCells.all (gOkVal h) = true) (hz : gZr h) (hP : va_P D vwCl (gWs z cA h) H) : va_P D vwCl (rvWs (gA z u scr tA tB) cA (gSg L xs)) H := by
  intro j q hj
  rw [rvWs, List.getElem?_map] at hj
  cases hcj : rvCells[j]? with
  | none => rw [hcj] at hj; cases hj
  | some kn =>
    rw [hcj] at hj
    cases hj
    obtain ⟨k, n⟩ := kn
    have hmem := List.mem_of_getElem? hcj
    have hm := rvCells_mem.mp hmem
    have hok := List.all_eq_true.mp hc _ hmem
    have hov := List.all_eq_true.mp hv _ hmem
    have htg := List.all_eq_true.mp gTg_ok _ hmem
    have eA : gA z u scr tA tB k n = z + gOff k n := by unfold gA; rw [if_pos hm.1]
    show va_at D vwCl (gA z u scr tA tB k n, rvEnt (gA z u scr tA tB) cA (gSg L xs) (k, n)) H
    rw [eA]
    unfold gOkCell at hok
    unfold gOkVal at hov
    unfold gTgOk at htg
    dsimp only at hok hov htg
    cases he : h[gOff k n]? with
    | none => rw [he] at hok; cases hok
    | some x =>
      rw [he] at hok hov
      have hat := hP _ _ (gWs_at he)
      rcases x with ⟨k', fs⟩ | ⟨t, N, f⟩ | N | ⟨t, N, f⟩
      · dsimp only at hok hov
        simp only [Bool.and_eq_true, beq_iff_eq] at hok
        obtain ⟨⟨⟨h1, h2⟩, h3⟩, h4⟩ := hok
        subst h2
        rw [rvEnt_0 h1]
        have e : fs.map (gTr z) = (List.range (rvFts.getD k' []).length).map (fun j => rvFv (gA z u scr tA tB) (gSg L xs) k' n j) := by
          apply List.ext_getElem?
          intro i
          rw [List.getElem?_map, List.getElem?_map]
          by_cases hi : i < fs.length
          · rw [List.getElem?_range (by omega)]
            have c4 := List.all_eq_true.mp h4 i (List.mem_range.mpr hi)
            have cv := List.all_eq_true.mp hov i (List.mem_range.mpr hi)
            rw [if_pos h1] at htg
            have ct := List.all_eq_true.mp htg i (List.mem_range.mpr (by omega))
            rw [List.getElem?_eq_getElem hi] at c4 cv ⊢
            show some (gTr z fs[i]) = some (rvFv _ _ k' n i)
            generalize fs[i] = x0 at c4 cv ⊢
            rcases x0 with v | (_ | r)
            · replace c4 : (!(rvFt k' i == 2)) = true := c4
              replace cv : (v == Int32.ofInt (gInit k' n i)) = true := cv
              have cv := eq_of_beq cv
              unfold rvFv
              split
              · rename_i e2
                rw [e2] at c4
                cases c4
              · rw [gSg_1 hm.1, ← cv]; rfl
            · cases c4
            · replace c4 : (rvFt k' i == 2 && r == gOff (rvTg k' n i).1 (rvTg k' n i).2) = true := c4
              simp only [Bool.and_eq_true, beq_iff_eq] at c4
              simp only [Bool.or_eq_true, Bool.and_eq_true, Bool.not_eq_true', decide_eq_true_eq] at ct
              have ct2 : (rvTg k' n i).1 < 105 := by
                rcases ct with ⟨-, c2⟩ | c2
                · rw [c4.1] at c2; cases c2
                · exact c2
              unfold rvFv
              rw [c4.1]
              show some (Value.ref (z + r)) = some (Value.ref (gA z u scr tA tB (rvTg k' n i).1 (rvTg k' n i).2))
              rw [c4.2]
              unfold gA
              rw [if_pos ct2]
          · rw [List.getElem?_eq_none (by omega), List.getElem?_eq_none (by rw [List.length_range]; omega)]
            rfl
        rw [← e]
        exact hat
      · dsimp only at hok hov
        simp only [Bool.and_eq_true, Bool.or_eq_true, beq_iff_eq] at hok hov
        obtain ⟨h1, h2⟩ := hok
        obtain ⟨ht, hv2⟩ := hov
        have hcg : ∀ j, j < N → f j = (gSg L xs).1 k n j := fun j hj => by
          rw [gSg_1 hm.1]
          by_cases c9 : gMod.contains (gOff k n) = true
          · rw [if_pos c9] at hv2
            exact eq_of_beq (List.all_eq_true.mp hv2 j (List.mem_range.mpr hj))
          · have c8 : gMod.contains (gOff k n) = false := by
              cases c7 : gMod.contains (gOff k n) with
              | true => exact absurd c7 c9
              | false => rfl
            rw [hz _ _ _ _ c8 he j]
            have hzq := List.all_eq_true.mp gZero_ok _ hmem
            unfold gZeroQ at hzq
            rw [Bool.or_eq_true, Bool.or_eq_true] at hzq
            rcases hzq with q | q | q
            · have q0 := of_decide_eq_true q
              dsimp only at q0
              rcases ht with rfl | rfl | rfl <;> (rw [h1] at q0; cases q0)
            · exact absurd q c9
            · rw [gInit_0 (k := k) (n := n) q j]; rfl
        have hat2 : H[z + gOff k n]? = some (vp_cell (cA t) (N, .inl f)) := hat
        rw [gArr_cong hcg] at hat2
        rcases ht with rfl | rfl | rfl
        · rw [rvEnt_1 h1, h2]; exact hat2
        · rw [rvEnt_3 h1, h2]; exact hat2
        · rw [rvEnt_4 h1, h2]; exact hat2
      · dsimp only at hok
        simp only [Bool.and_eq_true, beq_iff_eq] at hok
        obtain ⟨h1, h2⟩ := hok
        rw [rvEnt_2 h1, h2]
        exact hat
      · dsimp only at hok
        simp only [Bool.and_eq_true, beq_iff_eq, decide_eq_true_eq] at hok
        obtain ⟨⟨⟨⟨h5, h10⟩, h1⟩, h2⟩, h4⟩ := hok
        have hcg : ∀ j, j < N → (f j).map (fun k => z + k) = some (gA z u scr tA tB (rvTg k n j).1 (rvTg k n j).2) := fun j hj => by
          have c4 := eq_of_beq (List.all_eq_true.mp h4 j (List.mem_range.mpr hj))
          rw [if_neg (by omega), if_pos (by omega)] at htg
          have ct := List.all_eq_true.mp htg j (List.mem_range.mpr (by omega))
          simp only [Bool.or_eq_true, Bool.and_eq_true, Bool.not_eq_true', decide_eq_true_eq] at ct
          have ct2 : (rvTg k n j).1 < 105 := by
            rcases ct with ⟨c1, -⟩ | c2
            · omega
            · exact c2
          rw [c4]
          unfold gA
          rw [if_pos ct2]
          rfl
        have hat2 : H[z + gOff k n]? = some (vp_cell (cA t) (N, .inr (.inr (.inr (.inr (fun j => (f j).map (fun k => z + k))))))) := hat
        rw [gArq_cong hcg] at hat2
        rw [rvEnt_5 h1 h5, h2]
        exact hat2
theorem gD_rv {z u scr : Nat} {tA tB : Nat → Nat} {cA : Nat → ClassId} {σ : rvS} : va_D (fun q => z ≤ q) (rvWs (gA z u scr tA tB) cA σ) := by
  have hix := gIx_ok
  unfold gIxOk at hix
  simp only [Bool.and_eq_true, Nat.beq_eq] at hix
  have key : ∀ (i : Nat) (p : Nat × va_E), (rvWs (gA z u scr tA tB) cA σ)[i]? = some p → ∃ o, p.1 = z + o ∧ gInv.getD o 999 = i := by
    intro i p hp
    rw [rvWs, List.getElem?_map] at hp
    cases hc : rvCells[i]? with
    | none => rw [hc] at hp; cases hp
    | some c =>
      rw [hc] at hp
      cases hp
      have hm := rvCells_mem.mp (List.mem_of_getElem? hc)
      refine ⟨gOff c.1 c.2, by show gA z u scr tA tB c.1 c.2 = _; unfold gA; rw [if_pos hm.1], ?_⟩
      have hi : i < 402 := by have := (List.getElem?_eq_some_iff.mp hc).1; omega
      have h1 := List.all_eq_true.mp hix.1 i (List.mem_range.mpr hi)
      rw [hc] at h1
      exact Nat.eq_of_beq_eq_true h1
  refine ⟨fun i j p q hi hj hpq => ?_, fun k q hk => ?_⟩
  · obtain ⟨o1, h1, h2⟩ := key i p hi
    obtain ⟨o2, h3, h4⟩ := key j q hj
    have : o1 = o2 := by omega
    rw [← h2, ← h4, this]
  · obtain ⟨o1, h1, -⟩ := key k q hk
    show z ≤ q.1
    omega
