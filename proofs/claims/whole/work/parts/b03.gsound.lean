-- the machine follows the constructors' run (wip/whole/gen/laws89.py)
def gNs (s : State) : Prop := ∀ e ∈ gNl, va_Nw (.methodLinkNest (gOwn e.1) e.2.1 (gY e.2.2) "RiverCompact") s
def gAs (s : State) : Prop := ∀ e ∈ gAop, va_AO (gAoN e.1) s
theorem gNs_same {u U : State} (hv : u.vm = U.vm) (h : gNs u) : gNs U := fun e he => va_Nw.same rfl hv (h e he)
theorem gNs_warm {s U : State} (hW : s.WarmedH U.vm) (h : gNs s) : gNs U := fun e he => va_Nw.warmM hW (h e he)
theorem gAs_moved {u U : State} (hv : u.vm.Alike U.vm) (h : gAs u) : gAs U := fun e he => va_AO.moved hv (h e he)
def gEnv (p : Program) (s : State) (m : MethodId) (args : Array Value) (meth : Method) (c : Code) (cA : Nat → ClassId) (D : va_G) (i : Nat) : Prop :=
  p.tables.exec = Jvm.exec ∧ c.code = gB i ∧ meth.sig.returnType = none ∧ meth.locks = false ∧ c.maxLocals = gMl i ∧ s.vm.findClass (gOwn i) = some m.cls ∧ (∀ w ∈ rvT, w.before args s = true) ∧ va_K D vwCl (rvTys cA) s ∧ gNs s ∧ gAs s ∧ meth.name = "<init>"
def gStt (s : State) (D : va_G) (cA : Nat → ClassId) (b nL : Nat) (H : Heap) (locs : List Loc) (ls : Array Slot) (als : List gV) (h : List gE) : Prop :=
  va_P D vwCl (gWs b cA h) H ∧ H.size = b + h.length ∧ va_S (fun q => b ≤ q) s.heap H locs ∧ rvLR (gAd b) nL (als.map gO) ls
def gQc (D : va_G) (cA : Nat → ClassId) (b : Nat) (h : List gE) : Array Value → State → Outcome → State → Prop := fun _ st o t => (o = .returned none ∧ va_P D vwCl (gWs b cA h) t.heap ∧ t.heap.size = b + h.length) ∧ va_F (fun q => b ≤ q) st t
def gSnd (l : Launch) (i n : Nat) (als ast : List gV) (h h' : List gE) : Prop :=
  ∀ (p : Program) (e : Env) (R : Room) (s : State) (m : MethodId) (args : Array Value) (below : List Frame) (meth : Method) (c : Code) (cA : Nat → ClassId) (D : va_G) (b nc ns NC NS : Nat), gEnv p s m args meth c cA D i →
  (gLv i ≤ R.frames ∧ 64 * gLv i ≤ R.locals ∧ NC ≤ R.cells ∧ NS ≤ R.slots) → (nc + h'.length = NC + h.length ∧ s.heap.size + nc = b + h.length) → ns + gSum h' = NS + gSum h →
  ∀ (H : Heap) (locs : List Loc) (ls : Array Slot), gStt s D cA b (gMl i) H locs ls als h →
    W p l e R s m args below meth c H locs nc ns (MQ below (gQc D cA b h') args s NC NS (fun q => b ≤ q)) (F0 m (gPc i n) ls (ast.map (gTr b)))
def gHyp (l : Launch) (F : Nat) : Prop := ∀ (i n : Nat) (als ast : List gV) (h h' : List gE), i < 11 → gRunV F i n als ast h = some h' → gSnd l i n als ast h h'
/-- a run only makes cells -/
theorem gStep_mono {n : Nat} {ls st : List gV} {h : List gE} {ai : gI} {y : gS} (hy : gStep n ls st h ai = some y) : h.length ≤ y.2.2.2.length ∧ gSum h ≤ gSum y.2.2.2 := by
  unfold gStep at hy
  (repeat' split at hy) <;> first
    | (cases hy; done)
    | (cases hy; exact ⟨Nat.le_refl _, Nat.le_refl _⟩)
    | (cases hy; exact ⟨by simp, by rw [gSum_app]; exact Nat.le_add_right _ _⟩)
    | (cases hy; refine ⟨by simp, Nat.le_of_eq (gSum_set (by assumption) ?_).symm⟩; simp [gSz])
theorem gRunV_mono : ∀ (F i n : Nat) (ls st : List gV) (h h' : List gE), gRunV F i n ls st h = some h' → h.length ≤ h'.length ∧ gSum h ≤ gSum h' := by
  intro F
  induction F with
  | zero => intro i n ls st h h' hr; cases hr
  | succ F ih =>
    intro i n ls st h h' hr
    unfold gRunV at hr
    split at hr
    · cases hr
    · split at hr
      · split at hr
        · split at hr
          · cases hr; exact ⟨Nat.le_refl _, Nat.le_refl _⟩
          · cases hr
        · split at hr
          · split at hr
            · rename_i e
              have a := ih _ _ _ _ _ _ e
              have b := ih _ _ _ _ _ _ hr
              omega
            · cases hr
          · cases hr
        · split at hr
          · split at hr
            · rename_i e
              have a := ih _ _ _ _ _ _ e
              have b := ih _ _ _ _ _ _ hr
              omega
            · cases hr
          · cases hr
        · split at hr
          · rename_i e
            have a := gStep_mono e
            have b := ih _ _ _ _ _ _ hr
            dsimp only at a
            omega
          · cases hr
      · cases hr
def gGo (F i n : Nat) (als ast : List gV) (h h' : List gE) (ai : gI) : Prop := ∃ y, gStep n als ast h ai = some y ∧ gRunV F i y.1 y.2.1 y.2.2.1 y.2.2.2 = some h'
def gCase (l : Launch) (F op : Nat) : Prop := ∀ (i n : Nat) (als ast : List gV) (h h' : List gE) (a b ix : Nat), i < 11 → gCk i n (gPc i n, op, a, b, ix) = true → gVc (gPc i n, op, a, b, ix) ast h = true → gGo F i n als ast h h' (gPc i n, op, a, b, ix) → gSnd l i n als ast h h'
section GS
variable {l : Launch} {F : Nat}
theorem gC_0 (hF : gHyp l F) : gCase l F 0 := by
  intro i n als ast h h' a b0 ix hi hck hv hg p e R s m args below meth c cA D b nc ns NC NS hE hR e1 e2 H locs ls hS
  obtain ⟨y, hy, hr⟩ := hg
  replace hy : (match (generalizing := false) als[a]? with | some (.inr (some k)) => some (n + 1, als, .inr (some k) :: ast, h) | _ => none) = some y := hy
  split at hy
  · rename_i kv hkv
    cases hy
    have hl := gLoc hS.2.2.2 hkv rfl
    have hk := hF i (n + 1) _ _ _ _ hi hr p e R s m args below meth c cA D b nc ns NC NS hE hR e1 e2 H locs ls hS
    obtain ⟨hx, hb, -⟩ := hE
    rcases rvD4_of hck with ⟨hd, hn⟩ | ⟨k, rfl, hd, hn⟩ <;> rw [hn] at hk
    · exact lv_aload hx hb hd hl hk
    · exact lv_aload_n hx hb hd rfl hl hk
  · cases hy
theorem gC_9 (hF : gHyp l F) : gCase l F 9 := by
  intro i n als ast h h' a b0 ix hi hck hv hg p e R s m args below meth c cA D b nc ns NC NS hE hR e1 e2 H locs ls hS
  obtain ⟨y, hy, hr⟩ := hg
  replace hy : (match (generalizing := false) als[a]? with | some (.inl v) => some (n + 1, als, .inl v :: ast, h) | _ => none) = some y := hy
  split at hy
  · rename_i kv hkv
    cases hy
    have hl := gLoc hS.2.2.2 hkv rfl
    have hk := hF i (n + 1) _ _ _ _ hi hr p e R s m args below meth c cA D b nc ns NC NS hE hR e1 e2 H locs ls hS
    obtain ⟨hx, hb, -⟩ := hE
    rcases rvD4_of hck with ⟨hd, hn⟩ | ⟨k, rfl, hd, hn⟩ <;> rw [hn] at hk
    · exact lv_iload hx hb hd hl hk
    · exact lv_iload_n hx hb hd rfl hl hk
  · cases hy
theorem gC_1 (hF : gHyp l F) : gCase l F 1 := by
  intro i n als ast h h' a b0 ix hi hck hv hg p e R s m args below meth c cA D b nc ns NC NS hE hR e1 e2 H locs ls hS
  obtain ⟨y, hy, hr⟩ := hg
  cases hy
  have hk := hF i (n + 1) _ _ _ _ hi hr p e R s m args below meth c cA D b nc ns NC NS hE hR e1 e2 H locs ls hS
  obtain ⟨hx, hb, -⟩ := hE
  simp only [gCk, Bool.or_eq_true, Bool.and_eq_true, decide_eq_true_eq] at hck
  rcases hck with ⟨h1, h2⟩ | ⟨h1, h2⟩ | ⟨h1, h2⟩ <;> obtain ⟨hd, hn⟩ := rvD_of h1 <;> rw [hn] at hk
  · exact lv_iconst hx hb hd h2 hk
  · exact lv_bipush hx hb hd h2 hk
  · exact lv_sipush hx hb hd h2 hk
theorem gE1 {nc NC z b : Nat} {h h' : List gE} {x : gE} (e1 : nc + h'.length = NC + h.length ∧ z + nc = b + h.length) : nc + 1 + h'.length = NC + (h ++ [x]).length ∧ z + (nc + 1) = b + (h ++ [x]).length := by
  rw [List.length_append]
  show _ = NC + (h.length + 1) ∧ _ = b + (h.length + 1)
  omega
theorem gW_size {p : Program} {l : Launch} {e : Env} {R : Room} {s : State} {m : MethodId} {args : Array Value} {below : List Frame} {meth : Method} {c : Code} {H : Heap} {locs : List Loc} {cells slots : Nat} {Q : State → Prop} {g : JFrame} {D : va_G} {cA : Nat → ClassId} {b : Nat} {h : List gE} (hP : va_P D vwCl (gWs b cA h) H) (h0 : s.heap.size + cells = b + h.length) (h1 : 0 < h.length)
    (k : H.size = b + h.length → W p l e R s m args below meth c H locs cells slots Q g) : W p l e R s m args below meth c H locs cells slots Q g := by
  intro T hT X
  have hz := X.heapSize
  rw [hT] at hz
  have hl := (hP (h.length - 1) _ (gWs_at (List.getElem?_eq_getElem (show h.length - 1 < h.length by omega)))).lt
  have hl : b + (h.length - 1) < H.size := hl
  exact k (by omega) T hT X
theorem gI0 {v : Int32} (h : 0 ≤ v.toInt) : ¬ v < 0 := fun q => by
  have := Int32.lt_iff_toInt_lt.mp q
  have z : (0 : Int32).toInt = 0 := by decide
  omega
theorem gC_2 (hF : gHyp l F) : gCase l F 2 := by
  intro i n als ast h h' a b0 ix hi hck hv hg p e R s m args below meth c cA D b nc ns NC NS hE hR e1 e2 H locs ls hS
  obtain ⟨y, hy, hr⟩ := hg
  replace hy : (match (generalizing := false) ast with | .inl v :: st => if 0 ≤ v.toInt ∧ v.toInt ≤ 100000 then some (n + 1, als, .inr (some h.length) :: st, h ++ [if a = 2 then .inr (.inr (.inl v.toInt.toNat)) else .inr (.inl (a, v.toInt.toNat, fun _ => 0))]) else none | _ => none) = some y := hy
  split at hy
  · rename_i v r
    split at hy
    · rename_i hv0
      cases hy
      have mo := gRunV_mono _ _ _ _ _ _ _ hr
      dsimp only at hr mo
      simp only [gCk, Bool.and_eq_true, decide_eq_true_eq] at hck
      obtain ⟨h1, ⟨a1, a4⟩, h3⟩ := hck
      obtain ⟨hd, hn⟩ := rvD_of h1
      obtain ⟨hx, hb, hrt, hlk, hml, hown, hts, hK, hN, hA, hnm⟩ := id hE
      have main : ∀ (x : gE) (a0 : vp_A), x = (if a = 2 then (.inr (.inr (.inl v.toInt.toNat)) : gE) else .inr (.inl (a, v.toInt.toNat, fun _ => 0))) → gSz x = v.toInt.toNat → newarray.typeOf (gAt a) = rvTy a → gEnt b cA x = .inl (cA a, a0) → vp_cell (cA a) a0 = arrV (cA a) v.toInt.toNat (fun _ => defaultValue (rvTy a)) → (∀ C, ¬ rvTy a = .object C) → componentBytes (rvTy a) ≤ 8 →
          W p l e R s m args below meth c H locs nc ns (MQ below (gQc D cA b h') args s NC NS (fun q => b ≤ q)) (F0 m (gPc i n) ls (.int v :: r.map (gTr b))) := fun x a0 hxx hsz hty hen hce hno hcb => by
        rw [← hxx] at hr mo
        rw [List.length_append, gSum_app, hsz] at mo
        have mo1 : h.length + 1 ≤ h'.length := mo.1
        refine gX_newa (t := a) hx hb ⟨a1, by omega⟩ hty (hts _ (rvAtT_in h3)) hen hce hno hK hS.1 hS.2.1 hS.2.2.1 (gI0 hv0.1) rfl ?_ (by omega) (by omega) hd (fun H1 k1 k2 k3 => ?_)
        · have : v.toInt.toNat ≤ 100000 := by omega
          have := Nat.mul_le_mul this hcb
          omega
        · have hk := hF i (n + 1) _ _ _ _ hi hr p e R s m args below meth c cA D b (nc + 1) (ns + v.toInt.toNat) NC NS hE hR (gE1 e1) (by rw [gSum_app, hsz]; omega) H1 locs ls ⟨k1, k2, k3, hS.2.2.2⟩
          rw [hn] at hk
          exact hk
      rcases (show a = 1 ∨ a = 2 ∨ a = 3 ∨ a = 4 by omega) with rfl | rfl | rfl | rfl
      · exact main (.inr (.inl (1, v.toInt.toNat, fun _ => 0))) (v.toInt.toNat, .inl (fun _ => 0)) rfl rfl rfl rfl rfl (fun C q => by cases q) (by decide)
      · exact main (.inr (.inr (.inl v.toInt.toNat))) (v.toInt.toNat, .inr (.inl (fun _ => 0))) rfl rfl rfl rfl rfl (fun C q => by cases q) (by decide)
      · exact main (.inr (.inl (3, v.toInt.toNat, fun _ => 0))) (v.toInt.toNat, .inl (fun _ => 0)) rfl rfl rfl rfl rfl (fun C q => by cases q) (by decide)
      · exact main (.inr (.inl (4, v.toInt.toNat, fun _ => 0))) (v.toInt.toNat, .inl (fun _ => 0)) rfl rfl rfl rfl rfl (fun C q => by cases q) (by decide)
    · cases hy
  · cases hy
theorem gCl_at {a : Nat} (h : a < 11) : gClOk a = true := by
  rcases (show a = 0 ∨ a = 1 ∨ a = 2 ∨ a = 3 ∨ a = 4 ∨ a = 5 ∨ a = 6 ∨ a = 7 ∨ a = 8 ∨ a = 9 ∨ a = 10 by omega) with rfl | rfl | rfl | rfl | rfl | rfl | rfl | rfl | rfl | rfl | rfl
  · exact gCl_0
  · exact gCl_1
  · exact gCl_2
  · exact gCl_3
  · exact gCl_4
  · exact gCl_5
  · exact gCl_6
  · exact gCl_7
  · exact gCl_8
  · exact gCl_9
  · exact gCl_10
/-- a field of a class: what a new object has there, and what may be put there -/
theorem gFld {a k : Nat} {q : vw_C} (hq : vwCl[a]? = some q) (hk : k < q.2.2) : ∃ t : FieldType, parseFieldDescriptor (q.2.1 k).2.2.1 = some t ∧ (rvFt a k = 2 → defaultValue t = .null ∧ (q.2.1 k).2.2.2 = true ∧ (∀ x, narrow t (.ref x) = .ref x) ∧ ∀ x, fits t (.ref x) = true) ∧ (¬ rvFt a k = 2 → defaultValue t = .int 0) := by
  have ha : a < 11 := (List.getElem?_eq_some_iff.mp hq).1
  have H := gCl_at ha
  unfold gClOk at H
  simp only [Bool.and_eq_true] at H
  obtain ⟨-, -, -, -, -, -, -, H⟩ := H
  have hn : gCNn a = q.2.2 := by unfold gCNn; rw [hq]
  have c := List.all_eq_true.mp H k (List.mem_range.mpr (by omega))
  rw [hq] at c
  dsimp only at c
  cases ht : parseFieldDescriptor (q.2.1 k).2.2.1 with
  | none => rw [ht] at c; cases c
  | some t =>
    rw [ht] at c
    dsimp only at c
    refine ⟨t, rfl, fun e => ?_, fun e => ?_⟩
    · cases hd : defaultValue t with
      | null =>
        rw [hd] at c
        simp only [Bool.and_eq_true, decide_eq_true_eq] at c
        refine ⟨rfl, c.2.1, fun x => ?_, fun x => ?_⟩
        · cases t <;> first | rfl | cases hd
        · cases t <;> first | rfl | cases hd
      | int v =>
        rw [hd] at c
        rw [e, Bool.and_eq_true] at c
        exact absurd c.2 (by decide)
      | _ => rw [hd] at c; cases c
    · cases hd : defaultValue t with
      | null =>
        rw [hd] at c
        simp only [Bool.and_eq_true, Nat.beq_eq] at c
        exact absurd c.1 e
      | int v =>
        rw [hd] at c
        simp only [Bool.and_eq_true, beq_iff_eq] at c
        rw [c.1]
      | _ => rw [hd] at c; cases c
theorem gOb {k : Nat} {q : vw_C} (hq : vwCl[k]? = some q) : q.2.2 = (rvFts.getD k []).length ∧ gCN k = q.1 ∧ gCNn k = q.2.2 ∧ k < 11 := by
  have ha : k < 11 := (List.getElem?_eq_some_iff.mp hq).1
  have H := gCl_at ha
  unfold gClOk at H
  simp only [Bool.and_eq_true, decide_eq_true_eq] at H
  have hn : gCNn k = q.2.2 := by unfold gCNn; rw [hq]
  exact ⟨hn.symm.trans H.2.2.2.2.2.2.1.2.2, by unfold gCN; rw [hq], hn, ha⟩
theorem gCl_some {a : Nat} (ha : a < 11) : ∃ q, vwCl[a]? = some q := ⟨_, List.getElem?_eq_getElem (show a < vwCl.length from ha)⟩
theorem gC_5 (hF : gHyp l F) : gCase l F 5 := by
  intro i n als ast h h' a b0 ix hi hck hv hg p e R s m args below meth c cA D b nc ns NC NS hE hR e1 e2 H locs ls hS
  obtain ⟨y, hy, hr⟩ := hg
  cases hy
  have mo := gRunV_mono _ _ _ _ _ _ _ hr
  dsimp only at hr mo
  simp only [gCk, Bool.and_eq_true, decide_eq_true_eq] at hck
  obtain ⟨h1, h2, h3, h4, ha⟩ := hck
  obtain ⟨hd, hn⟩ := rvD_of h1
  obtain ⟨q, hq⟩ := gCl_some ha
  obtain ⟨o1, o2, o3, -⟩ := gOb hq
  rw [o2] at h2 h3 h4
  rw [o3] at h3
  obtain ⟨ty, hty⟩ := rvTyOk a q hq
  have hsz : gSz (.inl (a, gNew a) : gE) = q.2.2 := by
    show (gNew a).length = _
    unfold gNew
    rw [List.length_map]; exact o1.symm
  rw [List.length_append, gSum_app, hsz] at mo
  have mo1 : h.length + 1 ≤ h'.length := mo.1
  obtain ⟨hx, hb, hrt, hlk, hml, hown, hts, hK, hN, hA, hnm⟩ := id hE
  refine gX_new (r := q) hx hb hq hts hown (hts _ (rvAtT_in h2)) (hts _ (rvAtT_in h3)) (hts _ (rvAtT_in h4)) hK hS.1 hS.2.1 hS.2.2.1 ty hty (fun j hj => ?_) (by omega) (by omega) hd (fun H1 k1 k2 k3 => ?_)
  · obtain ⟨t, t1, t2, t3⟩ := gFld hq hj
    have et : ty j = t := Option.some.inj ((hty j hj).symm.trans t1)
    rw [et]
    unfold vp_V gNew
    rw [List.getD_eq_getElem?_getD, List.getElem?_map, List.getElem?_map]
    have hl : j < (rvFts.getD a []).length := by omega
    rw [List.getElem?_eq_getElem hl]
    have ef : (rvFts.getD a [])[j] = rvFt a j := by
      unfold rvFt
      rw [List.getD_eq_getElem?_getD (l := rvFts.getD a []), List.getElem?_eq_getElem hl]; rfl
    rw [ef]
    by_cases c2 : rvFt a j = 2
    · rw [(t2 c2).1]
      show _ = gTr b (if rvFt a j = 2 then (.inr none : gV) else .inl 0)
      rw [if_pos c2]; rfl
    · rw [t3 c2]
      show _ = gTr b (if rvFt a j = 2 then (.inr none : gV) else .inl 0)
      rw [if_neg c2]; rfl
  · have hk := hF i (n + 1) _ _ _ _ hi hr p e R s m args below meth c cA D b (nc + 1) (ns + q.2.2) NC NS hE hR (gE1 e1) (by rw [gSum_app, hsz]; omega) H1 locs ls ⟨k1, k2, k3, hS.2.2.2⟩
    rw [hn] at hk
    exact hk
theorem gC_6 (hF : gHyp l F) : gCase l F 6 := by
  intro i n als ast h h' a b0 ix hi hck hv hg p e R s m args below meth c cA D b nc ns NC NS hE hR e1 e2 H locs ls hS
  obtain ⟨y, hy, hr⟩ := hg
  replace hy : (match (generalizing := false) ast with | .inr (some q) :: st => some (n + 1, als, .inr (some q) :: .inr (some q) :: st, h) | _ => none) = some y := hy
  split at hy
  · cases hy
    have hk := hF i (n + 1) _ _ _ _ hi hr p e R s m args below meth c cA D b nc ns NC NS hE hR e1 e2 H locs ls hS
    obtain ⟨hx, hb, -⟩ := hE
    obtain ⟨hd, hn⟩ := rvD_of hck
    rw [hn] at hk
    exact lv_dup hx hb hd rfl hk
  · cases hy
theorem gC_13 (hF : gHyp l F) : gCase l F 13 := by
  intro i n als ast h h' a b0 ix hi hck hv hg p e R s m args below meth c cA D b nc ns NC NS hE hR e1 e2 H locs ls hS
  obtain ⟨y, hy, hr⟩ := hg
  cases hy
  have hk := hF i a _ _ _ _ hi hr p e R s m args below meth c cA D b nc ns NC NS hE hR e1 e2 H locs ls hS
  have ht : ((gPc i n : Nat) : Int) + (((gPc i a : Nat) : Int) - (gPc i n : Nat)) = (gPc i a : Nat) := by omega
  exact lv_goto hE.1 hE.2.1 (rvDc_of hck) ht hk
theorem gC_11 (hF : gHyp l F) : gCase l F 11 := by
  intro i n als ast h h' a b0 ix hi hck hv hg p e R s m args below meth c cA D b nc ns NC NS hE hR e1 e2 H locs ls hS
  obtain ⟨y, hy, hr⟩ := hg
  replace hy : (match (generalizing := false) ast with | .inl y :: .inl v :: st => some (if v.toInt < y.toInt then n + 1 else a, als, st, h) | _ => none) = some y := hy
  split at hy
  · rename_i y1 v r
    cases hy
    obtain ⟨hd, hn⟩ := rvD_of hck
    have ht : ((gPc i n : Nat) : Int) + (((gPc i a : Nat) : Int) - (gPc i n : Nat)) = (gPc i a : Nat) := by omega
    dsimp only at hr
    refine lv_icmp_ge hE.1 hE.2.1 hd ht (fun q => ?_) (fun q => ?_)
    · rw [if_neg (by have := Int32.le_iff_toInt_le.mp q; omega)] at hr
      exact hF i a _ _ _ _ hi hr p e R s m args below meth c cA D b nc ns NC NS hE hR e1 e2 H locs ls hS
    · rw [if_pos (by
        by_cases z : v.toInt < y1.toInt
        · exact z
        · exact absurd (Int32.le_iff_toInt_le.mpr (by omega)) q)] at hr
      have hk := hF i (n + 1) _ _ _ _ hi hr p e R s m args below meth c cA D b nc ns NC NS hE hR e1 e2 H locs ls hS
      rw [hn] at hk
      exact hk
  · cases hy
theorem gC_10 (hF : gHyp l F) : gCase l F 10 := by
  intro i n als ast h h' a b0 ix hi hck hv hg p e R s m args below meth c cA D b nc ns NC NS hE hR e1 e2 H locs ls hS
  obtain ⟨y, hy, hr⟩ := hg
  replace hy : (match (generalizing := false) ast with | .inl v :: st => if a < als.length then some (n + 1, als.set a (.inl v), st, h) else none | _ => none) = some y := hy
  split at hy
  · rename_i v r
    split at hy
    · rename_i hal
      cases hy
      simp only [gCk, Bool.and_eq_true, decide_eq_true_eq] at hck
      have hk := fun ls' (h9 : lv_has ls' (gMl i) ((a, Value.int v) :: (rvPr (gAd b) (als.map gO)).filter (fun q => !(q.1 == a) && !(q.1 + 1 == a && q.2.category == 2)))) => hF i (n + 1) _ _ _ _ hi hr p e R s m args below meth c cA D b nc ns NC NS hE hR e1 e2 H locs ls' ⟨hS.1, hS.2.1, hS.2.2.1, by
        have := rvLR_st1 (v := .inl v) h9
        rw [gO_set (v := .inl v) rfl hal] at this
        exact this⟩
      obtain ⟨hx, hb, -⟩ := hE
      rcases rvD4_of hck.1 with ⟨hd, hn⟩ | ⟨k, rfl, hd, hn⟩ <;> rw [hn] at hk
      · exact lv_istore hx hb hd (rvLR_has hS.2.2.2) hck.2 rfl hk
      · exact lv_istore_n hx hb hd rfl (rvLR_has hS.2.2.2) hck.2 rfl hk
    · cases hy
  · cases hy
theorem gC_12 (hF : gHyp l F) : gCase l F 12 := by
  intro i n als ast h h' a b0 ix hi hck hv hg p e R s m args below meth c cA D b nc ns NC NS hE hR e1 e2 H locs ls hS
  obtain ⟨y, hy, hr⟩ := hg
  replace hy : (match (generalizing := false) als[a]? with | some (.inl v) => some (n + 1, als.set a (.inl (v + Int32.ofNat b0)), ast, h) | _ => none) = some y := hy
  split at hy
  · rename_i v hv2
    cases hy
    simp only [gCk, Bool.and_eq_true, decide_eq_true_eq] at hck
    have hk := fun ls' (h9 : lv_has ls' (gMl i) ((a, Value.int (v + Int32.ofNat b0)) :: (rvPr (gAd b) (als.map gO)).filter (fun q => !(q.1 == a) && !(q.1 + 1 == a && q.2.category == 2)))) => hF i (n + 1) _ _ _ _ hi hr p e R s m args below meth c cA D b nc ns NC NS hE hR e1 e2 H locs ls' ⟨hS.1, hS.2.1, hS.2.2.1, by
      have := rvLR_st1 (v := .inl (v + Int32.ofNat b0)) h9
      rw [gO_set (v := .inl (v + Int32.ofNat b0)) rfl (List.getElem?_eq_some_iff.mp hv2).1] at this
      exact this⟩
    obtain ⟨hx, hb, -⟩ := hE
    obtain ⟨hd, hn⟩ := rvD_of hck.1
    rw [hn] at hk
    obtain ⟨k, hk0⟩ := List.getElem?_of_mem (rvPr_mem (A := gAd b) (als := als.map gO) (j := a) (w := .inl v) (by rw [List.getElem?_map, hv2]; rfl))
    exact lv_iinc hx hb hd (rvLR_has hS.2.2.2) hk0 (by rw [hck.2.2]) hck.2.1 rfl hk
  · cases hy
theorem gW_at {b : Nat} {cA : Nat → ClassId} {h : List gE} {q : Nat} {x y : gE} (hq : h[q]? = some x) : (gWs b cA h).set q (b + q, gEnt b cA y) = gWs b cA (h.set q y) := gWs_set (List.getElem?_eq_some_iff.mp hq).1
end GS
