-- the machine follows the small machine: what is asked of a frame, and the plain instructions
/-- what nobody writes: the table of kinds, the script, the texts, the words of the nest -/
def rvStat (A : Nat → Nat → Nat) (σ : rvS) (A0 : Nat → Prop) (U : State) (H : Heap) : Prop :=
  va_T .int (A 105 0) 6 (fun j => .int (rvUn.getD j 0)) A0 U H ∧ va_T .int (A 108 0) (rvLen σ 108 0) (fun j => .int (σ.1 108 0 j)) A0 U H ∧
  va_Z "RiverCompact" "UNDER" "[I" (.ref (A 105 0)) A0 U H ∧ vk_S 11 rvSn rvSb (A 106) (A 107) A0 U H ∧
  va_Nw (.fieldLinkNest "RiverCompact$Hold" 41 "RiverCompact" "UNDER" "[I" "RiverCompact") U ∧ va_Nw (.methodLinkNest "RiverCompact$Hold" 33 (rvM 104).1 "RiverCompact") U ∧ va_Nw (.methodLinkNest "RiverCompact$Reader" 129 (rvM 104).1 "RiverCompact") U ∧
  (∀ e ∈ rvLs, vk_R (rvCn.getD e.1 "") e.2.1 (rvSt.getD e.2.2.1 "") (A 106 e.2.2.1) U) ∧
  va_Z "java/lang/String" "COMPACT_STRINGS" "Z" (.int 1) A0 U H ∧ ∃ q : Option Nat, va_Z "jdk/internal/util/Preconditions" "SIOOBE_FORMATTER" "Ljava/util/function/BiFunction;" (va_rf q) A0 U H
def rvQc (A : Nat → Nat → Nat) (cA : Nat → ClassId) (D : va_G) (σ0 : rvS) (A0 : Nat → Prop) (Q : Option rvV → rvS → Prop) : Array Value → State → Outcome → State → Prop := fun _ st o t =>
  (∃ (r : Option rvV) (σ' : rvS), o = .returned (r.map (rvTr A)) ∧ Q r σ' ∧ (∀ v, r = some v → rvOk v) ∧ σ'.1 108 = σ0.1 108 ∧ va_P D vwCl (rvWs A cA σ') t.heap) ∧ va_F A0 st t
def rvEnv (p : Program) (R : Room) (s : State) (m : MethodId) (args : Array Value) (meth : Method) (c : Code) (A : Nat → Nat → Nat) (cA : Nat → ClassId) (D : va_G) (σ0 : rvS) (i d nc ns : Nat) : Prop :=
  p.tables.exec = Jvm.exec ∧ c.code = (rvM i).2.1 ∧ meth.sig.returnType = (rvM i).2.2.2.1 ∧ meth.locks = false ∧ c.maxLocals = (rvM i).2.2.1 ∧ s.vm.findClass (rvOwn i) = some m.cls ∧ (∀ w ∈ rvT, w.before args s = true) ∧
  (d ≤ R.frames ∧ 64 * d ≤ R.locals ∧ nc ≤ R.cells ∧ ns ≤ R.slots) ∧ va_K D vwCl (rvTys cA) s ∧ rvStat A σ0 (rvAd A s.heap.size) s s.heap
def rvStt (s : State) (A : Nat → Nat → Nat) (cA : Nat → ClassId) (D : va_G) (σ0 : rvS) (i : Nat) (H : Heap) (locs : List Loc) (ls : Array Slot) (als : rvL) (ast : List rvV) (σ : rvS) : Prop :=
  va_P D vwCl (rvWs A cA σ) H ∧ va_D (rvAd A s.heap.size) (rvWs A cA σ) ∧ va_S (rvAd A s.heap.size) s.heap H locs ∧ rvLR A (rvM i).2.2.1 als ls ∧ (∀ v ∈ ast, rvOk v) ∧ rvOks als ∧ σ.1 108 = σ0.1 108
def rvSnd (l : Launch) (d i n : Nat) (als : rvL) (ast : List rvV) (σ : rvS) (Q : Option rvV → rvS → Prop) : Prop :=
  ∀ (p : Program) (e : Env) (R : Room) (s : State) (m : MethodId) (args : Array Value) (below : List Frame) (meth : Method) (c : Code) (A : Nat → Nat → Nat) (cA : Nat → ClassId) (D : va_G) (σ0 : rvS) (nc ns : Nat), rvEnv p R s m args meth c A cA D σ0 i d nc ns →
  ∀ (H : Heap) (locs : List Loc) (ls : Array Slot), rvStt s A cA D σ0 i H locs ls als ast σ →
    W p l e R s m args below meth c H locs nc ns (MQ below (rvQc A cA D σ0 (rvAd A s.heap.size) Q) args s nc ns (rvAd A s.heap.size)) (F0 m (rvPc i n) ls (ast.map (rvTr A)))
def rvHyp (l : Launch) (F : Nat) : Prop := ∀ (d i n : Nat) (als : rvL) (ast : List rvV) (σ : rvS) (Q : Option rvV → rvS → Prop), i < 192 → rvWp F d i n als ast σ Q → rvSnd l d i n als ast σ Q
def rvCase (l : Launch) (F op : Nat) : Prop := ∀ (d i n : Nat) (als : rvL) (ast : List rvV) (σ : rvS) (Q : Option rvV → rvS → Prop) (a b c : Nat) (tb : List Nat), i < 192 → rvCk i n (rvPc i n, op, a, b, c, tb) = true →
  rvBody (rvWp F) d i n als ast σ Q (some (rvPc i n, op, a, b, c, tb)) → rvSnd l d i n als ast σ Q
theorem rvD_of {cc : ByteArray} {pc nx : Nat} {ins : Instr} {len : Nat} (h : rvD cc pc nx ins len = true) : decode cc pc = .ok (ins, len) ∧ nx = pc + len := by
  simp only [rvD, rvDc, Bool.and_eq_true, decide_eq_true_eq, beq_iff_eq] at h
  exact h
theorem rvDc_of {cc : ByteArray} {pc : Nat} {ins : Instr} {len : Nat} (h : rvDc cc pc ins len = true) : decode cc pc = .ok (ins, len) := of_decide_eq_true h
theorem rvD4_of {cc : ByteArray} {pc nx : Nat} {f : Fin 4 → Instr} {g : Nat → Instr} {a : Nat} (h : rvD4 cc pc nx f g a = true) : (decode cc pc = .ok (g a, 2) ∧ nx = pc + 2) ∨ ∃ k : Fin 4, (k : Nat) = a ∧ decode cc pc = .ok (f k, 1) ∧ nx = pc + 1 := by
  simp only [rvD4, Bool.or_eq_true] at h
  rcases h with h | h
  · exact Or.inl (rvD_of h)
  · split at h
    · rename_i hlt
      obtain ⟨h1, h2⟩ := rvD_of h
      exact Or.inr ⟨⟨a, hlt⟩, rfl, h1, h2⟩
    · cases h
theorem rvLc_use {o c a b : Nat} (h : rvInL rvLc o c a b = true) : Cond.constant (rvCn.getD o "") c (rvN32 a b) ∈ rvT := by
  obtain ⟨e, he, h1⟩ := List.any_eq_true.mp h
  simp only [Bool.and_eq_true, beq_iff_eq] at h1
  obtain ⟨rfl, rfl, rfl, rfl⟩ := h1
  exact rvAtT_in (List.all_eq_true.mp rvLc_ok e he)
theorem rvLl_use {o c a b : Nat} (h : rvInL rvLl o c a b = true) : Cond.constantLong (rvCn.getD o "") c (rvN64 a b) ∈ rvT := by
  obtain ⟨e, he, h1⟩ := List.any_eq_true.mp h
  simp only [Bool.and_eq_true, beq_iff_eq] at h1
  obtain ⟨rfl, rfl, rfl, rfl⟩ := h1
  exact rvAtT_in (List.all_eq_true.mp rvLl_ok e he)
theorem rvLf_use {o c a b : Nat} (h : rvInL rvLf o c a b = true) : ∃ q : vw_C, vwCl[a]? = some q ∧ b < q.2.2 ∧ Cond.fieldLink (rvCn.getD o "") c q.1 (q.2.1 b).2.1 (q.2.1 b).2.2.1 ∈ rvT := by
  obtain ⟨e, he, h1⟩ := List.any_eq_true.mp h
  simp only [Bool.and_eq_true, beq_iff_eq] at h1
  obtain ⟨rfl, rfl, rfl, rfl⟩ := h1
  have h2 := List.all_eq_true.mp rvLf_ok e he
  unfold rvLfOk at h2
  cases hq : vwCl[e.2.2.1]? with
  | none => rw [hq] at h2; cases h2
  | some q =>
    rw [hq] at h2
    simp only [Bool.and_eq_true, decide_eq_true_eq] at h2
    exact ⟨q, rfl, h2.1, rvAtT_in h2.2⟩
theorem rvLm_use {o c a : Nat} (h : rvInM rvLm o c a = true) : Cond.methodLink (rvCn.getD o "") c (rvM a).1 ∈ rvT := by
  obtain ⟨e, he, h1⟩ := List.any_eq_true.mp h
  simp only [Bool.and_eq_true, beq_iff_eq] at h1
  obtain ⟨rfl, rfl, rfl⟩ := h1
  exact rvAtT_in (List.all_eq_true.mp rvLm_ok e he)
section RvS
variable {l : Launch} {F : Nat}
theorem rvC_0 (hF : rvHyp l F) : rvCase l F 0 := by
  intro d i n als ast σ Q a b c tb hi hck h p e R s m args below meth cd A cA D σ0 nc ns hE H locs ls hS
  replace h : rvWp F d i (n + 1) als (.inl (rvN32 a b) :: ast) σ Q := h
  have hk := hF d i (n + 1) als _ σ Q hi h p e R s m args below meth cd A cA D σ0 nc ns hE H locs ls ⟨hS.1, hS.2.1, hS.2.2.1, hS.2.2.2.1, List.forall_mem_cons.mpr ⟨trivial, hS.2.2.2.2.1⟩, hS.2.2.2.2.2⟩
  obtain ⟨hx, hb, hr, hlk, hml, hown, hts, hR, hK, hst⟩ := hE
  simp only [rvCk, Bool.or_eq_true, Bool.and_eq_true, decide_eq_true_eq] at hck
  rcases hck with ⟨h1, h2⟩ | ⟨h1, h2⟩ | ⟨h1, h2⟩ | ⟨h1, h2⟩ | ⟨h1, h2⟩ <;> obtain ⟨hd, hn⟩ := rvD_of h1 <;> rw [hn] at hk
  · exact lv_iconst hx hb hd h2 hk
  · exact lv_bipush hx hb hd h2 hk
  · exact lv_sipush hx hb hd h2 hk
  · exact lv_ldc hx hb hown (hts _ (rvLc_use h2)) hd hk
  · exact lv_ldcw hx hb hown (hts _ (rvLc_use h2)) hd hk
theorem rvC_1 (hF : rvHyp l F) : rvCase l F 1 := by
  intro d i n als ast σ Q a b c tb hi hck h p e R s m args below meth cd A cA D σ0 nc ns hE H locs ls hS
  replace h : rvWp F d i (n + 1) als (.inr (.inl (rvN64 a b)) :: ast) σ Q := h
  have hk := hF d i (n + 1) als _ σ Q hi h p e R s m args below meth cd A cA D σ0 nc ns hE H locs ls ⟨hS.1, hS.2.1, hS.2.2.1, hS.2.2.2.1, List.forall_mem_cons.mpr ⟨trivial, hS.2.2.2.2.1⟩, hS.2.2.2.2.2⟩
  obtain ⟨hx, hb, hr, hlk, hml, hown, hts, hR, hK, hst⟩ := hE
  simp only [rvCk, Bool.or_eq_true, Bool.and_eq_true, decide_eq_true_eq] at hck
  rcases hck with ⟨h1, h2⟩ | ⟨h1, h2⟩ | ⟨h1, h2⟩ <;> obtain ⟨hd, hn⟩ := rvD_of h1 <;> rw [hn] at hk
  · exact lv_lconst hx hb hd h2 hk
  · exact lv_lconst hx hb hd h2 hk
  · exact lv_ldc2 hx hb hown (hts _ (rvLl_use h2)) hd hk
theorem rvC_2 (hF : rvHyp l F) : rvCase l F 2 := by
  intro d i n als ast σ Q a b c tb hi hck h p e R s m args below meth cd A cA D σ0 nc ns hE H locs ls hS
  replace h : rvB_2 (rvWp F) d i n als ast σ Q a b c tb := h
  unfold rvB_2 at h
  split at h
  · rename_i v hv
    have hk := hF d i (n + 1) als _ σ Q hi h p e R s m args below meth cd A cA D σ0 nc ns hE H locs ls ⟨hS.1, hS.2.1, hS.2.2.1, hS.2.2.2.1, List.forall_mem_cons.mpr ⟨trivial, hS.2.2.2.2.1⟩, hS.2.2.2.2.2⟩
    have hl := hS.2.2.2.1.2.2 a _ hv
    obtain ⟨hx, hb, -⟩ := hE
    rcases rvD4_of hck with ⟨hd, hn⟩ | ⟨k, rfl, hd, hn⟩ <;> rw [hn] at hk
    · exact lv_iload hx hb hd hl hk
    · exact lv_iload_n hx hb hd rfl hl hk
  · rename_i v hv
    have hk := hF d i (n + 1) als _ σ Q hi h p e R s m args below meth cd A cA D σ0 nc ns hE H locs ls ⟨hS.1, hS.2.1, hS.2.2.1, hS.2.2.2.1, List.forall_mem_cons.mpr ⟨trivial, hS.2.2.2.2.1⟩, hS.2.2.2.2.2⟩
    have hl := hS.2.2.2.1.2.2 a _ hv
    obtain ⟨hx, hb, -⟩ := hE
    rcases rvD4_of hck with ⟨hd, hn⟩ | ⟨k, rfl, hd, hn⟩ <;> rw [hn] at hk
    · exact lv_lload hx hb hd hl hk
    · exact lv_lload_n hx hb hd rfl hl hk
  · rename_i v hv
    have hk := hF d i (n + 1) als _ σ Q hi h p e R s m args below meth cd A cA D σ0 nc ns hE H locs ls ⟨hS.1, hS.2.1, hS.2.2.1, hS.2.2.2.1, List.forall_mem_cons.mpr ⟨hS.2.2.2.2.2.1 a _ hv, hS.2.2.2.2.1⟩, hS.2.2.2.2.2⟩
    have hl := hS.2.2.2.1.2.2 a _ hv
    obtain ⟨hx, hb, -⟩ := hE
    rcases rvD4_of hck with ⟨hd, hn⟩ | ⟨k, rfl, hd, hn⟩ <;> rw [hn] at hk
    · exact lv_aload hx hb hd hl hk
    · exact lv_aload_n hx hb hd rfl hl hk
  · exact h.elim
theorem rvC_3 (hF : rvHyp l F) : rvCase l F 3 := by
  intro d i n als ast σ Q a b c tb hi hck h p e R s m args below meth cd A cA D σ0 nc ns hE H locs ls hS
  obtain ⟨s1, s2, s3, s4, s5, s6, s7⟩ := hS
  replace h : rvB_3 (rvWp F) d i n als ast σ Q a b c tb := h
  unfold rvB_3 at h
  split at h
  · rename_i v r
    simp only [rvCk, Bool.and_eq_true, decide_eq_true_eq] at hck
    have hk := fun ls' (h' : lv_has ls' (rvM i).2.2.1 ((a, Value.int v) :: (rvPr A als).filter (fun q => !(q.1 == a) && !(q.1 + 1 == a && q.2.category == 2)))) => hF d i (n + 1) _ r σ Q hi h p e R s m args below meth cd A cA D σ0 nc ns hE H locs ls' ⟨s1, s2, s3, rvLR_st1 (v := .inl v) h', fun w hw => s5 w (List.mem_cons_of_mem _ hw), rvOks_st1 s6 trivial, s7⟩
    obtain ⟨hx, hb, -⟩ := hE
    rcases rvD4_of hck.1 with ⟨hd, hn⟩ | ⟨k, rfl, hd, hn⟩ <;> rw [hn] at hk
    · exact lv_istore hx hb hd (rvLR_has s4) hck.2 rfl hk
    · exact lv_istore_n hx hb hd rfl (rvLR_has s4) hck.2 rfl hk
  · rename_i v r
    simp only [rvCk, Bool.and_eq_true, decide_eq_true_eq] at hck
    have hk := fun ls' (h' : lv_has ls' (rvM i).2.2.1 ((a, Value.long v) :: (rvPr A als).filter (fun q => !(q.1 == a) && (!(q.1 == a + 1) && !(q.1 + 1 == a && q.2.category == 2))))) => hF d i (n + 1) _ r σ Q hi h p e R s m args below meth cd A cA D σ0 nc ns hE H locs ls' ⟨s1, s2, s3, rvLR_st2 (v := .inr (.inl v)) h', fun w hw => s5 w (List.mem_cons_of_mem _ hw), rvOks_st2 s6 trivial, s7⟩
    obtain ⟨hx, hb, -⟩ := hE
    rcases rvD4_of hck.1 with ⟨hd, hn⟩ | ⟨k, rfl, hd, hn⟩ <;> rw [hn] at hk
    · exact lv_lstore hx hb hd (rvLR_has s4) hck.2 rfl hk
    · exact lv_lstore_n hx hb hd rfl (rvLR_has s4) hck.2 rfl hk
  · rename_i v r
    simp only [rvCk, Bool.and_eq_true, decide_eq_true_eq] at hck
    have hk := fun ls' (h' : lv_has ls' (rvM i).2.2.1 ((a, Value.ref (A v.1 v.2)) :: (rvPr A als).filter (fun q => !(q.1 == a) && !(q.1 + 1 == a && q.2.category == 2)))) => hF d i (n + 1) _ r σ Q hi h p e R s m args below meth cd A cA D σ0 nc ns hE H locs ls' ⟨s1, s2, s3, rvLR_st1 (v := .inr (.inr v)) h', fun w hw => s5 w (List.mem_cons_of_mem _ hw), rvOks_st1 s6 (s5 _ List.mem_cons_self), s7⟩
    obtain ⟨hx, hb, -⟩ := hE
    rcases rvD4_of hck.1 with ⟨hd, hn⟩ | ⟨k, rfl, hd, hn⟩ <;> rw [hn] at hk
    · exact lv_astore hx hb hd (rvLR_has s4) hck.2 rfl hk
    · exact lv_astore_n hx hb hd rfl (rvLR_has s4) hck.2 rfl hk
  · exact h.elim
theorem rvC_4 (hF : rvHyp l F) : rvCase l F 4 := by
  intro d i n als ast σ Q a b c tb hi hck h p e R s m args below meth cd A cA D σ0 nc ns hE H locs ls hS
  obtain ⟨s1, s2, s3, s4, s5, s6, s7⟩ := hS
  replace h : rvB_4 (rvWp F) d i n als ast σ Q a b c tb := h
  unfold rvB_4 at h
  split at h
  · rename_i v hv
    simp only [rvCk, Bool.and_eq_true, decide_eq_true_eq] at hck
    have hk := fun ls' (h' : lv_has ls' (rvM i).2.2.1 ((a, Value.int (v + rvN32 b c)) :: (rvPr A als).filter (fun q => !(q.1 == a) && !(q.1 + 1 == a && q.2.category == 2)))) => hF d i (n + 1) _ ast σ Q hi h p e R s m args below meth cd A cA D σ0 nc ns hE H locs ls' ⟨s1, s2, s3, rvLR_st1 (v := .inl (v + rvN32 b c)) h', s5, rvOks_st1 s6 trivial, s7⟩
    obtain ⟨hx, hb, -⟩ := hE
    obtain ⟨hd, hn⟩ := rvD_of hck.1
    rw [hn] at hk
    obtain ⟨k, hk0⟩ := List.getElem?_of_mem (rvPr_mem (A := A) hv)
    exact lv_iinc hx hb hd (rvLR_has s4) hk0 (by rw [hck.2.2]) hck.2.1 rfl hk
  · exact h.elim
theorem rvC_5 (hF : rvHyp l F) : rvCase l F 5 := by
  intro d i n als ast σ Q a b c tb hi hck h p e R s m args below meth cd A cA D σ0 nc ns hE H locs ls hS
  obtain ⟨s1, s2, s3, s4, s5, s6, s7⟩ := hS
  replace h : rvB_5 (rvWp F) d i n als ast σ Q a b c tb := h
  unfold rvB_5 at h
  split at h
  · rename_i y v r
    obtain ⟨ho, h⟩ := h
    have hk := hF d i (n + 1) als _ σ Q hi h p e R s m args below meth cd A cA D σ0 nc ns hE H locs ls ⟨s1, s2, s3, s4, List.forall_mem_cons.mpr ⟨trivial, fun w hw => s5 w (List.mem_cons_of_mem _ (List.mem_cons_of_mem _ hw))⟩, s6, s7⟩
    obtain ⟨hx, hb, -⟩ := hE
    obtain ⟨hd, hn⟩ := rvD_of hck
    rw [hn] at hk
    match a, hd, ho, hk with
    | 0, hd, ho, hk => exact lv_iadd hx hb hd hk
    | 1, hd, ho, hk => exact lv_isub hx hb hd hk
    | 2, hd, ho, hk => exact lv_imul hx hb hd hk
    | 3, hd, ho, hk => exact lv_iand hx hb hd hk
    | 4, hd, ho, hk => exact lv_ior hx hb hd hk
    | 5, hd, ho, hk => exact lv_ixor hx hb hd hk
    | 6, hd, ho, hk => exact lv_ishl hx hb hd hk
    | 7, hd, ho, hk => exact lv_ishr hx hb hd hk
    | 8, hd, ho, hk => exact lv_idiv hx hb hd ho hk
    | 9, hd, ho, hk => exact lv_irem hx hb hd ho hk
    | a + 10, hd, ho, hk => exact lv_iushr hx hb hd rfl hk
  · exact h.elim
theorem rvC_6 (hF : rvHyp l F) : rvCase l F 6 := by
  intro d i n als ast σ Q a b c tb hi hck h p e R s m args below meth cd A cA D σ0 nc ns hE H locs ls hS
  obtain ⟨s1, s2, s3, s4, s5, s6, s7⟩ := hS
  replace h : rvB_6 (rvWp F) d i n als ast σ Q a b c tb := h
  unfold rvB_6 at h
  split at h
  · rename_i y v r
    obtain ⟨ho, h⟩ := h
    have hk := hF d i (n + 1) als _ σ Q hi h p e R s m args below meth cd A cA D σ0 nc ns hE H locs ls ⟨s1, s2, s3, s4, List.forall_mem_cons.mpr ⟨trivial, fun w hw => s5 w (List.mem_cons_of_mem _ (List.mem_cons_of_mem _ hw))⟩, s6, s7⟩
    obtain ⟨hx, hb, -⟩ := hE
    obtain ⟨hd, hn⟩ := rvD_of hck
    rw [hn] at hk
    match a, hd, ho, hk with
    | 0, hd, ho, hk => exact lv_ladd hx hb hd hk
    | 1, hd, ho, hk => exact lv_lsub hx hb hd hk
    | 2, hd, ho, hk => exact lv_lmul hx hb hd hk
    | 3, hd, ho, hk => exact lv_land hx hb hd hk
    | 4, hd, ho, hk => exact lv_lor hx hb hd hk
    | a + 5, hd, ho, hk => exact lv_ldiv hx hb hd ho hk
  · exact h.elim
theorem rvC_7 (hF : rvHyp l F) : rvCase l F 7 := by
  intro d i n als ast σ Q a b c tb hi hck h p e R s m args below meth cd A cA D σ0 nc ns hE H locs ls hS
  obtain ⟨s1, s2, s3, s4, s5, s6, s7⟩ := hS
  replace h : rvB_7 (rvWp F) d i n als ast σ Q a b c tb := h
  unfold rvB_7 at h
  split at h
  · rename_i y v r
    have hk := hF d i (n + 1) als _ σ Q hi h p e R s m args below meth cd A cA D σ0 nc ns hE H locs ls ⟨s1, s2, s3, s4, List.forall_mem_cons.mpr ⟨trivial, fun w hw => s5 w (List.mem_cons_of_mem _ (List.mem_cons_of_mem _ hw))⟩, s6, s7⟩
    obtain ⟨hx, hb, -⟩ := hE
    obtain ⟨hd, hn⟩ := rvD_of hck
    rw [hn] at hk
    match a, hd, hk with
    | 0, hd, hk => exact lv_lshl hx hb hd rfl hk
    | 1, hd, hk => exact lv_lshr hx hb hd rfl hk
    | a + 2, hd, hk => exact lv_lushr hx hb hd rfl hk
  · exact h.elim
theorem rvC_8 (hF : rvHyp l F) : rvCase l F 8 := by
  intro d i n als ast σ Q a b c tb hi hck h p e R s m args below meth cd A cA D σ0 nc ns hE H locs ls hS
  obtain ⟨s1, s2, s3, s4, s5, s6, s7⟩ := hS
  replace h : rvB_8 (rvWp F) d i n als ast σ Q a b c tb := h
  unfold rvB_8 at h
  split at h
  · have hk := hF d i (n + 1) als _ σ Q hi h p e R s m args below meth cd A cA D σ0 nc ns hE H locs ls ⟨s1, s2, s3, s4, List.forall_mem_cons.mpr ⟨trivial, fun w hw => s5 w (List.mem_cons_of_mem _ hw)⟩, s6, s7⟩
    obtain ⟨hx, hb, -⟩ := hE
    obtain ⟨hd, hn⟩ := rvD_of hck
    rw [hn] at hk
    exact lv_ineg hx hb hd hk
  · have hk := hF d i (n + 1) als _ σ Q hi h p e R s m args below meth cd A cA D σ0 nc ns hE H locs ls ⟨s1, s2, s3, s4, List.forall_mem_cons.mpr ⟨trivial, fun w hw => s5 w (List.mem_cons_of_mem _ hw)⟩, s6, s7⟩
    obtain ⟨hx, hb, -⟩ := hE
    obtain ⟨hd, hn⟩ := rvD_of hck
    rw [hn] at hk
    exact lv_i2l hx hb hd rfl hk
  · have hk := hF d i (n + 1) als _ σ Q hi h p e R s m args below meth cd A cA D σ0 nc ns hE H locs ls ⟨s1, s2, s3, s4, List.forall_mem_cons.mpr ⟨trivial, fun w hw => s5 w (List.mem_cons_of_mem _ hw)⟩, s6, s7⟩
    obtain ⟨hx, hb, -⟩ := hE
    obtain ⟨hd, hn⟩ := rvD_of hck
    rw [hn] at hk
    exact lv_l2i hx hb hd rfl hk
  · have hk := hF d i (n + 1) als _ σ Q hi h p e R s m args below meth cd A cA D σ0 nc ns hE H locs ls ⟨s1, s2, s3, s4, List.forall_mem_cons.mpr ⟨trivial, fun w hw => s5 w (List.mem_cons_of_mem _ hw)⟩, s6, s7⟩
    obtain ⟨hx, hb, -⟩ := hE
    obtain ⟨hd, hn⟩ := rvD_of hck
    rw [hn] at hk
    exact lv_i2b hx hb hd rfl hk
  · have hk := hF d i (n + 1) als _ σ Q hi h p e R s m args below meth cd A cA D σ0 nc ns hE H locs ls ⟨s1, s2, s3, s4, List.forall_mem_cons.mpr ⟨trivial, fun w hw => s5 w (List.mem_cons_of_mem _ hw)⟩, s6, s7⟩
    obtain ⟨hx, hb, -⟩ := hE
    obtain ⟨hd, hn⟩ := rvD_of hck
    rw [hn] at hk
    exact lv_i2s hx hb hd rfl hk
  · exact h.elim
theorem rvC_9 (hF : rvHyp l F) : rvCase l F 9 := by
  intro d i n als ast σ Q a b c tb hi hck h p e R s m args below meth cd A cA D σ0 nc ns hE H locs ls hS
  obtain ⟨s1, s2, s3, s4, s5, s6, s7⟩ := hS
  replace h : rvB_9 (rvWp F) d i n als ast σ Q a b c tb := h
  unfold rvB_9 at h
  split at h
  · rename_i y v r
    have hk := hF d i (n + 1) als _ σ Q hi h p e R s m args below meth cd A cA D σ0 nc ns hE H locs ls ⟨s1, s2, s3, s4, List.forall_mem_cons.mpr ⟨trivial, fun w hw => s5 w (List.mem_cons_of_mem _ (List.mem_cons_of_mem _ hw))⟩, s6, s7⟩
    obtain ⟨hx, hb, -⟩ := hE
    obtain ⟨hd, hn⟩ := rvD_of hck
    rw [hn] at hk
    exact W.lcmp hx hb hd hk
  · exact h.elim
end RvS
