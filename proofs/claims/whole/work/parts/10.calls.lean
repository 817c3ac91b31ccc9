-- the machine follows the small machine: calls, answers, the library's members, statics
theorem rvStat_same {A : Nat → Nat → Nat} {σ : rvS} {A0 : Nat → Prop} {u U : State} {H : Heap} (hv : u.vm = U.vm) (h : rvStat A σ A0 u H) : rvStat A σ A0 U H := by
  obtain ⟨h1, h2, h3, h4, h5, h6, h7, h8, h9, q, h10⟩ := h
  have ha : u.vm.Alike U.vm := hv ▸ Vm.Alike.refl u.vm
  exact ⟨va_T.moved ha h1, va_T.moved ha h2, va_Z.moved ha h3, vk_S.moved ha h4, va_Nw.same rfl hv h5, va_Nw.same rfl hv h6, va_Nw.same rfl hv h7, fun e he => vk_R.same hv.symm (h8 e he), va_Z.moved ha h9, q, va_Z.moved ha h10⟩
theorem rvStat_warm {A : Nat → Nat → Nat} {σ : rvS} {A0 : Nat → Prop} {s U : State} {H : Heap} (hW : s.WarmedH U.vm) (h : rvStat A σ A0 s H) : rvStat A σ A0 U H := by
  obtain ⟨h1, h2, h3, h4, h5, h6, h7, h8, h9, q, h10⟩ := h
  have ha := hW.alike
  exact ⟨va_T.moved ha h1, va_T.moved ha h2, va_Z.moved ha h3, vk_S.moved ha h4, va_Nw.warmF hW h5, va_Nw.warmM hW h6, va_Nw.warmM hW h7, fun e he => vk_R.warm hW (h8 e he), va_Z.moved ha h9, q, va_Z.moved ha h10⟩
theorem rvStat_kept {A : Nat → Nat → Nat} {σ : rvS} {A0 : Nat → Prop} {U : State} {H H1 : Heap} (h : rvStat A σ A0 U H) (hq : ∀ a : Nat, a < H.size → ¬ A0 a → H1[a]? = H[a]?) : rvStat A σ A0 U H1 := by
  obtain ⟨h1, h2, h3, h4, h5, h6, h7, h8, h9, q, h10⟩ := h
  exact ⟨h1.kept hq, h2.kept hq, h3.kept hq, h4.kept hq, h5, h6, h7, h8, h9.kept hq, q, h10.kept hq⟩
theorem rvStat_narrow {A : Nat → Nat → Nat} {σ : rvS} {A0 A1 : Nat → Prop} {U : State} {H : Heap} (h : rvStat A σ A0 U H) (hq : ∀ a : Nat, A1 a → A0 a) : rvStat A σ A1 U H := by
  obtain ⟨h1, h2, h3, h4, h5, h6, h7, h8, h9, q, h10⟩ := h
  exact ⟨h1.narrow hq, h2.narrow hq, h3.narrow hq, h4.narrow hq, h5, h6, h7, h8, h9.narrow hq, q, h10.narrow hq⟩
theorem rvStat_sig {A : Nat → Nat → Nat} {σ σ' : rvS} {A0 : Nat → Prop} {U : State} {H : Heap} (h : rvStat A σ A0 U H) (he : σ'.1 108 = σ.1 108) : rvStat A σ' A0 U H := by
  obtain ⟨h1, h2, h3⟩ := h
  refine ⟨h1, ?_, h3⟩
  have hlen : rvLen σ' 108 0 = rvLen σ 108 0 := by
    show (σ'.1 108 0 1000000).toInt.toNat = (σ.1 108 0 1000000).toInt.toNat
    rw [he]
  rw [hlen, he]
  exact h2
/-- a callee's words and room -/
def rvWd (a : Nat) : List Cond := .code (rvM a).1 (rvM a).2.1 (rvM a).2.2.1 (rvM a).2.2.2.1 :: rvT
def rvRm (d : Nat) : Room := { frames := d, cells := 0, slots := 0, locals := 64 * d }
def rvPcB (A : Nat → Nat → Nat) (cA : Nat → ClassId) (D : va_G) (σ : rvS) (sz : Nat) : State → Prop := fun U => U.heap.size = sz ∧ va_P D vwCl (rvWs A cA σ) U.heap ∧ va_K D vwCl (rvTys cA) U ∧ va_D (rvAd A sz) (rvWs A cA σ) ∧ rvStat A σ (rvAd A sz) U U.heap
theorem rvArgs_in (A : Nat → Nat → Nat) : ∀ (as : List rvV) (o j : Nat) (w : rvV), (rvArgs as)[j]? = some (some w) → (o + j, rvTr A w) ∈ lv_args o (as.map (rvTr A))
  | [], o, j, w, h => by simp [rvArgs] at h
  | .inl v :: r, o, 0, w, h => by
    simp only [rvArgs, List.getElem?_cons_zero, Option.some.injEq] at h
    subst h
    exact List.mem_cons_self
  | .inl v :: r, o, j + 1, w, h => by
    simp only [rvArgs, List.getElem?_cons_succ] at h
    have h1 := rvArgs_in A r (o + 1) j w h
    rw [show o + (j + 1) = o + 1 + j by omega]
    exact List.mem_cons_of_mem _ h1
  | .inr (.inr v) :: r, o, 0, w, h => by
    simp only [rvArgs, List.getElem?_cons_zero, Option.some.injEq] at h
    subst h
    exact List.mem_cons_self
  | .inr (.inr v) :: r, o, j + 1, w, h => by
    simp only [rvArgs, List.getElem?_cons_succ] at h
    have h1 := rvArgs_in A r (o + 1) j w h
    rw [show o + (j + 1) = o + 1 + j by omega]
    exact List.mem_cons_of_mem _ h1
  | .inr (.inl v) :: r, o, 0, w, h => by
    simp only [rvArgs, List.getElem?_cons_zero, Option.some.injEq] at h
    subst h
    exact List.mem_cons_self
  | .inr (.inl v) :: r, o, 1, w, h => by
    simp [rvArgs] at h
  | .inr (.inl v) :: r, o, j + 2, w, h => by
    simp only [rvArgs, List.getElem?_cons_succ] at h
    have h1 := rvArgs_in A r (o + 2) j w h
    rw [show o + (j + 2) = o + 2 + j by omega]
    exact List.mem_cons_of_mem _ h1
theorem rvArgs_len (A : Nat → Nat → Nat) : ∀ (as : List rvV), (lg_sl (as.map (rvTr A))).length = (rvArgs as).length
  | [] => rfl
  | .inl v :: r => by
    have h := rvArgs_len A r
    simp only [lg_sl, List.map_cons, List.flatMap_cons, List.length_append, rvArgs, List.length_cons] at h ⊢
    rw [h]; show 1 + _ = _; omega
  | .inr (.inr v) :: r => by
    have h := rvArgs_len A r
    simp only [lg_sl, List.map_cons, List.flatMap_cons, List.length_append, rvArgs, List.length_cons] at h ⊢
    rw [h]; show 1 + _ = _; omega
  | .inr (.inl v) :: r => by
    have h := rvArgs_len A r
    simp only [lg_sl, List.map_cons, List.flatMap_cons, List.length_append, rvArgs, List.length_cons] at h ⊢
    rw [h]; show 2 + _ = _; omega
theorem rvArgs_ok : ∀ (as : List rvV), (∀ v ∈ as, rvOk v) → rvOks (rvArgs as)
  | [], _, j, w, h => by simp [rvArgs] at h
  | .inl v :: r, _, 0, w, h => by
    simp only [rvArgs, List.getElem?_cons_zero, Option.some.injEq] at h
    subst h
    trivial
  | .inl v :: r, q, j + 1, w, h => by
    simp only [rvArgs, List.getElem?_cons_succ] at h
    exact rvArgs_ok r (fun v hv => q v (List.mem_cons_of_mem _ hv)) j w h
  | .inr (.inr v) :: r, q, 0, w, h => by
    simp only [rvArgs, List.getElem?_cons_zero, Option.some.injEq] at h
    subst h
    exact q _ List.mem_cons_self
  | .inr (.inr v) :: r, q, j + 1, w, h => by
    simp only [rvArgs, List.getElem?_cons_succ] at h
    exact rvArgs_ok r (fun v hv => q v (List.mem_cons_of_mem _ hv)) j w h
  | .inr (.inl v) :: r, _, 0, w, h => by
    simp only [rvArgs, List.getElem?_cons_zero, Option.some.injEq] at h
    subst h
    trivial
  | .inr (.inl v) :: r, q, 1, w, h => by
    simp [rvArgs] at h
  | .inr (.inl v) :: r, q, j + 2, w, h => by
    simp only [rvArgs, List.getElem?_cons_succ] at h
    exact rvArgs_ok r (fun v hv => q v (List.mem_cons_of_mem _ hv)) j w h
theorem rvEntry_in {a : Nat} {as : List rvV} {j : Nat} {w : rvV} (h : (rvEntry a as)[j]? = some (some w)) : (rvArgs as)[j]? = some (some w) := by
  unfold rvEntry at h
  by_cases hj : j < (rvArgs as).length
  · rwa [List.getElem?_append_left hj] at h
  · rw [List.getElem?_append_right (by omega), List.getElem?_replicate] at h
    split at h <;> simp at h
theorem rvMOk_of {a : Nat} (ha : a < 191) : Cond.initialized (rvM a).1.cls ∈ rvT ∧ ((rvM a).2.2.2.2.2.2 = 1 → Cond.static (rvM a).1 ∈ rvT) ∧ (¬ (rvM a).2.2.2.2.2.2 = 1 → Cond.instanceMethod (rvM a).1 ∈ rvT ∧ Cond.selects (rvM a).1.cls (rvM a).1 (rvM a).1 ∈ rvT) ∧ plainName (rvM a).1.cls = true ∧
    ((rvM a).1.cls ≠ "java/lang/invoke/MethodHandle" ∧ (rvM a).1.cls ≠ "java/lang/invoke/VarHandle") ∧ ((parseMethodDescriptor (rvM a).1.desc).map (fun d => d.parameters.length) = some ((rvM a).2.2.2.2.2.1 - (if (rvM a).2.2.2.2.2.2 = 1 then 0 else 1))) ∧ (rvM a).2.2.1 ≤ 40 ∧ (rvM a).1.cls = rvOwn a ∧
    (¬ (rvM a).2.2.2.2.2.2 = 1 → (vwCl[(rvM a).2.2.2.2.1]?).map (fun q => q.1) = some (rvM a).1.cls ∧ 1 ≤ (rvM a).2.2.2.2.2.1) := by
  have h := rvM_ok a ha
  unfold rvMOk at h
  split at h
  · rename_i p0 p1 p2 p3 _
    simp only [List.all_cons, List.all_nil, Bool.and_true, id_eq, Bool.and_eq_true, decide_eq_true_eq, Bool.or_eq_true] at h
    obtain ⟨h1, h2, h3, h4, h5, h6, h7, h8⟩ := h
    refine ⟨rvAtT_in h1, fun e => ?_, fun e => ?_, h3, h4, h5, h6, h7, fun e => ?_⟩
    · rw [if_pos e] at h2; exact rvAtT_in h2
    · rw [if_neg e] at h2
      simp only [Bool.and_eq_true] at h2
      exact ⟨rvAtT_in h2.1, rvAtT_in h2.2⟩
    · rcases h8 with h8 | h8
      · exact absurd h8 e
      · exact h8
  · cases h
section RvCall
variable {l : Launch} {F : Nat}
theorem rvMet (hF : rvHyp l F) (hcd : ∀ i, i < 191 → Cond.code (rvM i).1 (rvM i).2.1 (rvM i).2.2.1 (rvM i).2.2.2.1 ∈ rvT) (hp0 : ∀ i, i < 191 → rvPc i 0 = 0) {a d : Nat} (ha : a < 191) {as : List rvV} {σ : rvS} {Q : Option rvV → rvS → Prop} (h : rvWp F d a 0 (rvEntry a as) [] σ Q) (hok : ∀ v ∈ as, rvOk v) (hlen : (rvArgs as).length ≤ (rvM a).2.2.1)
    (A : Nat → Nat → Nat) (cA : Nat → ClassId) (D : va_G) (sz : Nat) : Met l (rvM a).1 (rvWd a) (rvRm d) (va_Pc (as.map (rvTr A)) (rvPcB A cA D σ sz)) (rvQc A cA D σ (rvAd A sz) Q) 0 0 (rvAd A sz) := by
  obtain ⟨-, -, -, hpl, hmh, -, -, hown, -⟩ := rvMOk_of ha
  refine Met.ofW (cc := (rvM a).2.1) (maxL := (rvM a).2.2.1) (ret := (rvM a).2.2.2.1) hpl rfl ?_
  intro p e s m args below meth c s₁ B hml hv
  obtain ⟨rfl, rfl, hP, hK, hD, hst⟩ := hv
  have hts : ∀ w ∈ rvWd a, w.before _ s = true := atoms_spec (ws := rvWd a) B.pre
  have hfc : s.vm.findClass (rvOwn a) = some m.cls := hown ▸ findClass_of_methodNamed B.named
  have hl := lv_entry (as.map (rvTr A)) (n := (rvM a).2.2.1) (by rw [rvArgs_len]; exact hlen)
  rw [lg_entry_eq]
  generalize (lg_sl (as.map (rvTr A)) ++ List.replicate ((rvM a).2.2.1 - (lg_sl (as.map (rvTr A))).length) Slot.unset).toArray = ls at hl ⊢
  have hk := hF d a 0 (rvEntry a as) [] σ Q (by omega) h p e (rvRm d) s m (as.map (rvTr A)).toArray below meth c A cA D σ 0 0 ⟨B.exec, B.bytes, B.returns, B.notSynchronized, hml, hfc, fun w hw => hts w (List.mem_cons_of_mem _ hw), ⟨Nat.le_refl _, Nat.le_refl _, Nat.le_refl _, Nat.le_refl _⟩, hK, hst⟩ s.heap [] ls
    ⟨hP, hD, va_S.rf, ⟨hl.1, hl.2.1, fun j w hj => by
      have h1 := rvArgs_in A as 0 j w (rvEntry_in hj)
      have h2 := hl.2.2 _ h1
      rwa [Nat.zero_add] at h2⟩, fun v hv => absurd hv (by simp), fun j w hj => rvArgs_ok as hok j w (rvEntry_in hj), rfl⟩
  rw [hp0 a ha] at hk
  exact hk
theorem rvC_23 (hF : rvHyp l F) (hcd : ∀ i, i < 191 → Cond.code (rvM i).1 (rvM i).2.1 (rvM i).2.2.1 (rvM i).2.2.2.1 ∈ rvT) (hp0 : ∀ i, i < 191 → rvPc i 0 = 0) : rvCase l F 23 := by
  intro d i n als ast σ Q a b c tb hi hck h p e R s m args below meth cd A cA D σ0 nc ns hE H locs ls hS
  obtain ⟨s1, s2, s3, s4, s5, s6, s7⟩ := hS
  replace h : rvB_23 (rvWp F) d i n als ast σ Q a b c tb := h
  unfold rvB_23 at h
  split at h
  · exact h.elim
  · rename_i d'
    obtain ⟨⟨hbl, hcat, hrv, hfit⟩, h⟩ := h
    have hE0 := hE
    obtain ⟨hx, hb, hr, hlk2, hml, hown, hts, hR, hK, hst⟩ := hE
    replace hck : (decide (a < 191) && rvCk23 i n a b c tb) = true := hck
    simp only [Bool.and_eq_true, decide_eq_true_eq] at hck
    obtain ⟨ha, hck⟩ := hck
    obtain ⟨m1, m2, m3, m4, m5, m6, m7, m8, m9⟩ := rvMOk_of ha
    have hokA : ∀ v ∈ (ast.take b).reverse, rvOk v := fun v hv => s5 v (List.mem_of_mem_take (List.mem_reverse.mp hv))
    have hokR : ∀ v ∈ ast.drop b, rvOk v := fun v hv => s5 v (List.mem_of_mem_drop hv)
    have hM := rvMet hF hcd hp0 ha h hokA hfit A cA D H.size
    have hAi : ∀ q, rvAd A H.size q → rvAd A s.heap.size q := rvAd_in s2 (fun q hq => Or.inr (Nat.le_trans s3.1 hq))
    have hstH : ∀ U : State, U.heap = H → s.WarmedH U.vm → va_Pc ((ast.take b).reverse.map (rvTr A)) (rvPcB A cA D σ H.size) ((ast.take b).reverse.map (rvTr A)).toArray U := by
      intro U hU hW
      subst hU
      exact ⟨rfl, rfl, s1, va_K.moved hW.alike hK, rvAd_self s2, rvStat_warm hW (rvStat_narrow (rvStat_kept (rvStat_sig hst s7) (fun a h1 h2 => s3.2.1 a h1 h2)) hAi)⟩
    have hblind : FrameBlind (va_Pc ((ast.take b).reverse.map (rvTr A)) (rvPcB A cA D σ H.size)) := by
      intro a' U g mk q
      obtain ⟨q1, q2, q3, q4, q5, q6⟩ := q
      exact ⟨q1, q2, q3, va_K.moved (u := U) (U := U.calling g mk a') (Vm.Alike.refl U.vm) q4, q5, rvStat_same (u := U) (U := U.calling g mk a') rfl q6⟩
    have hst0 : ast.map (rvTr A) = ((ast.take b).reverse.map (rvTr A)).reverse ++ (ast.drop b).map (rvTr A) := by
      rw [← List.map_reverse, List.reverse_reverse, ← List.map_append, List.take_append_drop]
    have hW8 : 2 * (F0 m (rvPc i n) ls (ast.map (rvTr A))).monitorRoom + (((ast.drop b).map (rvTr A)).map fun v => v.category).sum ≤ 8 := by
      rw [rvCat_tr]
      show 2 * 0 + _ ≤ 8
      omega
    have hRd : (rvRm d').frames + 1 ≤ R.frames ∧ 8 + ((rvM a).2.2.1 + 11) + (rvRm d').locals ≤ R.locals := by
      show d' + 1 ≤ R.frames ∧ 8 + ((rvM a).2.2.1 + 11) + 64 * d' ≤ R.locals
      omega
    have hcode : ∀ w ∈ rvWd a, w ∈ rvT := fun w hw => by
      rcases List.mem_cons.mp hw with rfl | hw
      · exact hcd a ha
      · exact hw
    have hgood : GoodIn rvT (rvWd a) := fun w hw => rvT_good w (hcode w hw)
    have hfix : CallFix p m cd (rvM i).2.1 (rvM i).2.2.1 s args rvT (rvOwn i) := ⟨hx, hb, hml, hown, hts⟩
    -- behind the call
    have key : ∀ {nx : Nat}, rvPc i (n + 1) = rvPc i n + 3 → va_Run p l e R s m args below meth cd H locs nc ns 0 0 (F0 m (rvPc i n) ls (ast.map (rvTr A))) ((ast.drop b).map (rvTr A)) (rvQc A cA D σ (rvAd A H.size) (fun v σ' => rvWp F (d' + 1) i (n + 1) als (v.toList ++ ast.drop b) σ' Q) ((ast.take b).reverse.map (rvTr A)).toArray) (rvAd A H.size) →
        W p l e R s m args below meth cd H locs nc ns (MQ below (rvQc A cA D σ0 (rvAd A s.heap.size) Q) args s nc ns (rvAd A s.heap.size)) (F0 m (rvPc i n) ls (ast.map (rvTr A))) := by
      intro _ hn hr T hT X
      obtain ⟨v, st₀, t, T', L, h0, X', hL, e1, e2, ⟨⟨r, σ', hv, hq, hrok, hsg, hP'⟩, hz, hkp⟩, st⟩ := hr T hT X
      cases hv
      rw [h0] at hz hkp
      have hk := hF (d' + 1) i (n + 1) als (r.toList ++ ast.drop b) σ' Q hi hq p e R s m args below meth cd A cA D σ0 nc ns hE0 T'.heap (locs ++ L) ls
        ⟨by rw [e1]; exact hP', rvD_addr s2, ⟨Nat.le_trans s3.1 (by rw [e1]; exact hz), fun q h1 h2 => by rw [e1, hkp q (Nat.lt_of_lt_of_le h1 s3.1) (fun z => h2 (hAi q z))]; exact s3.2.1 q h1 h2, fun q hq => by
          rcases List.mem_append.mp hq with h | h
          · exact s3.2.2 q h
          · exact hAi _ (hL q h)⟩, s4, fun w hw => by
          rcases List.mem_append.mp hw with h | h
          · cases r with
            | none => cases h
            | some y =>
              simp only [Option.toList_some, List.mem_singleton] at h
              subst h
              exact hrok _ rfl
          · exact hokR w h, s6, hsg.trans s7⟩
      obtain ⟨t2, a1, b1⟩ := hk T' rfl X'
      rw [hn, List.map_append] at a1
      have er : (Option.map (rvTr A) r).toList = List.map (rvTr A) r.toList := by cases r <;> rfl
      refine ⟨t2, st t2 ?_, b1⟩
      rw [er]
      exact a1
    have hlenA : (ast.take b).reverse.length = b := by rw [List.length_reverse, List.length_take]; omega
    unfold rvCk23 at hck
    split at hck
    · -- virtual
      simp only [Bool.and_eq_true, decide_eq_true_eq] at hck
      obtain ⟨h1, h2, h3⟩ := hck
      obtain ⟨hd, hn⟩ := rvD_of h1
      have hb0 : (rvM a).2.2.2.2.2.1 = b := by rw [h3]
      have hst1 : ¬ (rvM a).2.2.2.2.2.2 = 1 := by rw [h3]; show ¬ (0 : Nat) = 1; decide
      obtain ⟨m9a, m9b⟩ := m9 hst1
      obtain ⟨g, ra, hra⟩ := hrv rfl
      have hcl : ∃ q : vw_C, vwCl[(rvM a).2.2.2.2.1]? = some q ∧ q.1 = (rvM a).1.cls := by
        cases hq : vwCl[(rvM a).2.2.2.2.1]? with
        | none => rw [hq] at m9a; cases m9a
        | some q => rw [hq] at m9a; exact ⟨q, rfl, Option.some.inj m9a⟩
      obtain ⟨qc, hqc, hqn⟩ := hcl
      have hk11 : (rvM a).2.2.2.2.1 < 11 := (List.getElem?_eq_some_iff.mp hqc).1
      have hokg : g < (rvK (rvM a).2.2.2.2.1).2.2 := hokA (.inr (.inr ((rvM a).2.2.2.2.1, g))) (by rw [hra]; exact List.mem_cons_self)
      obtain ⟨q0, -, hw⟩ := rvWs_get A cA σ (show (rvM a).2.2.2.2.1 < 105 by omega) hokg
      rw [rvEnt_0 (rvK_obj _ hk11)] at hw
      have hrc := va_recv hK s1 hqc hw
      rw [hqn] at hrc
      rw [hra] at hstH hblind hM hlenA key hst0
      have hl1 : ra.length + 1 = b := by simpa using hlenA
      refine key (nx := 0) hn (va_runV (As := ra.map (rvTr A)) (b := A (rvM a).2.2.2.2.1 g) hfix hM (cwV (ra.length) hts (fun w hw => ?_) rfl rfl rfl ⟨rfl, m5.1, m5.2, ?_⟩ hRd) ⟨hblind, hrc, hstH⟩ rfl (by rw [List.length_map]) s4.1 ?_ hW8 hd ⟨hR.2.2.1, hR.2.2.2⟩)
      · rcases List.mem_append.mp (show w ∈ ([.methodLink (rvOwn i) c (rvM a).1, .instanceMethod (rvM a).1, .selects (rvM a).1.cls (rvM a).1 (rvM a).1, .initialized (rvM a).1.cls] : List Cond) ++ rvWd a from hw) with hw | hw
        · refine rvT_good w ?_
          simp only [List.mem_cons, List.not_mem_nil, or_false] at hw
          rcases hw with rfl | rfl | rfl | rfl
          · exact rvLm_use h2
          · exact (m3 hst1).1
          · exact (m3 hst1).2
          · exact m1
        · exact hgood w hw
      · rw [m6, if_neg hst1, hb0]
        congr 1
        omega
      · rw [hst0]
        simp only [List.map_cons, List.reverse_cons, List.append_assoc, List.singleton_append]
        rfl
    · -- static
      simp only [Bool.and_eq_true, decide_eq_true_eq] at hck
      obtain ⟨h1, h2, h3⟩ := hck
      obtain ⟨hd, hn⟩ := rvD_of h1
      have hb0 : (rvM a).2.2.2.2.2.1 = b := by rw [h3]
      have hst1 : (rvM a).2.2.2.2.2.2 = 1 := by rw [h3]
      refine key (nx := 0) hn (va_runS (As := (ast.take b).reverse.map (rvTr A)) hfix hM (va_cwS b hts (fun w hw => ?_) rfl rfl rfl ⟨m5.1, m5.2, ?_⟩ hRd) ⟨hblind, hstH⟩ rfl (by rw [List.length_map]; exact hlenA) s4.1 hst0 hW8 hd ⟨hR.2.2.1, hR.2.2.2⟩)
      · rcases List.mem_append.mp (show w ∈ ([.methodLink (rvOwn i) c (rvM a).1, .static (rvM a).1, .initialized (rvM a).1.cls] : List Cond) ++ rvWd a from hw) with hw | hw
        · refine rvT_good w ?_
          simp only [List.mem_cons, List.not_mem_nil, or_false] at hw
          rcases hw with rfl | rfl | rfl
          · exact rvLm_use h2
          · exact m2 hst1
          · exact m1
        · exact hgood w hw
      · rw [m6, if_pos hst1, hb0]
        rfl
    · -- static, of a nest mate
      simp only [Bool.and_eq_true, decide_eq_true_eq] at hck
      obtain ⟨h1, ⟨rfl, h2⟩, h3⟩ := hck
      obtain ⟨hd, hn⟩ := rvD_of h1
      have hb0 : (rvM 104).2.2.2.2.2.1 = b := by rw [h3]
      have hst1 : (rvM 104).2.2.2.2.2.2 = 1 := by rw [h3]
      have hnw : va_Nw (.methodLinkNest (rvOwn i) c (rvM 104).1 "RiverCompact") s := by
        rcases h2 with ⟨e1, rfl⟩ | ⟨e1, rfl⟩
        · have : rvOwn i = "RiverCompact$Hold" := by unfold rvOwn; rw [e1]; rfl
          rw [this]; exact hst.2.2.2.2.2.1
        · have : rvOwn i = "RiverCompact$Reader" := by unfold rvOwn; rw [e1]; rfl
          rw [this]; exact hst.2.2.2.2.2.2.1
      refine key (nx := 0) hn (va_runSN (As := (ast.take b).reverse.map (rvTr A)) (host := "RiverCompact") hfix hM ⟨va_cnB b hts hgood rfl rfl rfl hnw (hts _ m1) ⟨m5.1, m5.2, ?_⟩ hRd, hts _ (m2 hst1), trivial⟩ ⟨hblind, hstH⟩ rfl (by rw [List.length_map]; exact hlenA) s4.1 hst0 hW8 hd ⟨hR.2.2.1, hR.2.2.2⟩)
      rw [m6, if_pos hst1, hb0]
      rfl
    · cases hck
theorem rvC_24 (hF : rvHyp l F) : rvCase l F 24 := by
  intro d i n als ast σ Q a b c tb hi hck h p e R s m args below meth cd A cA D σ0 nc ns hE H locs ls hS
  obtain ⟨s1, s2, s3, s4, s5, s6, s7⟩ := hS
  replace h : rvB_24 (rvWp F) d i n als ast σ Q a b c tb := h
  unfold rvB_24 at h
  split at h
  · obtain ⟨hx, hb, hr, hlk2, hml, hown, hts, hR, hK, hst⟩ := hE
    exact W.vret hx hb (hr.trans h.1) (fun t ht _ => ⟨⟨none, σ, rfl, h.2, fun v hv => absurd hv (by simp), s7, by rw [ht]; exact s1⟩, s3.F ht⟩) s3.2.2 (rvDc_of hck) hlk2
  · exact h.elim
theorem rvC_25 (hF : rvHyp l F) : rvCase l F 25 := by
  intro d i n als ast σ Q a b c tb hi hck h p e R s m args below meth cd A cA D σ0 nc ns hE H locs ls hS
  obtain ⟨s1, s2, s3, s4, s5, s6, s7⟩ := hS
  replace h : rvB_25 (rvWp F) d i n als ast σ Q a b c tb := h
  unfold rvB_25 at h
  split at h
  · rename_i v
    obtain ⟨hx, hb, hr, hlk2, hml, hown, hts, hR, hK, hst⟩ := hE
    have hty : ∃ ty : FieldType, (rvM i).2.2.2.1 = some ty ∧ narrow ty (.int v) = .int v := by
      obtain ⟨h1, -⟩ := h
      unfold rvRet at h1
      split at h1
      · rename_i e0; exact ⟨_, e0, rfl⟩
      · rename_i e0; exact ⟨_, e0, by rcases h1 with rfl | rfl <;> rfl⟩
      · exact h1.elim
    obtain ⟨ty, e1, e2⟩ := hty
    exact W.zret hx hb (hr.trans e1) e2 (fun t ht _ => ⟨⟨some (.inl v), σ, rfl, h.2, fun w hw => by cases hw; trivial, s7, by rw [ht]; exact s1⟩, s3.F ht⟩) s3.2.2 (rvDc_of hck) hlk2
  · exact h.elim
theorem rvC_26 (hF : rvHyp l F) : rvCase l F 26 := by
  intro d i n als ast σ Q a b c tb hi hck h p e R s m args below meth cd A cA D σ0 nc ns hE H locs ls hS
  obtain ⟨s1, s2, s3, s4, s5, s6, s7⟩ := hS
  replace h : rvB_26 (rvWp F) d i n als ast σ Q a b c tb := h
  unfold rvB_26 at h
  split at h
  · rename_i v
    obtain ⟨hx, hb, hr, hlk2, hml, hown, hts, hR, hK, hst⟩ := hE
    exact W.lret hx hb (hr.trans h.1) (fun t ht _ => ⟨⟨some (.inr (.inl v)), σ, rfl, h.2, fun w hw => by cases hw; trivial, s7, by rw [ht]; exact s1⟩, s3.F ht⟩) s3.2.2 (rvDc_of hck) hlk2
  · exact h.elim
theorem rvC_27 (hF : rvHyp l F) : rvCase l F 27 := by
  intro d i n als ast σ Q a b c tb hi hck h p e R s m args below meth cd A cA D σ0 nc ns hE H locs ls hS
  obtain ⟨s1, s2, s3, s4, s5, s6, s7⟩ := hS
  replace h : rvB_27 (rvWp F) d i n als ast σ Q a b c tb := h
  unfold rvB_27 at h
  split at h
  · rename_i v
    obtain ⟨hx, hb, hr, hlk2, hml, hown, hts, hR, hK, hst⟩ := hE
    obtain ⟨⟨C, hC⟩, hq⟩ := h
    exact W.aret hx hb (hr.trans hC) (Or.inl ⟨C, rfl⟩) (Or.inr ⟨_, rfl⟩) (fun t ht _ => ⟨⟨some (.inr (.inr v)), σ, rfl, hq, fun w hw => by cases hw; exact s5 _ List.mem_cons_self, s7, by rw [ht]; exact s1⟩, s3.F ht⟩) s3.2.2 (rvDc_of hck) hlk2
  · exact h.elim
end RvCall
section RvMore
variable {l : Launch} {F : Nat}
theorem rvC_29 (hF : rvHyp l F) : rvCase l F 29 := by
  intro d i n als ast σ Q a b c tb hi hck h p e R s m args below meth cd A cA D σ0 nc ns hE H locs ls hS
  obtain ⟨s1, s2, s3, s4, s5, s6, s7⟩ := hS
  replace h : rvWp F d i (n + 1) als (.inr (.inr (105, 0)) :: ast) σ Q := h
  have hk := hF d i (n + 1) als _ σ Q hi h p e R s m args below meth cd A cA D σ0 nc ns hE H locs ls ⟨s1, s2, s3, s4, List.forall_mem_cons.mpr ⟨show (0 : Nat) < (rvK 105).2.2 by decide, s5⟩, s6, s7⟩
  obtain ⟨hx, hb, hr, hlk2, hml, hown, hts, hR, hK, hst⟩ := hE
  simp only [rvCk, Bool.and_eq_true, beq_iff_eq] at hck
  obtain ⟨hd, hn⟩ := rvD_of hck.1
  rw [hn] at hk
  have ho : rvOwn i = "RiverCompact$Hold" := by unfold rvOwn; rw [hck.2]; rfl
  exact va_getsN hx hb hst.2.2.1 s3 hown (by rw [ho]; exact va_Nw.use rfl hst.2.2.2.2.1) (fun x hx => hx) hd hk
theorem rvLdcWS {p : Program} {l : Launch} {e : Env} {R : Room} {s : State} {m : MethodId} {args : Array Value} {below : List Frame} {meth : Method} {c : Code} {H : Heap} {locs : List Loc} {cells slots : Nat} {Q : State → Prop} {cc : ByteArray} {pc : Nat} {ls : Array Slot} {rest : List Value} (hexec : p.tables.exec = Jvm.exec) (hb : c.code = cc) {own tx : String} {index q : Nat} (hown : s.vm.findClass own = some m.cls) (hZ : vk_R own index tx q s) (hdg : decode cc pc = .ok (.ldc_w index, 3))
    (k : W p l e R s m args below meth c H locs cells slots Q (F0 m (pc + 3) ls (.ref q :: rest))) : W p l e R s m args below meth c H locs cells slots Q (F0 m pc ls rest) := by
  intro T hT X
  obtain ⟨t, a1, b1⟩ := k T hT X
  refine ⟨t, ?_, b1⟩
  obtain ⟨k, cf, i, a', hk, hcf, hcp, -, hr, hev'⟩ := Cond.stringRef_spec (args := #[]) hown hZ.1
  cases hZ.2.symm.trans hev'
  obtain ⟨k', hk', he⟩ := X.warmed.alike.2.2 _ _ hk
  have hr' : k'.resolved[index]? = some (some (.string q)) := by
    rcases X.warmed.entry hk hk' index with h | ⟨h, -⟩
    · rw [h]; exact hr
    · rw [hr] at h; cases h
  have hdg' : decode c.code pc = .ok (.ldc_w index, 3) := by rw [hb]; exact hdg
  jvm_step X.here [hexec, hdg', ldc_w.wp_string (e := e) (s := T) (f := F0 m pc ls rest) X.here.top hk' (by rw [he]; exact hcf) hcp hr']
  exact a1
theorem rvC_30 (hF : rvHyp l F) : rvCase l F 30 := by
  intro d i n als ast σ Q a b c tb hi hck h p e R s m args below meth cd A cA D σ0 nc ns hE H locs ls hS
  obtain ⟨s1, s2, s3, s4, s5, s6, s7⟩ := hS
  replace h : rvWp F d i (n + 1) als (.inr (.inr (106, a)) :: ast) σ Q := h
  simp only [rvCk, Bool.and_eq_true, Bool.or_eq_true] at hck
  obtain ⟨hck1, hck2⟩ := hck
  obtain ⟨en, he, h1⟩ := List.any_eq_true.mp hck2
  simp only [Bool.and_eq_true, beq_iff_eq] at h1
  obtain ⟨e1, e2, e3⟩ := h1
  have ha : a < 11 := by
    have h0 : rvLs.all (fun e => decide (e.2.2.1 < 11)) = true := by decide +kernel
    have := of_decide_eq_true (List.all_eq_true.mp h0 en he)
    omega
  have hk := hF d i (n + 1) als _ σ Q hi h p e R s m args below meth cd A cA D σ0 nc ns hE H locs ls ⟨s1, s2, s3, s4, List.forall_mem_cons.mpr ⟨show a < (rvK 106).2.2 by
    have : (rvK 106).2.2 = 11 := by decide
    omega, s5⟩, s6, s7⟩
  obtain ⟨hx, hb, hr, hlk2, hml, hown, hts, hR, hK, hst⟩ := hE
  have hZ := hst.2.2.2.2.2.2.2.1 en he
  rw [e1, e2, e3] at hZ
  rcases hck1 with hd | hd <;> obtain ⟨hd, hn⟩ := rvD_of hd <;> rw [hn] at hk
  · exact va_ldcS hx hb hown hZ hd hk
  · exact rvLdcWS hx hb hown hZ hd hk
theorem rvC_33 (hF : rvHyp l F) : rvCase l F 33 := by
  intro d i n als ast σ Q a b c tb hi hck h p e R s m args below meth cd A cA D σ0 nc ns hE H locs ls hS
  obtain ⟨s1, s2, s3, s4, s5, s6, s7⟩ := hS
  replace h : rvB_33 (rvWp F) d i n als ast σ Q a b c tb := h
  unfold rvB_33 at h
  split at h
  · rename_i v k g r
    obtain ⟨rfl, hin, h⟩ := h
    have hk := hF d i (n + 1) als _ σ Q hi h p e R s m args below meth cd A cA D σ0 nc ns hE H locs ls ⟨s1, s2, s3, s4, List.forall_mem_cons.mpr ⟨trivial, fun w hw => s5 w (by simp [hw])⟩, s6, s7⟩
    have hok : g < (rvK 105).2.2 := s5 (.inr (.inr (105, g))) (by simp)
    have hg : g = 0 := by
      have : (rvK 105).2.2 = 1 := by decide
      omega
    subst hg
    obtain ⟨hx, hb, hr, hlk2, hml, hown, hts, hR, hK, hst⟩ := hE
    obtain ⟨hd, hn⟩ := rvD_of (ins := .iaload) hck
    rw [hn] at hk
    exact va_ti hx hb hst.1 s3 (rvIn hin) rfl hd hk
  · exact h.elim
theorem rvC_34 (hF : rvHyp l F) : rvCase l F 34 := by
  intro d i n als ast σ Q a b c tb hi hck h p e R s m args below meth cd A cA D σ0 nc ns hE H locs ls hS
  obtain ⟨s1, s2, s3, s4, s5, s6, s7⟩ := hS
  replace h : rvB_34 (rvWp F) d i n als ast σ Q a b c tb := h
  unfold rvB_34 at h
  split at h
  · rename_i k g r
    obtain ⟨rfl, h⟩ := h
    have hk := hF d i (n + 1) als _ σ Q hi h p e R s m args below meth cd A cA D σ0 nc ns hE H locs ls ⟨s1, s2, s3, s4, List.forall_mem_cons.mpr ⟨trivial, fun w hw => s5 w (by simp [hw])⟩, s6, s7⟩
    have hok : g < (rvK 105).2.2 := s5 (.inr (.inr (105, g))) (by simp)
    have hg : g = 0 := by
      have : (rvK 105).2.2 = 1 := by decide
      omega
    subst hg
    obtain ⟨hx, hb, hr, hlk2, hml, hown, hts, hR, hK, hst⟩ := hE
    obtain ⟨hd, hn⟩ := rvD_of (ins := .arraylength) hck
    rw [hn] at hk
    exact va_tlen hx hb hst.1 s3 rfl hd hk
  · exact h.elim
end RvMore
