-- String.length and String.charAt of a constant, walked over the JDK's own code
section RvPure
variable {p : Program} {l : Launch} {e : Env} {R : Room} {s : State} {m : MethodId} {args : Array Value} {below : List Frame} {meth : Method} {c : Code} {H : Heap} {locs : List Loc} {Q : State → Prop} {pc : Nat} {ls : Array Slot} {st0 rest : List Value}
theorem rvPure {r : Option Value} (hr : va_Run p l e R s m args below meth c H locs 0 0 0 0 (F0 m pc ls st0) rest (fun st o t => o = .returned r ∧ t.heap = st.heap) (fun _ => False)) (kk : W p l e R s m args below meth c H locs 0 0 Q (F0 m (pc + 3) ls (r.toList ++ rest))) : W p l e R s m args below meth c H locs 0 0 Q (F0 m pc ls st0) := by
  intro T hT X
  obtain ⟨v, st₀, t, T', L, h0, X', hL, e1, e2, ⟨hv, hh⟩, st⟩ := hr T hT X
  cases hv
  have hLn : L = [] := List.eq_nil_iff_forall_not_mem.mpr (fun q hq => hL q hq)
  subst hLn
  rw [List.append_nil] at X'
  obtain ⟨t2, a1, b1⟩ := kk T' (by rw [e1, hh, h0]) X'
  exact ⟨t2, st t2 a1, b1⟩
end RvPure
theorem rvPcB_warm {A : Nat → Nat → Nat} {cA : Nat → ClassId} {D : va_G} {σ : rvS} {sz : Nat} {s U : State} (h : rvPcB A cA D σ sz s) (hU : U.heap = s.heap) (hW : s.WarmedH U.vm) : rvPcB A cA D σ sz U := by
  obtain ⟨h1, h2, h3, h4, h5⟩ := h
  refine ⟨by rw [hU]; exact h1, by rw [hU]; exact h2, va_K.moved hW.alike h3, h4, ?_⟩
  rw [hU]
  exact rvStat_warm hW h5
theorem rvPcB_blind {A : Nat → Nat → Nat} {cA : Nat → ClassId} {D : va_G} {σ : rvS} {sz : Nat} {as : List Value} : FrameBlind (va_Pc as (rvPcB A cA D σ sz)) := by
  intro a' U g mk q
  obtain ⟨q1, q2, q3, q4, q5, q6⟩ := q
  exact ⟨q1, q2, q3, va_K.moved (u := U) (U := U.calling g mk a') (Vm.Alike.refl U.vm) q4, q5, rvStat_same (u := U) (U := U.calling g mk a') rfl q6⟩
def rvRq (r : Option Value) : Array Value → State → Outcome → State → Prop := fun _ st o t => o = .returned r ∧ t.heap = st.heap
abbrev rvJw (y : MethodName) (cc : ByteArray) (n : Nat) (ret : Option FieldType) : List Cond := .code y cc n ret :: rvT
set_option maxRecDepth 100000 in
theorem rvJ_w1 : Cond.code yJ3_checkIndex_8e157 cJ3_checkIndex_8e157 3 (some .int) ∈ rvT ∧ Cond.static yJ3_checkIndex_8e157 ∈ rvT ∧ Cond.initialized RJ3 ∈ rvT ∧ Cond.methodLink RJ0 1059 yJ3_checkIndex_8e157 ∈ rvT := ⟨rvT_dec (by decide +kernel), rvT_dec (by decide +kernel), rvT_dec (by decide +kernel), rvT_dec (by decide +kernel)⟩
set_option maxRecDepth 100000 in
theorem rvJ_w2 : Cond.code yJ0_checkIndex_df160 cJ0_checkIndex_df160 2 none ∈ rvT ∧ Cond.static yJ0_checkIndex_df160 ∈ rvT ∧ Cond.initialized RJ0 ∈ rvT ∧ Cond.methodLink RJ1 9 yJ0_checkIndex_df160 ∈ rvT ∧ Cond.fieldLink RJ0 1053 "jdk/internal/util/Preconditions" "SIOOBE_FORMATTER" "Ljava/util/function/BiFunction;" ∈ rvT := ⟨rvT_dec (by decide +kernel), rvT_dec (by decide +kernel), rvT_dec (by decide +kernel), rvT_dec (by decide +kernel), rvT_dec (by decide +kernel)⟩
set_option maxRecDepth 100000 in
theorem rvJ_w3 : Cond.code yJ1_charAt_3b067 cJ1_charAt_3b067 2 (some .char) ∈ rvT ∧ Cond.static yJ1_charAt_3b067 ∈ rvT ∧ Cond.initialized RJ1 ∈ rvT ∧ Cond.methodLink RJ0 495 yJ1_charAt_3b067 ∈ rvT := ⟨rvT_dec (by decide +kernel), rvT_dec (by decide +kernel), rvT_dec (by decide +kernel), rvT_dec (by decide +kernel)⟩
set_option maxRecDepth 100000 in
theorem rvJ_w4 : Cond.code yJ0_isLatin1_aae02 cJ0_isLatin1_aae02 1 (some .boolean) ∈ rvT ∧ Cond.instanceMethod yJ0_isLatin1_aae02 ∈ rvT ∧ Cond.selects RJ0 yJ0_isLatin1_aae02 yJ0_isLatin1_aae02 ∈ rvT ∧ Cond.methodLink RJ0 492 yJ0_isLatin1_aae02 ∈ rvT ∧ Cond.fieldLink RJ0 38 "java/lang/String" "COMPACT_STRINGS" "Z" ∈ rvT ∧ Cond.fieldLink RJ0 15 "java/lang/String" "coder" "B" ∈ rvT ∧ Cond.fieldLink RJ0 9 "java/lang/String" "value" "[B" ∈ rvT := ⟨rvT_dec (by decide +kernel), rvT_dec (by decide +kernel), rvT_dec (by decide +kernel), rvT_dec (by decide +kernel), rvT_dec (by decide +kernel), rvT_dec (by decide +kernel), rvT_dec (by decide +kernel)⟩
set_option maxRecDepth 100000 in
theorem rvJ_w5 : Cond.code yJ0_coder_7d493 cJ0_coder_7d493 1 (some .byte) ∈ rvT ∧ Cond.instanceMethod yJ0_coder_7d493 ∈ rvT ∧ Cond.selects RJ0 yJ0_coder_7d493 yJ0_coder_7d493 ∈ rvT ∧ Cond.methodLink RJ0 335 yJ0_coder_7d493 ∈ rvT := ⟨rvT_dec (by decide +kernel), rvT_dec (by decide +kernel), rvT_dec (by decide +kernel), rvT_dec (by decide +kernel)⟩
theorem rvGoodJ {w : Cond} (h : w ∈ rvT) : GoodIn rvT (w :: rvT) := fun v hv => by
  rcases List.mem_cons.mp hv with rfl | hv
  · exact rvT_good _ h
  · exact rvT_good _ hv
theorem rvGoodS {own : String} {idx : Nat} {y : MethodName} {w : Cond} (h1 : Cond.methodLink own idx y ∈ rvT) (h2 : Cond.static y ∈ rvT) (h3 : Cond.initialized y.cls ∈ rvT) (h4 : w ∈ rvT) : GoodIn rvT (va_wsS own idx y (w :: rvT)) := fun v hv => by
  rcases List.mem_append.mp (show v ∈ ([.methodLink own idx y, .static y, .initialized y.cls] : List Cond) ++ (w :: rvT) from hv) with hv | hv
  · refine rvT_good v ?_
    simp only [List.mem_cons, List.not_mem_nil, or_false] at hv
    rcases hv with rfl | rfl | rfl <;> assumption
  · exact rvGoodJ h4 v hv
theorem rvGoodV {own C : String} {idx : Nat} {y : MethodName} {w : Cond} (h1 : Cond.methodLink own idx y ∈ rvT) (h2 : Cond.instanceMethod y ∈ rvT) (h3 : Cond.selects C y y ∈ rvT) (h4 : Cond.initialized C ∈ rvT) (h5 : w ∈ rvT) : GoodIn rvT (wsV own idx C y (w :: rvT)) := fun v hv => by
  rcases List.mem_append.mp (show v ∈ ([.methodLink own idx y, .instanceMethod y, .selects C y y, .initialized C] : List Cond) ++ (w :: rvT) from hv) with hv | hv
  · refine rvT_good v ?_
    simp only [List.mem_cons, List.not_mem_nil, or_false] at hv
    rcases hv with rfl | rfl | rfl | rfl <;> assumption
  · exact rvGoodJ h5 v hv
section RvJ
variable (l : Launch) (A : Nat → Nat → Nat) (cA : Nat → ClassId) (D : va_G) (σ : rvS) (sz : Nat)
theorem rvJ_check (v n : Int32) (q : Option Nat) (hv : 0 ≤ v.toInt ∧ v.toInt < n.toInt) : Met l yJ3_checkIndex_8e157 (rvJw yJ3_checkIndex_8e157 cJ3_checkIndex_8e157 3 (some .int)) (rvRm 1) (va_Pc [.int v, .int n, va_rf q] (rvPcB A cA D σ sz)) (rvRq (some (.int v))) 0 0 (fun _ => False) := by
  refine Met.ofW (cc := cJ3_checkIndex_8e157) (maxL := 3) (ret := some .int) (by decide) rfl ?_
  intro p e s m args below meth c s₁ B hml hv'
  obtain ⟨rfl, hB⟩ := hv'
  have hcq : (va_rf q).category = 1 := by cases q <;> rfl
  have hlen : (lg_sl [Value.int v, Value.int n, va_rf q]).length = 3 := by simp [lg_sl, hcq, Value.category]
  have hl := lv_entry [Value.int v, Value.int n, va_rf q] (n := 3) (by omega)
  rw [lg_entry_eq]
  generalize (lg_sl [Value.int v, Value.int n, va_rf q] ++ List.replicate (3 - (lg_sl [Value.int v, Value.int n, va_rf q]).length) Slot.unset).toArray = ls at hl ⊢
  have h0 : ls[0]? = some (.val (.int v)) := hl.2.2 (0, .int v) (by simp [lv_args])
  have h1 : ls[1]? = some (.val (.int n)) := hl.2.2 (1, .int n) (by simp [lv_args, Value.category])
  have hx := B.exec
  have hb := B.bytes
  refine lv_iload_n (k := 0) hx hb (by decide +kernel : decode cJ3_checkIndex_8e157 0 = .ok (.iload_n 0, 1)) rfl h0 ?_
  refine lv_if_lt (tgt := 9) hx hb (by decide +kernel : decode cJ3_checkIndex_8e157 1 = .ok (.ifCond .lt 8, 3)) (by decide) (fun hlt => ?_) (fun _ => ?_)
  · rw [Int32.lt_iff_toInt_lt] at hlt
    have : (0 : Int32).toInt = 0 := rfl
    omega
  refine lv_iload_n (k := 0) hx hb (by decide +kernel : decode cJ3_checkIndex_8e157 4 = .ok (.iload_n 0, 1)) rfl h0 ?_
  refine lv_iload_n (k := 1) hx hb (by decide +kernel : decode cJ3_checkIndex_8e157 5 = .ok (.iload_n 1, 1)) rfl h1 ?_
  refine lv_icmp_lt (tgt := 16) hx hb (by decide +kernel : decode cJ3_checkIndex_8e157 6 = .ok (.if_icmp .lt 10, 3)) (by decide) (fun _ => ?_) (fun hn => ?_)
  · refine lv_iload_n (k := 0) hx hb (by decide +kernel : decode cJ3_checkIndex_8e157 16 = .ok (.iload_n 0, 1)) rfl h0 ?_
    exact W.iret hx hb B.returns (fun t ht _ => ⟨rfl, ht⟩) (fun q hq => by cases hq) (by decide +kernel : decode cJ3_checkIndex_8e157 17 = .ok (.ireturn, 1)) B.notSynchronized
  · exfalso
    rw [Int32.lt_iff_toInt_lt] at hn
    omega
theorem rvJ_check0 (v n : Int32) (hv : 0 ≤ v.toInt ∧ v.toInt < n.toInt) : Met l yJ0_checkIndex_df160 (rvJw yJ0_checkIndex_df160 cJ0_checkIndex_df160 2 none) (rvRm 2) (va_Pc [.int v, .int n] (rvPcB A cA D σ sz)) (rvRq none) 0 0 (fun _ => False) := by
  refine Met.ofW (cc := cJ0_checkIndex_df160) (maxL := 2) (ret := none) (by decide) rfl ?_
  intro p e s m args below meth c s₁ B hml hv'
  obtain ⟨rfl, hB⟩ := hv'
  have hts : ∀ w ∈ rvT, w.before _ s = true := fun w hw => atoms_spec (ws := rvJw yJ0_checkIndex_df160 cJ0_checkIndex_df160 2 none) B.pre w (List.mem_cons_of_mem _ hw)
  have hown : s.vm.findClass RJ0 = some m.cls := findClass_of_methodNamed B.named
  have hl := lv_entry [Value.int v, Value.int n] (n := 2) (Nat.le_of_ble_eq_true rfl)
  rw [lg_entry_eq]
  generalize (lg_sl [Value.int v, Value.int n] ++ List.replicate (2 - (lg_sl [Value.int v, Value.int n]).length) Slot.unset).toArray = ls at hl ⊢
  have h0 : ls[0]? = some (.val (.int v)) := hl.2.2 (0, .int v) (by simp [lv_args])
  have h1 : ls[1]? = some (.val (.int n)) := hl.2.2 (1, .int n) (by simp [lv_args, Value.category])
  have hx := B.exec
  have hb := B.bytes
  obtain ⟨q, hq⟩ := hB.2.2.2.2.2.2.2.2.2.2.2.2.2
  have hsz : s.heap.size = sz := hB.1
  refine lv_iload_n (k := 0) hx hb (by decide +kernel : decode cJ0_checkIndex_df160 0 = .ok (.iload_n 0, 1)) rfl h0 ?_
  refine lv_iload_n (k := 1) hx hb (by decide +kernel : decode cJ0_checkIndex_df160 1 = .ok (.iload_n 1, 1)) rfl h1 ?_
  refine va_gets hx hb hq (va_S.rf) hown (hts _ rvJ_w2.2.2.2.2) (fun x hx => hx) (by decide +kernel : decode cJ0_checkIndex_df160 2 = .ok (.getstatic 1053, 3)) ?_
  refine rvPure (r := some (.int v)) (rest := []) (va_runS (As := [.int v, .int n, va_rf q]) ⟨hx, hb, hml, hown, hts⟩ (rvJ_check l A cA D σ sz v n q hv) (va_cwS 3 hts (rvGoodS rvJ_w1.2.2.2 rvJ_w1.2.1 rvJ_w1.2.2.1 rvJ_w1.1) rfl rfl rfl ⟨by decide, by decide, by decide +kernel⟩ ⟨Nat.le_of_ble_eq_true rfl, Nat.le_of_ble_eq_true rfl⟩) ⟨rvPcB_blind, fun U hU hW => ⟨rfl, rvPcB_warm hB hU hW⟩⟩ rfl rfl hl.1 rfl (Nat.le_of_ble_eq_true rfl) (by decide +kernel : decode cJ0_checkIndex_df160 5 = .ok (.invokestatic 1059, 3)) ⟨Nat.zero_le _, Nat.zero_le _⟩) ?_
  refine lv_pop hx hb (va := .int v) (by decide +kernel : decode cJ0_checkIndex_df160 8 = .ok (.pop, 1)) rfl ?_
  exact W.vret hx hb B.returns (fun t ht _ => ⟨rfl, ht⟩) (fun q hq => by cases hq) (by decide +kernel : decode cJ0_checkIndex_df160 9 = .ok (.return_, 1)) B.notSynchronized
end RvJ
