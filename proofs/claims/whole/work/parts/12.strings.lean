-- String.length and String.charAt of a constant, walked over the JDK's own code
def rvRq (r : Option Value) : Array Value → State → Outcome → State → Prop := fun _ st o t => o = .returned r ∧ t.heap = st.heap
abbrev rvJw (y : MethodName) (cc : ByteArray) (n : Nat) (ret : Option FieldType) : List Cond := .code y cc n ret :: rvT
set_option maxRecDepth 100000 in
theorem rvJ_w1 : Cond.code yJ3_checkIndex_8e157 cJ3_checkIndex_8e157 3 (some .int) ∈ rvT ∧ Cond.static yJ3_checkIndex_8e157 ∈ rvT ∧ Cond.initialized RJ3 ∈ rvT ∧ Cond.methodLink RJ0 1059 yJ3_checkIndex_8e157 ∈ rvT := ⟨rvT_dec (by decide +kernel), rvT_dec (by decide +kernel), rvT_dec (by decide +kernel), rvT_dec (by decide +kernel)⟩
set_option maxRecDepth 100000 in
theorem rvJ_w2 : Cond.code yJ0_checkIndex_df160 cJ0_checkIndex_df160 2 none ∈ rvT ∧ Cond.static yJ0_checkIndex_df160 ∈ rvT ∧ Cond.initialized RJ0 ∈ rvT ∧ Cond.methodLink RJ1 9 yJ0_checkIndex_df160 ∈ rvT ∧ Cond.fieldLink RJ0 1053 "jdk/internal/util/Preconditions" "SIOOBE_FORMATTER" "Ljava/util/function/BiFunction;" ∈ rvT := ⟨rvT_dec (by decide +kernel), rvT_dec (by decide +kernel), rvT_dec (by decide +kernel), rvT_dec (by decide +kernel), rvT_dec (by decide +kernel)⟩
set_option maxRecDepth 100000 in
theorem rvJ_w3 : Cond.code yJ1_charAt_3b067 cJ1_charAt_3b067 2 (some .char) ∈ rvT ∧ Cond.static yJ1_charAt_3b067 ∈ rvT ∧ Cond.initialized RJ1 ∈ rvT ∧ Cond.methodLink RJ0 495 yJ1_charAt_3b067 ∈ rvT := ⟨rvT_dec (by decide +kernel), rvT_dec (by decide +kernel), rvT_dec (by decide +kernel), rvT_dec (by decide +kernel)⟩
set_option maxRecDepth 100000 in
theorem rvJ_w4 : Cond.code yJ0_isLatin1_aae02 cJ0_isLatin1_aae02 1 (some .boolean) ∈ rvT ∧ Cond.instanceMethod yJ0_isLatin1_aae02 ∈ rvT ∧ Cond.selects RJ0 yJ0_isLatin1_aae02 yJ0_isLatin1_aae02 ∈ rvT ∧ Cond.methodLink RJ0 492 yJ0_isLatin1_aae02 ∈ rvT ∧ Cond.fieldLink RJ0 38 "java/lang/String" "COMPACT_STRINGS" "Z" ∈ rvT ∧ Cond.fieldLink RJ0 15 "java/lang/String" "coder" "B" ∈ rvT ∧ Cond.fieldLink RJ0 9 "java/lang/String" "value" "[B" ∈ rvT := ⟨rvT_dec (by decide +kernel), rvT_dec (by decide +kernel), rvT_dec (by decide +kernel), rvT_dec (by decide +kernel), rvT_dec (by decide +kernel), rvT_dec (by decide +kernel), rvT_dec (by decide +kernel)⟩
set_option maxRecDepth 100000 in
theorem rvJ_w5 : Cond.code yJ0_coder_7d493 cJ0_coder_7d493 1 (some .byte) ∈ rvT ∧ Cond.instanceMethod yJ0_coder_7d493 ∈ rvT ∧ Cond.selects RJ0 yJ0_coder_7d493 yJ0_coder_7d493 ∈ rvT ∧ Cond.methodLink RJ0 335 yJ0_coder_7d493 ∈ rvT := ⟨rvT_dec (by decide +kernel), rvT_dec (by decide +kernel), rvT_dec (by decide +kernel), rvT_dec (by decide +kernel)⟩
section RvJ
variable (l : Launch) (A : Nat → Nat → Nat) (cA : Nat → ClassId) (D : va_G) (σ : rvS) (sz : Nat)
theorem rvJ_check (v n : Int32) (q : Option Nat) (hv : 0 ≤ v.toInt ∧ v.toInt < n.toInt) : Met l yJ3_checkIndex_8e157 (rvJw yJ3_checkIndex_8e157 cJ3_checkIndex_8e157 3 (some .int)) (rvRm 1) (va_Pc [.int v, .int n, va_rf q] (rvPcB A cA D σ sz)) (rvRq (some (.int v))) 0 0 (fun _ => False) := by
  refine Met.ofW (cc := cJ3_checkIndex_8e157) (maxL := 3) (ret := some .int) (by decide) rfl ?_
  intro p e s m args below meth c s₁ B hml hv'
  obtain ⟨rfl, hB⟩ := hv'
  have hcq : (va_rf q).category = 1 := by cases q <;> rfl
  have hlen : (lg_sl [Value.int v, Value.int n, va_rf q]).length = 3 := by cases q <;> rfl
  have hl := lv_entry [Value.int v, Value.int n, va_rf q] (n := 3) (by omega)
  rw [lg_entry_eq]
  generalize (lg_sl [Value.int v, Value.int n, va_rf q] ++ List.replicate (3 - (lg_sl [Value.int v, Value.int n, va_rf q]).length) Slot.unset).toArray = ls at hl ⊢
  have h0 : ls[0]? = some (.val (.int v)) := hl.2.2 (0, .int v) (by simp [lv_args])
  have h1 : ls[1]? = some (.val (.int n)) := hl.2.2 (1, .int n) (by simp [lv_args, Value.category])
  have hx := B.exec
  have hb := B.bytes
  refine lv_iload_n (k := 0) hx hb (by decide +kernel : decode cJ3_checkIndex_8e157 0 = .ok (.iload_n 0, 1)) rfl h0 ?_
  refine lv_if_lt (tgt := 9) hx hb (by decide +kernel : decode cJ3_checkIndex_8e157 1 = .ok (.ifCond .lt 8, 3)) (by decide) (fun hlt => ?_) (fun _ => ?_)
  · rw [Int32.lt_iff_toInt_lt] at hlt
    have : (0 : Int32).toInt = 0 := rfl
    omega
  refine lv_iload_n (k := 0) hx hb (by decide +kernel : decode cJ3_checkIndex_8e157 4 = .ok (.iload_n 0, 1)) rfl h0 ?_
  refine lv_iload_n (k := 1) hx hb (by decide +kernel : decode cJ3_checkIndex_8e157 5 = .ok (.iload_n 1, 1)) rfl h1 ?_
  refine lv_icmp_lt (tgt := 16) hx hb (by decide +kernel : decode cJ3_checkIndex_8e157 6 = .ok (.if_icmp .lt 10, 3)) (by decide) (fun _ => ?_) (fun hn => ?_)
  · refine lv_iload_n (k := 0) hx hb (by decide +kernel : decode cJ3_checkIndex_8e157 16 = .ok (.iload_n 0, 1)) rfl h0 ?_
    exact W.iret hx hb B.returns (fun t ht _ => ⟨rfl, ht⟩) (fun q hq => by cases hq) (by decide +kernel : decode cJ3_checkIndex_8e157 17 = .ok (.ireturn, 1)) B.notSynchronized
  · exfalso
    rw [Int32.lt_iff_toInt_lt] at hn
    omega
theorem rvJ_check0 (v n : Int32) (hv : 0 ≤ v.toInt ∧ v.toInt < n.toInt) : Met l yJ0_checkIndex_df160 (rvJw yJ0_checkIndex_df160 cJ0_checkIndex_df160 2 none) (rvRm 2) (va_Pc [.int v, .int n] (rvPcB A cA D σ sz)) (rvRq none) 0 0 (fun _ => False) := by
  refine Met.ofW (cc := cJ0_checkIndex_df160) (maxL := 2) (ret := none) (by decide) rfl ?_
  intro p e s m args below meth c s₁ B hml hv'
  obtain ⟨rfl, hB⟩ := hv'
  have hts : ∀ w ∈ rvT, w.before _ s = true := fun w hw => atoms_spec (ws := rvJw yJ0_checkIndex_df160 cJ0_checkIndex_df160 2 none) B.pre w (List.mem_cons_of_mem _ hw)
  have hown : s.vm.findClass RJ0 = some m.cls := findClass_of_methodNamed B.named
  have hl := lv_entry [Value.int v, Value.int n] (n := 2) (Nat.le_of_ble_eq_true rfl)
  rw [lg_entry_eq]
  generalize (lg_sl [Value.int v, Value.int n] ++ List.replicate (2 - (lg_sl [Value.int v, Value.int n]).length) Slot.unset).toArray = ls at hl ⊢
  have h0 : ls[0]? = some (.val (.int v)) := hl.2.2 (0, .int v) (by simp [lv_args])
  have h1 : ls[1]? = some (.val (.int n)) := hl.2.2 (1, .int n) (by simp [lv_args, Value.category])
  have hx := B.exec
  have hb := B.bytes
  obtain ⟨q, hq⟩ := hB.2.2.2.2.2.2.2.2.2.2.2.2.2
  have hsz : s.heap.size = sz := hB.1
  refine lv_iload_n (k := 0) hx hb (by decide +kernel : decode cJ0_checkIndex_df160 0 = .ok (.iload_n 0, 1)) rfl h0 ?_
  refine lv_iload_n (k := 1) hx hb (by decide +kernel : decode cJ0_checkIndex_df160 1 = .ok (.iload_n 1, 1)) rfl h1 ?_
  refine va_gets hx hb hq (va_S.rf) hown (hts _ rvJ_w2.2.2.2.2) (fun x hx => hx) (by decide +kernel : decode cJ0_checkIndex_df160 2 = .ok (.getstatic 1053, 3)) ?_
  refine rvPure (r := some (.int v)) (rest := []) (va_runS (As := [.int v, .int n, va_rf q]) ⟨hx, hb, hml, hown, hts⟩ (rvJ_check l A cA D σ sz v n q hv) (va_cwS 3 hts (rvGoodS rvJ_w1.2.2.2 rvJ_w1.2.1 rvJ_w1.2.2.1 rvJ_w1.1) rfl rfl rfl ⟨by decide, by decide, by decide +kernel⟩ ⟨Nat.le_of_ble_eq_true rfl, Nat.le_of_ble_eq_true rfl⟩) ⟨rvPcB_blind, fun U hU hW => ⟨rfl, rvPcB_warm hB hU hW⟩⟩ rfl rfl hl.1 rfl (Nat.le_of_ble_eq_true rfl) (by decide +kernel : decode cJ0_checkIndex_df160 5 = .ok (.invokestatic 1059, 3)) ⟨Nat.zero_le _, Nat.zero_le _⟩) ?_
  refine lv_pop hx hb (va := .int v) (by decide +kernel : decode cJ0_checkIndex_df160 8 = .ok (.pop, 1)) rfl ?_
  exact W.vret hx hb B.returns (fun t ht _ => ⟨rfl, ht⟩) (fun q hq => by cases hq) (by decide +kernel : decode cJ0_checkIndex_df160 9 = .ok (.return_, 1)) B.notSynchronized
theorem rvSb_ok : (List.range 11).all (fun g => (rvSb.getD g []).length == rvSn.getD g 0 && (rvSb.getD g []).all (fun b => ((b &&& 255).toUInt32 % 65536).toInt32 == b)) = true := by decide +kernel
theorem rvSb_at {g j : Nat} (hg : g < 11) (hj : j < rvSn.getD g 0) : (((((rvSb.getD g []).getD j 0) &&& 255).toUInt32) % 65536).toInt32 = (rvSb.getD g []).getD j 0 := by
  have h1 := List.all_eq_true.mp rvSb_ok g (List.mem_range.mpr hg)
  simp only [Bool.and_eq_true, beq_iff_eq] at h1
  generalize rvSb.getD g [] = L at h1 ⊢
  have h2 : L.getD j 0 ∈ L := by
    rw [List.getD_eq_getElem?_getD, List.getElem?_eq_getElem (by omega)]
    exact List.getElem_mem _
  have h3 := List.all_eq_true.mp h1.2 _ h2
  exact eq_of_beq h3
theorem rvSn_lt {g : Nat} (hg : g < 11) : rvSn.getD g 0 < 10 := by
  have h0 : (List.range 11).all (fun g => decide (rvSn.getD g 0 < 10)) = true := by decide +kernel
  exact of_decide_eq_true (List.all_eq_true.mp h0 g (List.mem_range.mpr hg))
theorem rvOfNat_small {n : Nat} (h : n < 2 ^ 31) : (Int32.ofNat n).toInt = (n : Int) := nI_toInt h
theorem rvJ_charAt1 (g : Nat) (hg : g < 11) (v : Int32) (hv : 0 ≤ v.toInt ∧ v.toInt < (rvSn.getD g 0 : Int)) : Met l yJ1_charAt_3b067 (rvJw yJ1_charAt_3b067 cJ1_charAt_3b067 2 (some .char)) (rvRm 3) (va_Pc [.ref (A 107 g), .int v] (rvPcB A cA D σ sz)) (rvRq (some (.int ((rvSb.getD g []).getD v.toInt.toNat 0)))) 0 0 (fun _ => False) := by
  refine Met.ofW (cc := cJ1_charAt_3b067) (maxL := 2) (ret := some .char) (by decide) rfl ?_
  intro p e s m args below meth c s₁ B hml hv'
  obtain ⟨rfl, hB⟩ := hv'
  have hts : ∀ w ∈ rvT, w.before _ s = true := fun w hw => atoms_spec (ws := rvJw yJ1_charAt_3b067 cJ1_charAt_3b067 2 (some .char)) B.pre w (List.mem_cons_of_mem _ hw)
  have hown : s.vm.findClass RJ1 = some m.cls := findClass_of_methodNamed B.named
  have hl := lv_entry [Value.ref (A 107 g), Value.int v] (n := 2) (Nat.le_of_ble_eq_true rfl)
  rw [lg_entry_eq]
  generalize (lg_sl [Value.ref (A 107 g), Value.int v] ++ List.replicate (2 - (lg_sl [Value.ref (A 107 g), Value.int v]).length) Slot.unset).toArray = ls at hl ⊢
  have h0 : ls[0]? = some (.val (.ref (A 107 g))) := hl.2.2 (0, .ref (A 107 g)) (by simp [lv_args])
  have h1 : ls[1]? = some (.val (.int v)) := hl.2.2 (1, .int v) (by simp [lv_args, Value.category])
  have hx := B.exec
  have hb := B.bytes
  have hsz := rvSn_lt hg
  have hT := ((hB.2.2.2.2.2.2.2.1).1 g hg).2.2.2
  refine lv_iload_n (k := 1) hx hb (by decide +kernel : decode cJ1_charAt_3b067 0 = .ok (.iload_n 1, 1)) rfl h1 ?_
  refine lv_aload_n (k := 0) hx hb (by decide +kernel : decode cJ1_charAt_3b067 1 = .ok (.aload_n 0, 1)) rfl h0 ?_
  refine va_tlen hx hb hT va_S.rf rfl (by decide +kernel : decode cJ1_charAt_3b067 2 = .ok (.arraylength, 1)) ?_
  refine rvPure (r := none) (rest := []) (va_runS (As := [.int v, .int (Int32.ofNat (rvSn.getD g 0))]) ⟨hx, hb, hml, hown, hts⟩ (rvJ_check0 l A cA D σ sz v (Int32.ofNat (rvSn.getD g 0)) (by rw [rvOfNat_small (by omega)]; exact hv)) (va_cwS 2 hts (rvGoodS rvJ_w2.2.2.2.1 rvJ_w2.2.1 rvJ_w2.2.2.1 rvJ_w2.1) rfl rfl rfl ⟨by decide, by decide, by decide +kernel⟩ ⟨Nat.le_of_ble_eq_true rfl, Nat.le_of_ble_eq_true rfl⟩) ⟨rvPcB_blind, fun U hU hW => ⟨rfl, rvPcB_warm hB hU hW⟩⟩ rfl rfl hl.1 rfl (Nat.le_of_ble_eq_true rfl) (by decide +kernel : decode cJ1_charAt_3b067 3 = .ok (.invokestatic 9, 3)) ⟨Nat.zero_le _, Nat.zero_le _⟩) ?_
  refine lv_aload_n (k := 0) hx hb (by decide +kernel : decode cJ1_charAt_3b067 6 = .ok (.aload_n 0, 1)) rfl h0 ?_
  refine lv_iload_n (k := 1) hx hb (by decide +kernel : decode cJ1_charAt_3b067 7 = .ok (.iload_n 1, 1)) rfl h1 ?_
  refine va_tb hx hb hT va_S.rf (rvIn hv) rfl (by decide +kernel : decode cJ1_charAt_3b067 8 = .ok (.baload, 1)) ?_
  refine lv_sipush (v := 255) hx hb (by decide +kernel : decode cJ1_charAt_3b067 9 = .ok (.sipush 255, 3)) (by decide +kernel) ?_
  refine lv_iand hx hb (by decide +kernel : decode cJ1_charAt_3b067 12 = .ok (.iand, 1)) ?_
  refine lv_i2c hx hb (by decide +kernel : decode cJ1_charAt_3b067 13 = .ok (.i2c, 1)) (rvSb_at (j := v.toNatClampNeg) hg (by rw [rvCl]; omega)) ?_
  refine W.zret (ty := .char) hx hb B.returns ?_ (fun t ht _ => ⟨rfl, ht⟩) (fun q hq => by cases hq) (by decide +kernel : decode cJ1_charAt_3b067 14 = .ok (.ireturn, 1)) B.notSynchronized
  rw [← rvSb_at (j := v.toNatClampNeg) hg (by rw [rvCl]; omega)]
  exact pk_nc _
theorem rvJ_latin (g : Nat) (hg : g < 11) : Met l yJ0_isLatin1_aae02 (rvJw yJ0_isLatin1_aae02 cJ0_isLatin1_aae02 1 (some .boolean)) (rvRm 0) (va_Pc [.ref (A 106 g)] (rvPcB A cA D σ sz)) (rvRq (some (.int 1))) 0 0 (fun _ => False) := by
  refine Met.ofW (cc := cJ0_isLatin1_aae02) (maxL := 1) (ret := some .boolean) (by decide) rfl ?_
  intro p e s m args below meth c s₁ B hml hv'
  obtain ⟨rfl, hB⟩ := hv'
  have hts : ∀ w ∈ rvT, w.before _ s = true := fun w hw => atoms_spec (ws := rvJw yJ0_isLatin1_aae02 cJ0_isLatin1_aae02 1 (some .boolean)) B.pre w (List.mem_cons_of_mem _ hw)
  have hown : s.vm.findClass RJ0 = some m.cls := findClass_of_methodNamed B.named
  have hl := lv_entry [Value.ref (A 106 g)] (n := 1) (Nat.le_of_ble_eq_true rfl)
  rw [lg_entry_eq]
  generalize (lg_sl [Value.ref (A 106 g)] ++ List.replicate (1 - (lg_sl [Value.ref (A 106 g)]).length) Slot.unset).toArray = ls at hl ⊢
  have h0 : ls[0]? = some (.val (.ref (A 106 g))) := hl.2.2 (0, .ref (A 106 g)) (by simp [lv_args])
  have hx := B.exec
  have hb := B.bytes
  have hst := hB.2.2.2.2
  have hc := (hst.2.2.2.1.1 g hg).2.1
  refine va_gets hx hb hst.2.2.2.2.2.2.2.2.1 va_S.rf hown (hts _ rvJ_w4.2.2.2.2.1) (fun x hx => hx) (by decide +kernel : decode cJ0_isLatin1_aae02 0 = .ok (.getstatic 38, 3)) ?_
  refine lv_if_eq (tgt := 17) hx hb (by decide +kernel : decode cJ0_isLatin1_aae02 3 = .ok (.ifCond .eq 14, 3)) (by decide) (fun h => absurd h (by decide)) (fun _ => ?_)
  refine lv_aload_n (k := 0) hx hb (by decide +kernel : decode cJ0_isLatin1_aae02 6 = .ok (.aload_n 0, 1)) rfl h0 ?_
  refine vk_getf hx hb hc va_S.rf hown (hts _ rvJ_w4.2.2.2.2.2.1) (fun x hx => hx) (by decide +kernel : decode cJ0_isLatin1_aae02 7 = .ok (.getfield 15, 3)) ?_
  refine lv_if_ne (tgt := 17) hx hb (by decide +kernel : decode cJ0_isLatin1_aae02 10 = .ok (.ifCond .ne 7, 3)) (by decide) (fun h => absurd rfl h) (fun _ => ?_)
  refine lv_iconst (v := 1) hx hb (by decide +kernel : decode cJ0_isLatin1_aae02 13 = .ok (.iconst 1, 1)) (by decide) ?_
  refine lv_goto (tgt := 18) hx hb (by decide +kernel : decode cJ0_isLatin1_aae02 14 = .ok (.goto 4, 3)) (by decide) ?_
  exact W.zret (ty := .boolean) hx hb B.returns rfl (fun t ht _ => ⟨rfl, ht⟩) (fun q hq => by cases hq) (by decide +kernel : decode cJ0_isLatin1_aae02 18 = .ok (.ireturn, 1)) B.notSynchronized
theorem rvJ_coder (g : Nat) (hg : g < 11) : Met l yJ0_coder_7d493 (rvJw yJ0_coder_7d493 cJ0_coder_7d493 1 (some .byte)) (rvRm 0) (va_Pc [.ref (A 106 g)] (rvPcB A cA D σ sz)) (rvRq (some (.int 0))) 0 0 (fun _ => False) := by
  refine Met.ofW (cc := cJ0_coder_7d493) (maxL := 1) (ret := some .byte) (by decide) rfl ?_
  intro p e s m args below meth c s₁ B hml hv'
  obtain ⟨rfl, hB⟩ := hv'
  have hts : ∀ w ∈ rvT, w.before _ s = true := fun w hw => atoms_spec (ws := rvJw yJ0_coder_7d493 cJ0_coder_7d493 1 (some .byte)) B.pre w (List.mem_cons_of_mem _ hw)
  have hown : s.vm.findClass RJ0 = some m.cls := findClass_of_methodNamed B.named
  have hl := lv_entry [Value.ref (A 106 g)] (n := 1) (Nat.le_of_ble_eq_true rfl)
  rw [lg_entry_eq]
  generalize (lg_sl [Value.ref (A 106 g)] ++ List.replicate (1 - (lg_sl [Value.ref (A 106 g)]).length) Slot.unset).toArray = ls at hl ⊢
  have h0 : ls[0]? = some (.val (.ref (A 106 g))) := hl.2.2 (0, .ref (A 106 g)) (by simp [lv_args])
  have hx := B.exec
  have hb := B.bytes
  have hst := hB.2.2.2.2
  have hc := (hst.2.2.2.1.1 g hg).2.1
  refine va_gets hx hb hst.2.2.2.2.2.2.2.2.1 va_S.rf hown (hts _ rvJ_w4.2.2.2.2.1) (fun x hx => hx) (by decide +kernel : decode cJ0_coder_7d493 0 = .ok (.getstatic 38, 3)) ?_
  refine lv_if_eq (tgt := 13) hx hb (by decide +kernel : decode cJ0_coder_7d493 3 = .ok (.ifCond .eq 10, 3)) (by decide) (fun h => absurd h (by decide)) (fun _ => ?_)
  refine lv_aload_n (k := 0) hx hb (by decide +kernel : decode cJ0_coder_7d493 6 = .ok (.aload_n 0, 1)) rfl h0 ?_
  refine vk_getf hx hb hc va_S.rf hown (hts _ rvJ_w4.2.2.2.2.2.1) (fun x hx => hx) (by decide +kernel : decode cJ0_coder_7d493 7 = .ok (.getfield 15, 3)) ?_
  refine lv_goto (tgt := 14) hx hb (by decide +kernel : decode cJ0_coder_7d493 10 = .ok (.goto 4, 3)) (by decide) ?_
  exact W.zret (ty := .byte) hx hb B.returns rfl (fun t ht _ => ⟨rfl, ht⟩) (fun q hq => by cases hq) (by decide +kernel : decode cJ0_coder_7d493 14 = .ok (.ireturn, 1)) B.notSynchronized
theorem rvJ_length (g : Nat) (hg : g < 11) : Met l yJ0_length_8abf5 (rvJw yJ0_length_8abf5 cJ0_length_8abf5 1 (some .int)) (rvRm 8) (va_Pc [.ref (A 106 g)] (rvPcB A cA D σ sz)) (rvRq (some (.int (Int32.ofNat (rvSn.getD g 0))))) 0 0 (fun _ => False) := by
  refine Met.ofW (cc := cJ0_length_8abf5) (maxL := 1) (ret := some .int) (by decide) rfl ?_
  intro p e s m args below meth c s₁ B hml hv'
  obtain ⟨rfl, hB⟩ := hv'
  have hts : ∀ w ∈ rvT, w.before _ s = true := fun w hw => atoms_spec (ws := rvJw yJ0_length_8abf5 cJ0_length_8abf5 1 (some .int)) B.pre w (List.mem_cons_of_mem _ hw)
  have hown : s.vm.findClass RJ0 = some m.cls := findClass_of_methodNamed B.named
  have hl := lv_entry [Value.ref (A 106 g)] (n := 1) (Nat.le_of_ble_eq_true rfl)
  rw [lg_entry_eq]
  generalize (lg_sl [Value.ref (A 106 g)] ++ List.replicate (1 - (lg_sl [Value.ref (A 106 g)]).length) Slot.unset).toArray = ls at hl ⊢
  have h0 : ls[0]? = some (.val (.ref (A 106 g))) := hl.2.2 (0, .ref (A 106 g)) (by simp [lv_args])
  have hx := B.exec
  have hb := B.bytes
  have hst := hB.2.2.2.2
  have hS := (hst.2.2.2.1.1 g hg)
  have hrc := vk_recv hst.2.2.2.1 hg (va_S.rf (A := rvAd A sz) (H0 := s.heap))
  refine lv_aload_n (k := 0) hx hb (by decide +kernel : decode cJ0_length_8abf5 0 = .ok (.aload_n 0, 1)) rfl h0 ?_
  refine vk_getf hx hb hS.2.2.1 va_S.rf hown (hts _ rvJ_w4.2.2.2.2.2.2) (fun x hx => hx) (by decide +kernel : decode cJ0_length_8abf5 1 = .ok (.getfield 9, 3)) ?_
  refine va_tlen hx hb hS.2.2.2 va_S.rf rfl (by decide +kernel : decode cJ0_length_8abf5 4 = .ok (.arraylength, 1)) ?_
  refine lv_aload_n (k := 0) hx hb (by decide +kernel : decode cJ0_length_8abf5 5 = .ok (.aload_n 0, 1)) rfl h0 ?_
  refine rvPure (r := some (.int 0)) (rest := [.int (Int32.ofNat (rvSn.getD g 0))]) (va_runV (As := []) (C := RJ0) ⟨hx, hb, hml, hown, hts⟩ (rvJ_coder l A cA D σ sz g hg) (cwV 0 hts (rvGoodV rvJ_w5.2.2.2 rvJ_w5.2.1 rvJ_w5.2.2.1 rvJ_w2.2.2.1 rvJ_w5.1) rfl rfl rfl ⟨rfl, by decide, by decide, by decide +kernel⟩ ⟨Nat.le_of_ble_eq_true rfl, Nat.le_of_ble_eq_true rfl⟩) ⟨rvPcB_blind, hrc, fun U hU hW => ⟨rfl, rvPcB_warm hB hU hW⟩⟩ rfl rfl hl.1 rfl (Nat.le_of_ble_eq_true rfl) (by decide +kernel : decode cJ0_length_8abf5 6 = .ok (.invokevirtual 335, 3)) ⟨Nat.zero_le _, Nat.zero_le _⟩) ?_
  refine lv_ishr hx hb (by decide +kernel : decode cJ0_length_8abf5 9 = .ok (.ishr, 1)) ?_
  have e0 : Int32.ofNat (rvSn.getD g 0) >>> ((0 : Int32) &&& 31) = Int32.ofNat (rvSn.getD g 0) := by
    have h0 : (List.range 11).all (fun g => Int32.ofNat (rvSn.getD g 0) >>> ((0 : Int32) &&& 31) == Int32.ofNat (rvSn.getD g 0)) = true := by decide +kernel
    exact eq_of_beq (List.all_eq_true.mp h0 g (List.mem_range.mpr hg))
  rw [e0]
  exact W.iret hx hb B.returns (fun t ht _ => ⟨rfl, ht⟩) (fun q hq => by cases hq) (by decide +kernel : decode cJ0_length_8abf5 10 = .ok (.ireturn, 1)) B.notSynchronized
theorem rvJ_charAt (g : Nat) (hg : g < 11) (v : Int32) (hv : 0 ≤ v.toInt ∧ v.toInt < (rvSn.getD g 0 : Int)) : Met l yJ0_charAt_5068e (rvJw yJ0_charAt_5068e cJ0_charAt_5068e 2 (some .char)) (rvRm 8) (va_Pc [.ref (A 106 g), .int v] (rvPcB A cA D σ sz)) (rvRq (some (.int ((rvSb.getD g []).getD v.toInt.toNat 0)))) 0 0 (fun _ => False) := by
  refine Met.ofW (cc := cJ0_charAt_5068e) (maxL := 2) (ret := some .char) (by decide) rfl ?_
  intro p e s m args below meth c s₁ B hml hv'
  obtain ⟨rfl, hB⟩ := hv'
  have hts : ∀ w ∈ rvT, w.before _ s = true := fun w hw => atoms_spec (ws := rvJw yJ0_charAt_5068e cJ0_charAt_5068e 2 (some .char)) B.pre w (List.mem_cons_of_mem _ hw)
  have hown : s.vm.findClass RJ0 = some m.cls := findClass_of_methodNamed B.named
  have hl := lv_entry [Value.ref (A 106 g), Value.int v] (n := 2) (Nat.le_of_ble_eq_true rfl)
  rw [lg_entry_eq]
  generalize (lg_sl [Value.ref (A 106 g), Value.int v] ++ List.replicate (2 - (lg_sl [Value.ref (A 106 g), Value.int v]).length) Slot.unset).toArray = ls at hl ⊢
  have h0 : ls[0]? = some (.val (.ref (A 106 g))) := hl.2.2 (0, .ref (A 106 g)) (by simp [lv_args])
  have h1 : ls[1]? = some (.val (.int v)) := hl.2.2 (1, .int v) (by simp [lv_args, Value.category])
  have hx := B.exec
  have hb := B.bytes
  have hst := hB.2.2.2.2
  have hS := (hst.2.2.2.1.1 g hg)
  have hrc := vk_recv hst.2.2.2.1 hg (va_S.rf (A := rvAd A sz) (H0 := s.heap))
  have hj : v.toInt.toNat < rvSn.getD g 0 := by omega
  refine lv_aload_n (k := 0) hx hb (by decide +kernel : decode cJ0_charAt_5068e 0 = .ok (.aload_n 0, 1)) rfl h0 ?_
  refine rvPure (r := some (.int 1)) (rest := []) (va_runV (As := []) (C := RJ0) ⟨hx, hb, hml, hown, hts⟩ (rvJ_latin l A cA D σ sz g hg) (cwV 0 hts (rvGoodV rvJ_w4.2.2.2.1 rvJ_w4.2.1 rvJ_w4.2.2.1 rvJ_w2.2.2.1 rvJ_w4.1) rfl rfl rfl ⟨rfl, by decide, by decide, by decide +kernel⟩ ⟨Nat.le_of_ble_eq_true rfl, Nat.le_of_ble_eq_true rfl⟩) ⟨rvPcB_blind, hrc, fun U hU hW => ⟨rfl, rvPcB_warm hB hU hW⟩⟩ rfl rfl hl.1 rfl (Nat.le_of_ble_eq_true rfl) (by decide +kernel : decode cJ0_charAt_5068e 1 = .ok (.invokevirtual 492, 3)) ⟨Nat.zero_le _, Nat.zero_le _⟩) ?_
  refine lv_if_eq (tgt := 16) hx hb (by decide +kernel : decode cJ0_charAt_5068e 4 = .ok (.ifCond .eq 12, 3)) (by decide) (fun h => absurd h (by decide)) (fun _ => ?_)
  refine lv_aload_n (k := 0) hx hb (by decide +kernel : decode cJ0_charAt_5068e 7 = .ok (.aload_n 0, 1)) rfl h0 ?_
  refine vk_getf hx hb hS.2.2.1 va_S.rf hown (hts _ rvJ_w4.2.2.2.2.2.2) (fun x hx => hx) (by decide +kernel : decode cJ0_charAt_5068e 8 = .ok (.getfield 9, 3)) ?_
  refine lv_iload_n (k := 1) hx hb (by decide +kernel : decode cJ0_charAt_5068e 11 = .ok (.iload_n 1, 1)) rfl h1 ?_
  refine rvPure (r := some (.int ((rvSb.getD g []).getD v.toInt.toNat 0))) (rest := []) (va_runS (As := [.ref (A 107 g), .int v]) ⟨hx, hb, hml, hown, hts⟩ (rvJ_charAt1 l A cA D σ sz g hg v hv) (va_cwS 2 hts (rvGoodS rvJ_w3.2.2.2 rvJ_w3.2.1 rvJ_w3.2.2.1 rvJ_w3.1) rfl rfl rfl ⟨by decide, by decide, by decide +kernel⟩ ⟨Nat.le_of_ble_eq_true rfl, Nat.le_of_ble_eq_true rfl⟩) ⟨rvPcB_blind, fun U hU hW => ⟨rfl, rvPcB_warm hB hU hW⟩⟩ rfl rfl hl.1 rfl (Nat.le_of_ble_eq_true rfl) (by decide +kernel : decode cJ0_charAt_5068e 12 = .ok (.invokestatic 495, 3)) ⟨Nat.zero_le _, Nat.zero_le _⟩) ?_
  refine W.zret (ty := .char) hx hb B.returns ?_ (fun t ht _ => ⟨rfl, ht⟩) (fun q hq => by cases hq) (by decide +kernel : decode cJ0_charAt_5068e 15 = .ok (.ireturn, 1)) B.notSynchronized
  rw [← rvSb_at hg hj]
  exact pk_nc _
theorem rvStr : rvStrLaw l := fun A cA D σ sz g hg => ⟨rvJ_length l A cA D σ sz g hg, fun v hv => rvJ_charAt l A cA D σ sz g hg v hv⟩
end RvJ
