-- the machine follows the small machine: Math, System.arraycopy
def rvBn : Nat → MethodName
  | 0 => Lib.Math.min.name
  | 1 => Lib.Math.max.name
  | 2 => Lib.MathLoose.max_long.x
  | 3 => Lib.MathLoose.min_long.x
  | 4 => arraycopyName
  | 5 => yJ0_length_8abf5
  | _ => yJ0_charAt_5068e
set_option maxRecDepth 100000 in
theorem rvLb_ok : rvLb.all (fun e => rvAtT e.2.2.2 (.methodLink (rvCn.getD e.1 "") e.2.1 (rvBn e.2.2.1))) = true := by decide +kernel
theorem rvLb_use {o c a : Nat} (h : rvInM rvLb o c a = true) : Cond.methodLink (rvCn.getD o "") c (rvBn a) ∈ rvT := by
  obtain ⟨e, he, h1⟩ := List.any_eq_true.mp h
  simp only [Bool.and_eq_true, beq_iff_eq] at h1
  obtain ⟨rfl, rfl, rfl⟩ := h1
  exact rvAtT_in (List.all_eq_true.mp rvLb_ok e he)
theorem rvT_dec {w : Cond} (h : decide (w ∈ lw_tbl) && goodWord w = true) : w ∈ rvT := by
  simp only [Bool.and_eq_true, decide_eq_true_eq] at h
  exact List.mem_filter.mpr h
set_option maxRecDepth 100000 in
theorem rvB_w0 : Cond.static Lib.Math.min.name ∈ rvT ∧ Cond.initialized "java/lang/Math" ∈ rvT ∧ Cond.code Lib.Math.min.name Lib.Math.min.code 2 (some .int) ∈ rvT := ⟨rvT_dec (by decide +kernel), rvT_dec (by decide +kernel), rvT_dec (by decide +kernel)⟩
set_option maxRecDepth 100000 in
theorem rvB_w1 : Cond.static Lib.Math.max.name ∈ rvT ∧ Cond.code Lib.Math.max.name Lib.Math.max.code 2 (some .int) ∈ rvT := ⟨rvT_dec (by decide +kernel), rvT_dec (by decide +kernel)⟩
set_option maxRecDepth 100000 in
theorem rvB_w2 : Cond.static Lib.MathLoose.max_long.x ∈ rvT ∧ Cond.code Lib.MathLoose.max_long.x Lib.MathLoose.max_long.code 4 (some .long) ∈ rvT := ⟨rvT_dec (by decide +kernel), rvT_dec (by decide +kernel)⟩
set_option maxRecDepth 100000 in
theorem rvB_w3 : Cond.static Lib.MathLoose.min_long.x ∈ rvT ∧ Cond.code Lib.MathLoose.min_long.x Lib.MathLoose.min_long.code 4 (some .long) ∈ rvT := ⟨rvT_dec (by decide +kernel), rvT_dec (by decide +kernel)⟩
set_option maxRecDepth 100000 in
theorem rvB_w4 : Cond.native arraycopyName ∈ rvT ∧ Cond.static arraycopyName ∈ rvT ∧ Cond.initialized "java/lang/System" ∈ rvT := ⟨rvT_dec (by decide +kernel), rvT_dec (by decide +kernel), rvT_dec (by decide +kernel)⟩
theorem rvCp_1 (σ : rvS) (k n i k2 n2 j m : Nat) : (rvCp σ k n i k2 n2 j m).1 k2 n2 = va_cpy (σ.1 k n) (σ.1 k2 n2) i j m := by
  funext j'
  simp only [rvCp, va_cpy, true_and]
theorem rvCp_o {σ : rvS} {k n i k2 n2 j m : Nat} {k' n' : Nat} (h : ¬ (k' = k2 ∧ n' = n2)) : (rvCp σ k n i k2 n2 j m).1 k' n' = σ.1 k' n' := by
  funext j'
  simp only [rvCp]
  rw [if_neg (fun q => h ⟨q.1, q.2.1⟩)]
theorem rvEnt_Cp {A : Nat → Nat → Nat} {cA : Nat → ClassId} {σ : rvS} {k n i k2 n2 j m : Nat} : ∀ q : Nat × Nat, q ≠ (k2, n2) → rvEnt A cA (rvCp σ k n i k2 n2 j m) q = rvEnt A cA σ q :=
  fun q hq => rvEnt_cong (rvCp_o (fun h => hq (Prod.ext h.1 h.2))) rfl
section RvPure
variable {p : Program} {l : Launch} {e : Env} {R : Room} {s : State} {m : MethodId} {args : Array Value} {below : List Frame} {meth : Method} {c : Code} {H : Heap} {locs : List Loc} {nc ns : Nat} {Q : State → Prop} {pc : Nat} {ls : Array Slot} {st0 rest : List Value}
theorem rvPure {r : Option Value} (hr : va_Run p l e R s m args below meth c H locs nc ns 0 0 (F0 m pc ls st0) rest (fun st o t => o = .returned r ∧ t.heap = st.heap) (fun _ => False)) (kk : W p l e R s m args below meth c H locs nc ns Q (F0 m (pc + 3) ls (r.toList ++ rest))) : W p l e R s m args below meth c H locs nc ns Q (F0 m pc ls st0) := by
  intro T hT X
  obtain ⟨v, st₀, t, T', L, h0, X', hL, e1, e2, ⟨hv, hh⟩, st⟩ := hr T hT X
  cases hv
  have hLn : L = [] := List.eq_nil_iff_forall_not_mem.mpr (fun q hq => hL q hq)
  subst hLn
  rw [List.append_nil] at X'
  obtain ⟨t2, a1, b1⟩ := kk T' (by rw [e1, hh, h0]) X'
  exact ⟨t2, st t2 a1, b1⟩
end RvPure
theorem rvPcB_warm {A : Nat → Nat → Nat} {cA : Nat → ClassId} {D : va_G} {σ : rvS} {sz : Nat} {s U : State} (h : rvPcB A cA D σ sz s) (hU : U.heap = s.heap) (hW : s.WarmedH U.vm) : rvPcB A cA D σ sz U := by
  obtain ⟨h1, h2, h3, h4, h5⟩ := h
  refine ⟨by rw [hU]; exact h1, by rw [hU]; exact h2, va_K.moved hW.alike h3, h4, ?_⟩
  rw [hU]
  exact rvStat_warm hW h5
theorem rvPcB_blind {A : Nat → Nat → Nat} {cA : Nat → ClassId} {D : va_G} {σ : rvS} {sz : Nat} {as : List Value} : FrameBlind (va_Pc as (rvPcB A cA D σ sz)) := by
  intro a' U g mk q
  obtain ⟨q1, q2, q3, q4, q5, q6⟩ := q
  exact ⟨q1, q2, q3, va_K.moved (u := U) (U := U.calling g mk a') (Vm.Alike.refl U.vm) q4, q5, rvStat_same (u := U) (U := U.calling g mk a') rfl q6⟩
theorem rvGoodJ {w : Cond} (h : w ∈ rvT) : GoodIn rvT (w :: rvT) := fun v hv => by
  rcases List.mem_cons.mp hv with rfl | hv
  · exact rvT_good _ h
  · exact rvT_good _ hv
theorem rvGoodS {own : String} {idx : Nat} {y : MethodName} {w : Cond} (h1 : Cond.methodLink own idx y ∈ rvT) (h2 : Cond.static y ∈ rvT) (h3 : Cond.initialized y.cls ∈ rvT) (h4 : w ∈ rvT) : GoodIn rvT (va_wsS own idx y (w :: rvT)) := fun v hv => by
  rcases List.mem_append.mp (show v ∈ ([.methodLink own idx y, .static y, .initialized y.cls] : List Cond) ++ (w :: rvT) from hv) with hv | hv
  · refine rvT_good v ?_
    simp only [List.mem_cons, List.not_mem_nil, or_false] at hv
    rcases hv with rfl | rfl | rfl <;> assumption
  · exact rvGoodJ h4 v hv
theorem rvGoodV {own C : String} {idx : Nat} {y : MethodName} {w : Cond} (h1 : Cond.methodLink own idx y ∈ rvT) (h2 : Cond.instanceMethod y ∈ rvT) (h3 : Cond.selects C y y ∈ rvT) (h4 : Cond.initialized C ∈ rvT) (h5 : w ∈ rvT) : GoodIn rvT (wsV own idx C y (w :: rvT)) := fun v hv => by
  rcases List.mem_append.mp (show v ∈ ([.methodLink own idx y, .instanceMethod y, .selects C y y, .initialized C] : List Cond) ++ (w :: rvT) from hv) with hv | hv
  · refine rvT_good v ?_
    simp only [List.mem_cons, List.not_mem_nil, or_false] at hv
    rcases hv with rfl | rfl | rfl | rfl <;> assumption
  · exact rvGoodJ h5 v hv
/-- the two members of String: what they answer on a constant -/
def rvStrLaw (l : Launch) : Prop := ∀ (A : Nat → Nat → Nat) (cA : Nat → ClassId) (D : va_G) (σ : rvS) (sz g : Nat), g < 11 →
  Met l yJ0_length_8abf5 (.code yJ0_length_8abf5 cJ0_length_8abf5 1 (some .int) :: rvT) (rvRm 8) (va_Pc [.ref (A 106 g)] (rvPcB A cA D σ sz)) (fun _ st o t => o = .returned (some (.int (Int32.ofNat (rvSn.getD g 0)))) ∧ t.heap = st.heap) 0 0 (fun _ => False) ∧
  ∀ v : Int32, 0 ≤ v.toInt ∧ v.toInt < (rvSn.getD g 0 : Int) → Met l yJ0_charAt_5068e (.code yJ0_charAt_5068e cJ0_charAt_5068e 2 (some .char) :: rvT) (rvRm 8) (va_Pc [.ref (A 106 g), .int v] (rvPcB A cA D σ sz)) (fun _ st o t => o = .returned (some (.int ((rvSb.getD g []).getD v.toInt.toNat 0))) ∧ t.heap = st.heap) 0 0 (fun _ => False)
set_option maxRecDepth 100000 in
theorem rvB_w5 : Cond.instanceMethod yJ0_length_8abf5 ∈ rvT ∧ Cond.selects "java/lang/String" yJ0_length_8abf5 yJ0_length_8abf5 ∈ rvT ∧ Cond.initialized "java/lang/String" ∈ rvT ∧ Cond.code yJ0_length_8abf5 cJ0_length_8abf5 1 (some .int) ∈ rvT := ⟨rvT_dec (by decide +kernel), rvT_dec (by decide +kernel), rvT_dec (by decide +kernel), rvT_dec (by decide +kernel)⟩
set_option maxRecDepth 100000 in
theorem rvB_w6 : Cond.instanceMethod yJ0_charAt_5068e ∈ rvT ∧ Cond.selects "java/lang/String" yJ0_charAt_5068e yJ0_charAt_5068e ∈ rvT ∧ Cond.code yJ0_charAt_5068e cJ0_charAt_5068e 2 (some .char) ∈ rvT := ⟨rvT_dec (by decide +kernel), rvT_dec (by decide +kernel), rvT_dec (by decide +kernel)⟩
section RvBu
variable {l : Launch} {F : Nat}
theorem rvC_28 (hF : rvHyp l F) (hS9 : rvStrLaw l) : rvCase l F 28 := by
  intro d i n als ast σ Q a b c tb hi hck h p e R s m args below meth cd A cA D σ0 nc ns hE H locs ls hS
  obtain ⟨s1, s2, s3, s4, s5, s6, s7⟩ := hS
  replace h : rvB_28 (rvWp F) d i n als ast σ Q a b c tb := h
  unfold rvB_28 at h
  obtain ⟨hd10, h⟩ := h
  split at h
  · rename_i y v r
    obtain ⟨hcat, h⟩ := h
    have hk := hF d i (n + 1) als _ σ Q hi h p e R s m args below meth cd A cA D σ0 nc ns hE H locs ls ⟨s1, s2, s3, s4, List.forall_mem_cons.mpr ⟨trivial, fun w hw => s5 w (by simp [hw])⟩, s6, s7⟩
    obtain ⟨hx, hb, hr, hlk2, hml, hown, hts, hR, hK, hst⟩ := hE
    simp only [rvCk, Bool.and_eq_true] at hck
    obtain ⟨hd, hn⟩ := rvD_of hck.1
    rw [hn] at hk
    refine va_mmin hx hb (hml.trans s4.1.symm) hown (hts _ (rvLb_use hck.2)) (hts _ rvB_w0.1) (hts _ rvB_w0.2.1) (hts _ rvB_w0.2.2) (by omega) (by rw [rvCat_tr]; omega) hR.2.2.1 hR.2.2.2 hd ?_
    have e : (if y < v then y else v) = (if v < y then v else y) := by
      by_cases h1 : y < v
      · rw [if_pos h1, if_neg (by rw [Int32.lt_iff_toInt_lt] at h1 ⊢; omega)]
      · by_cases h2 : v < y
        · rw [if_neg h1, if_pos h2]
        · rw [if_neg h1, if_neg h2]
          rw [Int32.lt_iff_toInt_lt] at h1 h2
          exact Int32.toInt_inj.mp (by omega)
    rw [e]
    exact hk
  · rename_i y v r
    obtain ⟨hcat, h⟩ := h
    have hk := hF d i (n + 1) als _ σ Q hi h p e R s m args below meth cd A cA D σ0 nc ns hE H locs ls ⟨s1, s2, s3, s4, List.forall_mem_cons.mpr ⟨trivial, fun w hw => s5 w (by simp [hw])⟩, s6, s7⟩
    obtain ⟨hx, hb, hr, hlk2, hml, hown, hts, hR, hK, hst⟩ := hE
    simp only [rvCk, Bool.and_eq_true] at hck
    obtain ⟨hd, hn⟩ := rvD_of hck.1
    rw [hn] at hk
    exact va_mmax hx hb (hml.trans s4.1.symm) hown (hts _ (rvLb_use hck.2)) (hts _ rvB_w1.1) (hts _ rvB_w0.2.1) (hts _ rvB_w1.2) (by omega) (by rw [rvCat_tr]; omega) hR.2.2.1 hR.2.2.2 hd hk
  · rename_i y v r
    obtain ⟨hcat, h⟩ := h
    have hk := hF d i (n + 1) als _ σ Q hi h p e R s m args below meth cd A cA D σ0 nc ns hE H locs ls ⟨s1, s2, s3, s4, List.forall_mem_cons.mpr ⟨trivial, fun w hw => s5 w (by simp [hw])⟩, s6, s7⟩
    obtain ⟨hx, hb, hr, hlk2, hml, hown, hts, hR, hK, hst⟩ := hE
    simp only [rvCk, Bool.and_eq_true] at hck
    obtain ⟨hd, hn⟩ := rvD_of hck.1
    rw [hn] at hk
    exact va_mmax_long hx hb (hml.trans s4.1.symm) hown (hts _ (rvLb_use hck.2)) (hts _ rvB_w2.1) (hts _ rvB_w0.2.1) (hts _ rvB_w2.2) (by omega) (by rw [rvCat_tr]; omega) hR.2.2.1 hR.2.2.2 hd hk
  · rename_i y v r
    obtain ⟨hcat, h⟩ := h
    have hk := hF d i (n + 1) als _ σ Q hi h p e R s m args below meth cd A cA D σ0 nc ns hE H locs ls ⟨s1, s2, s3, s4, List.forall_mem_cons.mpr ⟨trivial, fun w hw => s5 w (by simp [hw])⟩, s6, s7⟩
    obtain ⟨hx, hb, hr, hlk2, hml, hown, hts, hR, hK, hst⟩ := hE
    simp only [rvCk, Bool.and_eq_true] at hck
    obtain ⟨hd, hn⟩ := rvD_of hck.1
    rw [hn] at hk
    exact va_mmin_long hx hb (hml.trans s4.1.symm) hown (hts _ (rvLb_use hck.2)) (hts _ rvB_w3.1) (hts _ rvB_w0.2.1) (hts _ rvB_w3.2) (by omega) (by rw [rvCat_tr]; omega) hR.2.2.1 hR.2.2.2 hd hk
  · rename_i mm j k2 h2 v k g r
    obtain ⟨hcat, ⟨ht, ht2⟩, ⟨q1, q2, q3, q4, q5⟩, h⟩ := h
    have hok : g < (rvK k).2.2 := s5 (.inr (.inr (k, g))) (by simp)
    have hok2 : h2 < (rvK k2).2.2 := s5 (.inr (.inr (k2, h2))) (by simp)
    have hk5 := rvK_hi (k := k2) (by omega)
    rw [rvLen_of (by omega)] at q4
    rw [rvLen_of (by omega)] at q5
    obtain ⟨p0, -, hw⟩ := rvWs_get A cA σ (rvK_hi (k := k) (by omega)) hok
    rw [rvEnt_1 ht] at hw
    obtain ⟨p1, h01, hw1⟩ := rvWs_get A cA σ hk5 hok2
    rw [rvEnt_1 ht2] at hw1
    have hset : (rvWs A cA σ).set p1 (A k2 h2, .inl (cA 1, (rvK k2).2.1, .inl (va_cpy (σ.1 k g) (σ.1 k2 h2) v.toNatClampNeg j.toNatClampNeg mm.toNatClampNeg))) = rvWs A cA (rvCp σ k g v.toInt.toNat k2 h2 j.toInt.toNat mm.toInt.toNat) :=
      rvWs_set s2 h01 (by rw [rvEnt_1 ht2, rvCp_1]; rfl) rvEnt_Cp
    have h108 : (rvCp σ k g v.toInt.toNat k2 h2 j.toInt.toNat mm.toInt.toNat).1 108 = σ.1 108 := by
      funext n'
      exact rvCp_o (fun q => by omega)
    have hk := fun H1 locs1 (a1 : va_P D vwCl (rvWs A cA (rvCp σ k g v.toInt.toNat k2 h2 j.toInt.toNat mm.toInt.toNat)) H1) (a2 : va_D (rvAd A s.heap.size) (rvWs A cA (rvCp σ k g v.toInt.toNat k2 h2 j.toInt.toNat mm.toInt.toNat))) (a3 : va_S (rvAd A s.heap.size) s.heap H1 locs1) => hF d i (n + 1) als r _ Q hi h p e R s m args below meth cd A cA D σ0 nc ns hE H1 locs1 ls ⟨a1, a2, a3, s4, fun w hw => s5 w (by simp [hw]), s6, h108.trans s7⟩
    obtain ⟨hx, hb, hr, hlk2, hml, hown, hts, hR, hK, hst⟩ := hE
    simp only [rvCk, Bool.and_eq_true] at hck
    obtain ⟨hd, hn⟩ := rvD_of hck.1
    rw [hn] at hk
    have nn : ∀ z : Int32, 0 ≤ z.toInt → ¬ z < 0 := fun z hz hl => by
      rw [Int32.lt_iff_toInt_lt] at hl
      have : (0 : Int32).toInt = 0 := rfl
      omega
    have cl : ∀ z : Int32, 0 ≤ z.toInt → (z.toNatClampNeg : Int) = z.toInt := fun z hz => by rw [rvCl]; omega
    have c1 := cl v q1
    have c2 := cl j q2
    have c3 := cl mm q3
    refine va_copyi (ty := .int) hx hb (hml.trans s4.1.symm) hown (hts _ (rvLb_use hck.2)) (hts _ rvB_w4.1) (hts _ rvB_w4.2.1) (hts _ rvB_w4.2.2) hK s1 s2 s3 p0 p1 0 0 hw hw1 (rvTys_get cA (t := 1) (by decide) (by decide)) (rvTys_get cA (t := 1) (by decide) (by decide)) rfl (nn v q1) (nn j q2) (nn mm q3) (by omega) (by omega) (fun _ _ => rfl) (by omega) ?_ hd (fun H1 locs1 a1 a2 a3 => ?_)
    · rw [rvCat_tr]
      have : nativeFrameWords "java/lang/System" "arraycopy" 5 ≤ 100 := by decide +kernel
      omega
    · rw [hset] at a1 a2
      exact hk H1 locs1 a1 a2 a3
  · rename_i k g r
    obtain ⟨rfl, hcat, h⟩ := h
    have hg : g < 11 := s5 (.inr (.inr (106, g))) (by simp)
    have hk := hF d i (n + 1) als _ σ Q hi h p e R s m args below meth cd A cA D σ0 nc ns hE H locs ls ⟨s1, s2, s3, s4, List.forall_mem_cons.mpr ⟨trivial, fun w hw => s5 w (by simp [hw])⟩, s6, s7⟩
    obtain ⟨hx, hb, hr, hlk2, hml, hown, hts, hR, hK, hst⟩ := hE
    simp only [rvCk, Bool.and_eq_true] at hck
    obtain ⟨hd, hn⟩ := rvD_of hck.1
    rw [hn] at hk
    have hAi : ∀ q, rvAd A H.size q → rvAd A s.heap.size q := rvAd_in s2 (fun q hq => Or.inr (Nat.le_trans s3.1 hq))
    have hpc : ∀ U : State, U.heap = H → s.WarmedH U.vm → rvPcB A cA D σ H.size U := by
      intro U hU hW
      subst hU
      exact ⟨rfl, s1, va_K.moved hW.alike hK, rvAd_self s2, rvStat_warm hW (rvStat_narrow (rvStat_kept (rvStat_sig hst s7) (fun a h1 h2 => s3.2.1 a h1 h2)) hAi)⟩
    refine rvPure (r := some (.int (Int32.ofNat (rvSn.getD g 0)))) (rest := r.map (rvTr A)) (va_runV (As := []) (C := "java/lang/String") ⟨hx, hb, hml, hown, hts⟩ (hS9 A cA D σ H.size g hg).1 (cwV 0 hts (rvGoodV (rvLb_use hck.2) rvB_w5.1 rvB_w5.2.1 rvB_w5.2.2.1 rvB_w5.2.2.2) rfl rfl rfl ⟨rfl, by decide, by decide, by decide +kernel⟩ ⟨by show 8 + 1 ≤ _; omega, by show 8 + (1 + 11) + 64 * 8 ≤ _; omega⟩) ⟨rvPcB_blind, vk_recv hst.2.2.2.1 hg s3, fun U hU hW => ⟨rfl, hpc U hU hW⟩⟩ rfl rfl s4.1 rfl (by rw [rvCat_tr]; show 2 * 0 + _ ≤ 8; omega) hd ⟨hR.2.2.1, hR.2.2.2⟩) hk
  · rename_i v k g r
    obtain ⟨rfl, hcat, hv, h⟩ := h
    have hg : g < 11 := s5 (.inr (.inr (106, g))) (by simp)
    have hk := hF d i (n + 1) als _ σ Q hi h p e R s m args below meth cd A cA D σ0 nc ns hE H locs ls ⟨s1, s2, s3, s4, List.forall_mem_cons.mpr ⟨trivial, fun w hw => s5 w (by simp [hw])⟩, s6, s7⟩
    obtain ⟨hx, hb, hr, hlk2, hml, hown, hts, hR, hK, hst⟩ := hE
    simp only [rvCk, Bool.and_eq_true] at hck
    obtain ⟨hd, hn⟩ := rvD_of hck.1
    rw [hn] at hk
    have hAi : ∀ q, rvAd A H.size q → rvAd A s.heap.size q := rvAd_in s2 (fun q hq => Or.inr (Nat.le_trans s3.1 hq))
    have hpc : ∀ U : State, U.heap = H → s.WarmedH U.vm → rvPcB A cA D σ H.size U := by
      intro U hU hW
      subst hU
      exact ⟨rfl, s1, va_K.moved hW.alike hK, rvAd_self s2, rvStat_warm hW (rvStat_narrow (rvStat_kept (rvStat_sig hst s7) (fun a h1 h2 => s3.2.1 a h1 h2)) hAi)⟩
    refine rvPure (r := some (.int ((rvSb.getD g []).getD v.toInt.toNat 0))) (rest := r.map (rvTr A)) (va_runV (As := [.int v]) (C := "java/lang/String") ⟨hx, hb, hml, hown, hts⟩ ((hS9 A cA D σ H.size g hg).2 v hv) (cwV 1 hts (rvGoodV (rvLb_use hck.2) rvB_w6.1 rvB_w6.2.1 rvB_w5.2.2.1 rvB_w6.2.2) rfl rfl rfl ⟨rfl, by decide, by decide, by decide +kernel⟩ ⟨by show 8 + 1 ≤ _; omega, by show 8 + (2 + 11) + 64 * 8 ≤ _; omega⟩) ⟨rvPcB_blind, vk_recv hst.2.2.2.1 hg s3, fun U hU hW => ⟨rfl, hpc U hU hW⟩⟩ rfl rfl s4.1 rfl (by rw [rvCat_tr]; show 2 * 0 + _ ≤ 8; omega) hd ⟨hR.2.2.1, hR.2.2.2⟩) hk
  · exact h.elim
end RvBu
