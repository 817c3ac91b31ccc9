-- the machine follows the small machine: stores, arrays, the stack, branches
theorem rvFs_set {A : Nat → Nat → Nat} {σ : rvS} {k n b N : Nat} {v : Int32} (hb : b < N) (h2 : ¬ rvFt k b = 2) : ((List.range N).map (fun j => rvFv A σ k n j)).set b (.int v) = (List.range N).map (fun j => rvFv A (rvU σ k n b v) k n j) := by
  apply List.ext_getElem?
  intro j
  by_cases hj : j = b
  · subst hj
    rw [List.getElem?_set_self (by simpa using hb), List.getElem?_map, List.getElem?_range hb]
    simp only [Option.map_some]
    unfold rvFv
    split
    · rename_i e; exact absurd e h2
    · rw [rvU_1, upd]; simp
  · rw [List.getElem?_set_ne (Ne.symm hj), List.getElem?_map, List.getElem?_map]
    by_cases hjN : j < N
    · rw [List.getElem?_range hjN]
      simp only [Option.map_some]
      unfold rvFv
      split
      · rfl
      · rw [rvU_1, upd, if_neg hj]
    · rw [List.getElem?_eq_none (by simpa using hjN)]
      rfl
theorem rvK_11 {k : Nat} (h : (rvK k).1 = 11) : k = 108 := by
  by_cases hk : k < 109
  · have h0 : (List.range 109).all (fun k => decide ((rvK k).1 = 11 → k = 108)) = true := by decide +kernel
    exact of_decide_eq_true (List.all_eq_true.mp h0 k (List.mem_range.mpr hk)) h
  · exfalso
    have e : rvK k = (99, 0, 0) := by
      rw [rvK, List.getD_eq_getElem?_getD, List.getElem?_eq_none (by show rvKs.length ≤ k; have : rvKs.length = 109 := by decide +kernel
                                                                     omega)]
      rfl
    rw [e] at h
    exact absurd h (by decide)
theorem rvEnt_arr {A : Nat → Nat → Nat} {cA : Nat → ClassId} {σ : rvS} {k n : Nat} (h1 : 1 ≤ (rvK k).1) (h2 : (rvK k).1 ≤ 10) : ∃ y, rvEnt A cA σ (k, n) = .inl (cA (rvK k).1, (rvK k).2.1, y) := by
  by_cases h5 : 5 ≤ (rvK k).1
  · exact ⟨_, rvEnt_5 rfl h5⟩
  · rcases (show (rvK k).1 = 1 ∨ (rvK k).1 = 2 ∨ (rvK k).1 = 3 ∨ (rvK k).1 = 4 by omega) with e | e | e | e
    · exact ⟨_, by rw [rvEnt_1 e, e]⟩
    · exact ⟨_, by rw [rvEnt_2 e, e]⟩
    · exact ⟨_, by rw [rvEnt_3 e, e]⟩
    · exact ⟨_, by rw [rvEnt_4 e, e]⟩
section RvS
variable {l : Launch} {F : Nat}
theorem rvC_11 (hF : rvHyp l F) : rvCase l F 11 := by
  intro d i n als ast σ Q a b c tb hi hck h p e R s m args below meth cd A cA D σ0 nc ns hE H locs ls hS
  obtain ⟨s1, s2, s3, s4, s5, s6, s7⟩ := hS
  replace h : rvB_11 (rvWp F) d i n als ast σ Q a b c tb := h
  unfold rvB_11 at h
  simp only [rvCk, Bool.and_eq_true] at hck
  obtain ⟨q, hq, hbq, hlk⟩ := rvLf_use hck.2
  obtain ⟨hd, hn⟩ := rvD_of hck.1
  split at h
  · rename_i v k g r
    obtain ⟨rfl, hfl, h⟩ := h
    have hok : g < (rvK k).2.2 := s5 (.inr (.inr (k, g))) (by simp)
    have s5' : ∀ v ∈ r, rvOk v := fun w hw => s5 w (by simp [hw])
    have hk11 : k < 11 := (List.getElem?_eq_some_iff.mp hq).1
    obtain ⟨q0, h0, hw⟩ := rvWs_get A cA σ (show k < 105 by omega) hok
    rw [rvEnt_0 (rvK_obj k hk11)] at hw
    obtain ⟨hlen, hI, hZ⟩ := rvObj_get hq hbq
    have hn2 : ¬ rvFt k b = 2 := by intro e; rw [e] at hfl; exact hfl
    have hset : (rvWs A cA σ).set q0 (A k g, .inr (k, ((List.range (rvFts.getD k []).length).map (fun j => rvFv A σ k g j)).set b (.int v))) = rvWs A cA (rvU σ k g b v) :=
      rvWs_set s2 h0 (by rw [rvEnt_0 (rvK_obj k hk11), rvFs_set (by omega) hn2]) rvEnt_U
    have hk := fun H1 locs1 (a1 : va_P D vwCl (rvWs A cA (rvU σ k g b v)) H1) (a2 : va_D (rvAd A s.heap.size) (rvWs A cA (rvU σ k g b v))) (a3 : va_S (rvAd A s.heap.size) s.heap H1 locs1) => hF d i (n + 1) als r _ Q hi h p e R s m args below meth cd A cA D σ0 nc ns hE H1 locs1 ls ⟨a1, a2, a3, s4, s5', s6, (rvU_108 (by omega)).trans s7⟩
    obtain ⟨hx, hb, hr, hlk2, hml, hown, hts, hR, hK, hst⟩ := hE
    obtain ⟨ty, hty⟩ := rvTyOk k q hq
    rw [hn] at hk
    have e1 : (q.2.1 b).1 = q.1 := rvRef_ok k q hq b hbq
    have hff : ∃ fty : FieldType, parseFieldDescriptor (q.2.1 b).2.2.1 = some fty ∧ narrow fty (.int v) = .int v ∧ fits fty (.int v) = true ∧ (q.2.1 b).2.2.2 = false := by
      unfold rvFld at hfl
      split at hfl
      · rename_i e0
        exact ⟨.int, by rw [(hI e0).1]; decide +kernel, rfl, rfl, (hI e0).2⟩
      · rename_i e0
        refine ⟨.boolean, by rw [(hZ e0).1]; decide +kernel, ?_, ?_, (hZ e0).2⟩
        · rcases hfl with rfl | rfl <;> rfl
        · rcases hfl with rfl | rfl <;> rfl
      · exact hfl.elim
    obtain ⟨fty, f1, f2, f3, f4⟩ := hff
    refine va_put (v := .int v) (cl := vwCl) (C := q.1) (T := q.2.1) (N := q.2.2) (ref := q.1) hx hb hts (rvU_ws k q hq) ty hty (rvNm k q hq) hown hK s1 s2 s3 q0 hw hq b hbq (hts _ hlk) (fun x hx => by rw [e1] at hx; exact hx) f4 f1 f2 f3 (by rw [List.length_map, List.length_range]; omega) hd (fun H1 locs1 a1 a2 a3 => ?_)
    rw [hset] at a1 a2
    exact hk H1 locs1 a1 a2 a3
  · exact h.elim
theorem rvC_12 (hF : rvHyp l F) : rvCase l F 12 := by
  intro d i n als ast σ Q a b c tb hi hck h p e R s m args below meth cd A cA D σ0 nc ns hE H locs ls hS
  obtain ⟨s1, s2, s3, s4, s5, s6, s7⟩ := hS
  replace h : rvB_12 (rvWp F) d i n als ast σ Q a b c tb := h
  unfold rvB_12 at h
  split at h
  · rename_i v k g r
    obtain ⟨ht, hin, h⟩ := h
    have hok : g < (rvK k).2.2 := s5 (.inr (.inr (k, g))) (by simp)
    have hk := hF d i (n + 1) als _ σ Q hi h p e R s m args below meth cd A cA D σ0 nc ns hE H locs ls ⟨s1, s2, s3, s4, List.forall_mem_cons.mpr ⟨trivial, fun w hw => s5 w (by simp [hw])⟩, s6, s7⟩
    obtain ⟨hx, hb, hr, hlk2, hml, hown, hts, hR, hK, hst⟩ := hE
    obtain ⟨hd, hn⟩ := rvD_of (ins := .iaload) hck
    rw [hn] at hk
    rcases ht with ht | ht
    · obtain ⟨q0, h0, hw⟩ := rvWs_get A cA σ (rvK_hi (by omega)) hok
      rw [rvEnt_1 ht] at hw
      rw [rvLen_of (by omega)] at hin
      exact va_iald hx hb hK s1 q0 0 hw (rvTys_get cA (t := 1) (by decide) (by decide)) (rvIn hin) hd hk
    · obtain rfl := rvK_11 ht
      have hg : g = 0 := by
        have : (rvK 108).2.2 = 1 := by decide
        omega
      subst hg
      have hs : σ0.1 108 = σ.1 108 := s7.symm
      have hlen : rvLen σ 108 0 = rvLen σ0 108 0 := by
        show (σ.1 108 0 1000000).toInt.toNat = (σ0.1 108 0 1000000).toInt.toNat
        rw [s7]
      rw [hlen] at hin
      exact va_ti hx hb hst.2.1 s3 (rvIn hin) (by rw [hs]; rfl) hd hk
  · rename_i v k g r
    obtain ⟨ht, hin, h⟩ := h
    have hok : g < (rvK k).2.2 := s5 (.inr (.inr (k, g))) (by simp)
    have hk := hF d i (n + 1) als _ σ Q hi h p e R s m args below meth cd A cA D σ0 nc ns hE H locs ls ⟨s1, s2, s3, s4, List.forall_mem_cons.mpr ⟨trivial, fun w hw => s5 w (by simp [hw])⟩, s6, s7⟩
    obtain ⟨hx, hb, hr, hlk2, hml, hown, hts, hR, hK, hst⟩ := hE
    obtain ⟨hd, hn⟩ := rvD_of (ins := .laload) hck
    rw [hn] at hk
    obtain ⟨q0, h0, hw⟩ := rvWs_get A cA σ (rvK_hi (by omega)) hok
    rw [rvEnt_2 ht] at hw
    rw [rvLen_of (by omega)] at hin
    exact va_lald hx hb hK s1 q0 1 hw (rvTys_get cA (t := 2) (by decide) (by decide)) (rvIn hin) hd hk
  · rename_i v k g r
    obtain ⟨ht, hin, h⟩ := h
    have hok : g < (rvK k).2.2 := s5 (.inr (.inr (k, g))) (by simp)
    have hk := hF d i (n + 1) als _ σ Q hi h p e R s m args below meth cd A cA D σ0 nc ns hE H locs ls ⟨s1, s2, s3, s4, List.forall_mem_cons.mpr ⟨trivial, fun w hw => s5 w (by simp [hw])⟩, s6, s7⟩
    obtain ⟨hx, hb, hr, hlk2, hml, hown, hts, hR, hK, hst⟩ := hE
    obtain ⟨hd, hn⟩ := rvD_of (ins := .baload) hck
    rw [hn] at hk
    obtain ⟨q0, h0, hw⟩ := rvWs_get A cA σ (rvK_hi (by omega)) hok
    rw [rvEnt_3 ht] at hw
    rw [rvLen_of (by omega)] at hin
    exact va_bald hx hb hK s1 q0 2 hw (rvTys_get cA (t := 3) (by decide) (by decide)) (rvIn hin) hd hk
  · rename_i v k g r
    obtain ⟨ht, hin, h⟩ := h
    have hok : g < (rvK k).2.2 := s5 (.inr (.inr (k, g))) (by simp)
    have hk := hF d i (n + 1) als _ σ Q hi h p e R s m args below meth cd A cA D σ0 nc ns hE H locs ls ⟨s1, s2, s3, s4, List.forall_mem_cons.mpr ⟨trivial, fun w hw => s5 w (by simp [hw])⟩, s6, s7⟩
    obtain ⟨hx, hb, hr, hlk2, hml, hown, hts, hR, hK, hst⟩ := hE
    obtain ⟨hd, hn⟩ := rvD_of (ins := .baload) hck
    rw [hn] at hk
    obtain ⟨q0, h0, hw⟩ := rvWs_get A cA σ (rvK_hi (by omega)) hok
    rw [rvEnt_4 ht] at hw
    rw [rvLen_of (by omega)] at hin
    exact va_zald hx hb hK s1 q0 3 hw (rvTys_get cA (t := 4) (by decide) (by decide)) (rvIn hin) hd hk
  · rename_i v k g r
    obtain ⟨ht, hin, h⟩ := h
    have hok : g < (rvK k).2.2 := s5 (.inr (.inr (k, g))) (by simp)
    rw [rvLen_of (by omega)] at hin
    have hk := hF d i (n + 1) als _ σ Q hi h p e R s m args below meth cd A cA D σ0 nc ns hE H locs ls ⟨s1, s2, s3, s4, List.forall_mem_cons.mpr ⟨rvTg_arr ht hok (by omega), fun w hw => s5 w (by simp [hw])⟩, s6, s7⟩
    obtain ⟨hx, hb, hr, hlk2, hml, hown, hts, hR, hK, hst⟩ := hE
    obtain ⟨hd, hn⟩ := rvD_of (ins := .aaload) hck
    rw [hn] at hk
    obtain ⟨q0, h0, hw⟩ := rvWs_get A cA σ (rvK_hi ht.2) hok
    rw [rvEnt_5 rfl ht.1] at hw
    have hty := rvTys_get cA (t := (rvK k).1) (by omega) ht.2
    have hob : ∃ C, rvTy (rvK k).1 = .object C := by
      generalize (rvK k).1 = t at ht
      rcases (show t = 5 ∨ t = 6 ∨ t = 7 ∨ t = 8 ∨ t = 9 ∨ t = 10 by omega) with rfl | rfl | rfl | rfl | rfl | rfl <;> exact ⟨_, rfl⟩
    obtain ⟨C, hC⟩ := hob
    rw [hC] at hty
    exact va_aldq hx hb hK s1 q0 _ hw hty (rvIn hin) hd hk
  · exact h.elim
theorem rvC_13 (hF : rvHyp l F) : rvCase l F 13 := by
  intro d i n als ast σ Q a b c tb hi hck h p e R s m args below meth cd A cA D σ0 nc ns hE H locs ls hS
  obtain ⟨s1, s2, s3, s4, s5, s6, s7⟩ := hS
  replace h : rvB_13 (rvWp F) d i n als ast σ Q a b c tb := h
  unfold rvB_13 at h
  split at h
  · rename_i y v k g r
    obtain ⟨ht, hin, h⟩ := h
    have hok : g < (rvK k).2.2 := s5 (.inr (.inr (k, g))) (by simp)
    have hk5 := rvK_hi (k := k) (by omega)
    rw [rvLen_of (by omega)] at hin
    obtain ⟨q0, h0, hw⟩ := rvWs_get A cA σ hk5 hok
    rw [rvEnt_1 ht] at hw
    have hset : (rvWs A cA σ).set q0 (A k g, .inl (cA 1, (rvK k).2.1, .inl (upd (σ.1 k g) v.toNatClampNeg y))) = rvWs A cA (rvU σ k g v.toInt.toNat y) := rvWs_set s2 h0 (by rw [rvEnt_1 ht, rvU_1, rvCl]) rvEnt_U
    have hk := fun H1 locs1 (a1 : va_P D vwCl (rvWs A cA (rvU σ k g v.toInt.toNat y)) H1) (a2 : va_D (rvAd A s.heap.size) (rvWs A cA (rvU σ k g v.toInt.toNat y))) (a3 : va_S (rvAd A s.heap.size) s.heap H1 locs1) => hF d i (n + 1) als r _ Q hi h p e R s m args below meth cd A cA D σ0 nc ns hE H1 locs1 ls ⟨a1, a2, a3, s4, fun w hw => s5 w (by simp [hw]), s6, (rvU_108 hk5).trans s7⟩
    obtain ⟨hx, hb, hr, hlk2, hml, hown, hts, hR, hK, hst⟩ := hE
    obtain ⟨hd, hn⟩ := rvD_of (ins := .iastore) hck
    rw [hn] at hk
    refine va_iast hx hb hK s1 s2 s3 q0 0 hw (rvTys_get cA (t := 1) (by decide) (by decide)) (rvIn hin) hd (fun H1 locs1 a1 a2 a3 => ?_)
    rw [hset] at a1 a2
    exact hk H1 locs1 a1 a2 a3
  · rename_i y v k g r
    obtain ⟨ht, hin, h⟩ := h
    have hok : g < (rvK k).2.2 := s5 (.inr (.inr (k, g))) (by simp)
    have hk5 := rvK_hi (k := k) (by omega)
    rw [rvLen_of (by omega)] at hin
    obtain ⟨q0, h0, hw⟩ := rvWs_get A cA σ hk5 hok
    rw [rvEnt_2 ht] at hw
    have hset : (rvWs A cA σ).set q0 (A k g, .inl (cA 2, (rvK k).2.1, .inr (.inl (vp_updL (σ.2 k g) v.toNatClampNeg y)))) = rvWs A cA (rvUL σ k g v.toInt.toNat y) := rvWs_set s2 h0 (by rw [rvEnt_2 ht, rvUL_1, rvCl]) rvEnt_UL
    have hk := fun H1 locs1 (a1 : va_P D vwCl (rvWs A cA (rvUL σ k g v.toInt.toNat y)) H1) (a2 : va_D (rvAd A s.heap.size) (rvWs A cA (rvUL σ k g v.toInt.toNat y))) (a3 : va_S (rvAd A s.heap.size) s.heap H1 locs1) => hF d i (n + 1) als r _ Q hi h p e R s m args below meth cd A cA D σ0 nc ns hE H1 locs1 ls ⟨a1, a2, a3, s4, fun w hw => s5 w (by simp [hw]), s6, s7⟩
    obtain ⟨hx, hb, hr, hlk2, hml, hown, hts, hR, hK, hst⟩ := hE
    obtain ⟨hd, hn⟩ := rvD_of (ins := .lastore) hck
    rw [hn] at hk
    refine va_last hx hb hK s1 s2 s3 q0 1 hw (rvTys_get cA (t := 2) (by decide) (by decide)) (rvIn hin) hd (fun H1 locs1 a1 a2 a3 => ?_)
    rw [hset] at a1 a2
    exact hk H1 locs1 a1 a2 a3
  · rename_i y v k g r
    obtain ⟨ht, hin, h⟩ := h
    have hok : g < (rvK k).2.2 := s5 (.inr (.inr (k, g))) (by simp)
    have hk5 := rvK_hi (k := k) (by omega)
    rw [rvLen_of (by omega)] at hin
    obtain ⟨q0, h0, hw⟩ := rvWs_get A cA σ hk5 hok
    rw [rvEnt_3 ht] at hw
    have hset : (rvWs A cA σ).set q0 (A k g, .inl (cA 3, (rvK k).2.1, .inl (upd (σ.1 k g) v.toNatClampNeg (vp_nar .byte y)))) = rvWs A cA (rvU σ k g v.toInt.toNat y.toInt8.toInt32) := rvWs_set s2 h0 (by rw [rvEnt_3 ht, rvU_1, rvCl, vp_nar_byte]) rvEnt_U
    have hk := fun H1 locs1 (a1 : va_P D vwCl (rvWs A cA (rvU σ k g v.toInt.toNat y.toInt8.toInt32)) H1) (a2 : va_D (rvAd A s.heap.size) (rvWs A cA (rvU σ k g v.toInt.toNat y.toInt8.toInt32))) (a3 : va_S (rvAd A s.heap.size) s.heap H1 locs1) => hF d i (n + 1) als r _ Q hi h p e R s m args below meth cd A cA D σ0 nc ns hE H1 locs1 ls ⟨a1, a2, a3, s4, fun w hw => s5 w (by simp [hw]), s6, (rvU_108 hk5).trans s7⟩
    obtain ⟨hx, hb, hr, hlk2, hml, hown, hts, hR, hK, hst⟩ := hE
    obtain ⟨hd, hn⟩ := rvD_of (ins := .bastore) hck
    rw [hn] at hk
    refine va_bast hx hb hK s1 s2 s3 q0 2 hw (rvTys_get cA (t := 3) (by decide) (by decide)) (rvIn hin) hd (fun H1 locs1 a1 a2 a3 => ?_)
    rw [hset] at a1 a2
    exact hk H1 locs1 a1 a2 a3
  · rename_i y v k g r
    obtain ⟨ht, hin, hy, h⟩ := h
    have hok : g < (rvK k).2.2 := s5 (.inr (.inr (k, g))) (by simp)
    have hk5 := rvK_hi (k := k) (by omega)
    rw [rvLen_of (by omega)] at hin
    obtain ⟨q0, h0, hw⟩ := rvWs_get A cA σ hk5 hok
    rw [rvEnt_4 ht] at hw
    have hny : vp_nar .boolean y = y := by rcases hy with rfl | rfl <;> rfl
    have hset : (rvWs A cA σ).set q0 (A k g, .inl (cA 4, (rvK k).2.1, .inl (upd (σ.1 k g) v.toNatClampNeg (vp_nar .boolean y)))) = rvWs A cA (rvU σ k g v.toInt.toNat y) := rvWs_set s2 h0 (by rw [rvEnt_4 ht, rvU_1, rvCl, hny]) rvEnt_U
    have hk := fun H1 locs1 (a1 : va_P D vwCl (rvWs A cA (rvU σ k g v.toInt.toNat y)) H1) (a2 : va_D (rvAd A s.heap.size) (rvWs A cA (rvU σ k g v.toInt.toNat y))) (a3 : va_S (rvAd A s.heap.size) s.heap H1 locs1) => hF d i (n + 1) als r _ Q hi h p e R s m args below meth cd A cA D σ0 nc ns hE H1 locs1 ls ⟨a1, a2, a3, s4, fun w hw => s5 w (by simp [hw]), s6, (rvU_108 hk5).trans s7⟩
    obtain ⟨hx, hb, hr, hlk2, hml, hown, hts, hR, hK, hst⟩ := hE
    obtain ⟨hd, hn⟩ := rvD_of (ins := .bastore) hck
    rw [hn] at hk
    refine va_zast hx hb hK s1 s2 s3 q0 3 hw (rvTys_get cA (t := 4) (by decide) (by decide)) (rvIn hin) hd (fun H1 locs1 a1 a2 a3 => ?_)
    rw [hset] at a1 a2
    exact hk H1 locs1 a1 a2 a3
  · exact h.elim
theorem rvC_14 (hF : rvHyp l F) : rvCase l F 14 := by
  intro d i n als ast σ Q a b c tb hi hck h p e R s m args below meth cd A cA D σ0 nc ns hE H locs ls hS
  obtain ⟨s1, s2, s3, s4, s5, s6, s7⟩ := hS
  replace h : rvB_14 (rvWp F) d i n als ast σ Q a b c tb := h
  unfold rvB_14 at h
  split at h
  · rename_i k g r
    obtain ⟨ht, h⟩ := h
    have hok : g < (rvK k).2.2 := s5 (.inr (.inr (k, g))) (by simp)
    have hk := hF d i (n + 1) als _ σ Q hi h p e R s m args below meth cd A cA D σ0 nc ns hE H locs ls ⟨s1, s2, s3, s4, List.forall_mem_cons.mpr ⟨trivial, fun w hw => s5 w (by simp [hw])⟩, s6, s7⟩
    obtain ⟨hx, hb, hr, hlk2, hml, hown, hts, hR, hK, hst⟩ := hE
    obtain ⟨hd, hn⟩ := rvD_of (ins := .arraylength) hck
    rw [hn] at hk
    by_cases h11 : (rvK k).1 = 11
    · obtain rfl := rvK_11 h11
      have hg : g = 0 := by
        have : (rvK 108).2.2 = 1 := by decide
        omega
      subst hg
      have hlen : rvLen σ 108 0 = rvLen σ0 108 0 := by
        show (σ.1 108 0 1000000).toInt.toNat = (σ0.1 108 0 1000000).toInt.toNat
        rw [s7]
      rw [hlen] at hk
      exact va_tlen hx hb hst.2.1 s3 rfl hd hk
    · obtain ⟨q0, h0, hw⟩ := rvWs_get A cA σ (rvK_hi (k := k) (by omega)) hok
      obtain ⟨y, hy⟩ := rvEnt_arr (A := A) (cA := cA) (σ := σ) (n := g) ht.1 (show (rvK k).1 ≤ 10 by omega)
      rw [hy] at hw
      rw [rvLen_of h11] at hk
      exact va_alen hx hb hK s1 q0 _ hw (rvTys_get cA ht.1 (by omega)) rfl hd hk
  · exact h.elim
theorem rvC_15 (hF : rvHyp l F) : rvCase l F 15 := by
  intro d i n als ast σ Q a b c tb hi hck h p e R s m args below meth cd A cA D σ0 nc ns hE H locs ls hS
  obtain ⟨s1, s2, s3, s4, s5, s6, s7⟩ := hS
  replace h : rvB_15 (rvWp F) d i n als ast σ Q a b c tb := h
  unfold rvB_15 at h
  split at h
  · rename_i v r
    have hk := hF d i (n + 1) als _ σ Q hi h p e R s m args below meth cd A cA D σ0 nc ns hE H locs ls ⟨s1, s2, s3, s4, List.forall_mem_cons.mpr ⟨trivial, s5⟩, s6, s7⟩
    obtain ⟨hd, hn⟩ := rvD_of (ins := .dup) hck
    rw [hn] at hk
    exact lv_dup hE.1 hE.2.1 (va := .int v) hd rfl hk
  · rename_i v r
    have hk := hF d i (n + 1) als _ σ Q hi h p e R s m args below meth cd A cA D σ0 nc ns hE H locs ls ⟨s1, s2, s3, s4, List.forall_mem_cons.mpr ⟨s5 _ List.mem_cons_self, s5⟩, s6, s7⟩
    obtain ⟨hd, hn⟩ := rvD_of (ins := .dup) hck
    rw [hn] at hk
    exact lv_dup hE.1 hE.2.1 (va := .ref (A v.1 v.2)) hd rfl hk
  · exact h.elim
theorem rvC_16 (hF : rvHyp l F) : rvCase l F 16 := by
  intro d i n als ast σ Q a b c tb hi hck h p e R s m args below meth cd A cA D σ0 nc ns hE H locs ls hS
  obtain ⟨s1, s2, s3, s4, s5, s6, s7⟩ := hS
  replace h : rvB_16 (rvWp F) d i n als ast σ Q a b c tb := h
  unfold rvB_16 at h
  split at h
  · rename_i v y r
    have hk := hF d i (n + 1) als _ σ Q hi h p e R s m args below meth cd A cA D σ0 nc ns hE H locs ls ⟨s1, s2, s3, s4, fun w hw => by
      rcases List.mem_cons.mp hw with rfl | hw
      · trivial
      · rcases List.mem_cons.mp hw with rfl | hw
        · trivial
        · rcases List.mem_cons.mp hw with rfl | hw
          · trivial
          · exact s5 w (by simp [hw]), s6, s7⟩
    obtain ⟨hd, hn⟩ := rvD_of (ins := .dup_x1) hck
    rw [hn] at hk
    exact lv_dup_x1 hE.1 hE.2.1 (va := .int v) (vb := .int y) hd rfl rfl hk
  · rename_i v y r
    have hk := hF d i (n + 1) als _ σ Q hi h p e R s m args below meth cd A cA D σ0 nc ns hE H locs ls ⟨s1, s2, s3, s4, fun w hw => by
      rcases List.mem_cons.mp hw with rfl | hw
      · trivial
      · rcases List.mem_cons.mp hw with rfl | hw
        · exact s5 _ (by simp)
        · rcases List.mem_cons.mp hw with rfl | hw
          · trivial
          · exact s5 w (by simp [hw]), s6, s7⟩
    obtain ⟨hd, hn⟩ := rvD_of (ins := .dup_x1) hck
    rw [hn] at hk
    exact lv_dup_x1 hE.1 hE.2.1 (va := .int v) (vb := .ref (A y.1 y.2)) hd rfl rfl hk
  · exact h.elim
theorem rvC_17 (hF : rvHyp l F) : rvCase l F 17 := by
  intro d i n als ast σ Q a b c tb hi hck h p e R s m args below meth cd A cA D σ0 nc ns hE H locs ls hS
  obtain ⟨s1, s2, s3, s4, s5, s6, s7⟩ := hS
  replace h : rvB_17 (rvWp F) d i n als ast σ Q a b c tb := h
  unfold rvB_17 at h
  split at h
  · rename_i v y r
    have hk := hF d i (n + 1) als _ σ Q hi h p e R s m args below meth cd A cA D σ0 nc ns hE H locs ls ⟨s1, s2, s3, s4, fun w hw => by
      rcases List.mem_cons.mp hw with rfl | hw
      · trivial
      · rcases List.mem_cons.mp hw with rfl | hw
        · exact s5 _ (by simp)
        · exact s5 w hw, s6, s7⟩
    obtain ⟨hd, hn⟩ := rvD_of (ins := .dup2) hck
    rw [hn] at hk
    exact lv_dup2_11 hE.1 hE.2.1 (va := .int v) (vb := .ref (A y.1 y.2)) hd rfl rfl hk
  · exact h.elim
theorem rvC_18 (hF : rvHyp l F) : rvCase l F 18 := by
  intro d i n als ast σ Q a b c tb hi hck h p e R s m args below meth cd A cA D σ0 nc ns hE H locs ls hS
  obtain ⟨s1, s2, s3, s4, s5, s6, s7⟩ := hS
  replace h : rvB_18 (rvWp F) d i n als ast σ Q a b c tb := h
  unfold rvB_18 at h
  split at h
  · rename_i v r
    have hk := hF d i (n + 1) als _ σ Q hi h p e R s m args below meth cd A cA D σ0 nc ns hE H locs ls ⟨s1, s2, s3, s4, fun w hw => s5 w (by simp [hw]), s6, s7⟩
    obtain ⟨hd, hn⟩ := rvD_of (ins := .pop) hck
    rw [hn] at hk
    exact lv_pop hE.1 hE.2.1 (va := .int v) hd rfl hk
  · exact h.elim
theorem rvC_19 (hF : rvHyp l F) : rvCase l F 19 := by
  intro d i n als ast σ Q a b c tb hi hck h p e R s m args below meth cd A cA D σ0 nc ns hE H locs ls hS
  obtain ⟨s1, s2, s3, s4, s5, s6, s7⟩ := hS
  replace h : rvB_19 (rvWp F) d i n als ast σ Q a b c tb := h
  unfold rvB_19 at h
  split at h
  · rename_i v r
    have s5' : ∀ w ∈ r, rvOk w := fun w hw => s5 w (by simp [hw])
    have hkt := fun q => hF d i b als r σ Q hi (h.1 q) p e R s m args below meth cd A cA D σ0 nc ns hE H locs ls ⟨s1, s2, s3, s4, s5', s6, s7⟩
    have hkf := fun q => hF d i (n + 1) als r σ Q hi (h.2 q) p e R s m args below meth cd A cA D σ0 nc ns hE H locs ls ⟨s1, s2, s3, s4, s5', s6, s7⟩
    obtain ⟨hd, hn⟩ := rvD_of hck
    rw [hn] at hkf
    have ht : ((rvPc i n : Nat) : Int) + (((rvPc i b : Nat) : Int) - (rvPc i n : Nat)) = (rvPc i b : Nat) := by omega
    match a, hd, hkt, hkf with
    | 0, hd, hkt, hkf => exact lv_if_eq hE.1 hE.2.1 hd ht hkt hkf
    | 1, hd, hkt, hkf => exact lv_if_ne hE.1 hE.2.1 hd ht hkt (fun q => hkf (fun q2 => q2 q))
    | 2, hd, hkt, hkf => exact lv_if_lt hE.1 hE.2.1 hd ht hkt hkf
    | 3, hd, hkt, hkf => exact lv_if_ge hE.1 hE.2.1 hd ht hkt hkf
    | 4, hd, hkt, hkf => exact lv_if_gt hE.1 hE.2.1 hd ht hkt hkf
    | a + 5, hd, hkt, hkf => exact lv_if_le hE.1 hE.2.1 hd ht hkt hkf
  · exact h.elim
theorem rvC_20 (hF : rvHyp l F) : rvCase l F 20 := by
  intro d i n als ast σ Q a b c tb hi hck h p e R s m args below meth cd A cA D σ0 nc ns hE H locs ls hS
  obtain ⟨s1, s2, s3, s4, s5, s6, s7⟩ := hS
  replace h : rvB_20 (rvWp F) d i n als ast σ Q a b c tb := h
  unfold rvB_20 at h
  split at h
  · rename_i y v r
    have s5' : ∀ w ∈ r, rvOk w := fun w hw => s5 w (by simp [hw])
    have hkt := fun q => hF d i b als r σ Q hi (h.1 q) p e R s m args below meth cd A cA D σ0 nc ns hE H locs ls ⟨s1, s2, s3, s4, s5', s6, s7⟩
    have hkf := fun q => hF d i (n + 1) als r σ Q hi (h.2 q) p e R s m args below meth cd A cA D σ0 nc ns hE H locs ls ⟨s1, s2, s3, s4, s5', s6, s7⟩
    obtain ⟨hd, hn⟩ := rvD_of hck
    rw [hn] at hkf
    have ht : ((rvPc i n : Nat) : Int) + (((rvPc i b : Nat) : Int) - (rvPc i n : Nat)) = (rvPc i b : Nat) := by omega
    match a, hd, hkt, hkf with
    | 0, hd, hkt, hkf => exact lv_icmp_eq hE.1 hE.2.1 hd ht hkt hkf
    | 1, hd, hkt, hkf => exact lv_icmp_ne hE.1 hE.2.1 hd ht hkt (fun q => hkf (fun q2 => q2 q))
    | 2, hd, hkt, hkf => exact lv_icmp_lt hE.1 hE.2.1 hd ht hkt hkf
    | 3, hd, hkt, hkf => exact lv_icmp_ge hE.1 hE.2.1 hd ht hkt hkf
    | 4, hd, hkt, hkf => exact lv_icmp_gt hE.1 hE.2.1 hd ht hkt hkf
    | a + 5, hd, hkt, hkf => exact lv_icmp_le hE.1 hE.2.1 hd ht hkt hkf
  · exact h.elim
theorem rvC_21 (hF : rvHyp l F) : rvCase l F 21 := by
  intro d i n als ast σ Q a b c tb hi hck h p e R s m args below meth cd A cA D σ0 nc ns hE H locs ls hS
  replace h : rvB_21 (rvWp F) d i n als ast σ Q a b c tb := h
  unfold rvB_21 at h
  have hk := hF d i b als ast σ Q hi h p e R s m args below meth cd A cA D σ0 nc ns hE H locs ls hS
  have ht : ((rvPc i n : Nat) : Int) + (((rvPc i b : Nat) : Int) - (rvPc i n : Nat)) = (rvPc i b : Nat) := by omega
  exact lv_goto hE.1 hE.2.1 (rvDc_of hck) ht hk
theorem rvC_22 (hF : rvHyp l F) : rvCase l F 22 := by
  intro d i n als ast σ Q a b c tb hi hck h p e R s m args below meth cd A cA D σ0 nc ns hE H locs ls hS
  obtain ⟨s1, s2, s3, s4, s5, s6, s7⟩ := hS
  replace h : rvB_22 (rvWp F) d i n als ast σ Q a b c tb := h
  unfold rvB_22 at h
  split at h
  · rename_i v r
    have s5' : ∀ w ∈ r, rvOk w := fun w hw => s5 w (by simp [hw])
    have hk := fun t (q : rvWp F d i t als r σ Q) => hF d i t als r σ Q hi q p e R s m args below meth cd A cA D σ0 nc ns hE H locs ls ⟨s1, s2, s3, s4, s5', s6, s7⟩
    have hck2 : ∃ len, decode (rvM i).2.1 (rvPc i n) = .ok (.tableswitch ((rvPc i b : Int) - (rvPc i n : Nat)) ((a : Int) - 1000) ((c : Int) - 1000) (tb.map (fun t => (rvPc i t : Int) - (rvPc i n : Nat))).toArray, len) ∧ (c : Int) - a + 1 = (tb.length : Int) := by
      replace hck : rvCk22 i (rvPc i n) a b c tb = true := hck
      unfold rvCk22 at hck
      revert hck
      split
      · rename_i len _
        intro hck
        simp only [Bool.and_eq_true, decide_eq_true_eq] at hck
        exact ⟨len, rvDc_of hck.1, hck.2⟩
      · intro hck; cases hck
    obtain ⟨len, hd, hlen⟩ := hck2
    by_cases hout : v.toInt < (a : Int) - 1000 ∨ (c : Int) - 1000 < v.toInt
    · exact lv_tableOut hE.1 hE.2.1 hd hout (by omega) (hk b (h.1 hout))
    · obtain ⟨t, ht, h2⟩ := h.2 hout
      refine lv_tableIn hE.1 hE.2.1 hd (off := (rvPc i t : Int) - (rvPc i n : Nat)) (tgt := rvPc i t) (by omega) (by omega) ?_ (by omega) (hk t h2)
      rw [List.getElem?_toArray, List.getElem?_map, ht]
      rfl
  · exact h.elim
end RvS
