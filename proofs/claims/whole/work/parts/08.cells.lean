-- the machine follows the small machine: cells
theorem rvEnt_0 {A : Nat → Nat → Nat} {cA : Nat → ClassId} {σ : rvS} {k n : Nat} (h : (rvK k).1 = 0) : rvEnt A cA σ (k, n) = .inr (k, (List.range (rvFts.getD k []).length).map (fun j => rvFv A σ k n j)) := by unfold rvEnt; rw [h]; rfl
theorem rvEnt_1 {A : Nat → Nat → Nat} {cA : Nat → ClassId} {σ : rvS} {k n : Nat} (h : (rvK k).1 = 1) : rvEnt A cA σ (k, n) = .inl (cA 1, (rvK k).2.1, .inl (σ.1 k n)) := by unfold rvEnt; rw [h]; rfl
theorem rvEnt_2 {A : Nat → Nat → Nat} {cA : Nat → ClassId} {σ : rvS} {k n : Nat} (h : (rvK k).1 = 2) : rvEnt A cA σ (k, n) = .inl (cA 2, (rvK k).2.1, .inr (.inl (σ.2 k n))) := by unfold rvEnt; rw [h]; rfl
theorem rvEnt_3 {A : Nat → Nat → Nat} {cA : Nat → ClassId} {σ : rvS} {k n : Nat} (h : (rvK k).1 = 3) : rvEnt A cA σ (k, n) = .inl (cA 3, (rvK k).2.1, .inl (σ.1 k n)) := by unfold rvEnt; rw [h]; rfl
theorem rvEnt_4 {A : Nat → Nat → Nat} {cA : Nat → ClassId} {σ : rvS} {k n : Nat} (h : (rvK k).1 = 4) : rvEnt A cA σ (k, n) = .inl (cA 4, (rvK k).2.1, .inl (σ.1 k n)) := by unfold rvEnt; rw [h]; rfl
theorem rvEnt_5 {A : Nat → Nat → Nat} {cA : Nat → ClassId} {σ : rvS} {k n t : Nat} (h : (rvK k).1 = t) (h5 : 5 ≤ t) : rvEnt A cA σ (k, n) = .inl (cA t, (rvK k).2.1, .inr (.inr (.inr (.inr (fun j => some (A (rvTg k n j).1 (rvTg k n j).2)))))) := by
  unfold rvEnt
  rw [h]
  match t, h5 with
  | t + 5, _ => rfl
theorem rvLen_of {σ : rvS} {k n : Nat} (h : ¬ (rvK k).1 = 11) : rvLen σ k n = (rvK k).2.1 := by
  unfold rvLen
  split
  · rename_i e; exact absurd e h
  · rfl
theorem rvTys_get (cA : Nat → ClassId) {t : Nat} (h1 : 1 ≤ t) (h2 : t ≤ 10) : (rvTys cA)[t - 1]? = some (cA t, rvTy t) := by
  unfold rvTys
  rw [List.getElem?_map, List.getElem?_range (by omega)]
  simp only [Option.map_some]
  rw [show t - 1 + 1 = t by omega]
theorem rvIn {v : Int32} {n : Nat} (h : 0 ≤ v.toInt ∧ v.toInt < (n : Int)) : vp_in v n := vp_in_iff.mpr h
theorem rvCl (v : Int32) : v.toNatClampNeg = v.toInt.toNat := rfl
theorem rvU_1 (σ : rvS) (k n j : Nat) (v : Int32) : (rvU σ k n j v).1 k n = upd (σ.1 k n) j v := by
  funext j'
  simp only [rvU, upd, true_and]
theorem rvU_o {σ : rvS} {k n j : Nat} {v : Int32} {k' n' : Nat} (h : ¬ (k' = k ∧ n' = n)) : (rvU σ k n j v).1 k' n' = σ.1 k' n' := by
  funext j'
  simp only [rvU]
  rw [if_neg (fun q => h ⟨q.1, q.2.1⟩)]
theorem rvUL_1 (σ : rvS) (k n j : Nat) (v : Int64) : (rvUL σ k n j v).2 k n = vp_updL (σ.2 k n) j v := by
  funext j'
  simp only [rvUL, vp_updL, true_and]
theorem rvUL_o {σ : rvS} {k n j : Nat} {v : Int64} {k' n' : Nat} (h : ¬ (k' = k ∧ n' = n)) : (rvUL σ k n j v).2 k' n' = σ.2 k' n' := by
  funext j'
  simp only [rvUL]
  rw [if_neg (fun q => h ⟨q.1, q.2.1⟩)]
theorem rvEnt_cong {A : Nat → Nat → Nat} {cA : Nat → ClassId} {σ σ' : rvS} {q : Nat × Nat} (h1 : σ'.1 q.1 q.2 = σ.1 q.1 q.2) (h2 : σ'.2 q.1 q.2 = σ.2 q.1 q.2) : rvEnt A cA σ' q = rvEnt A cA σ q := by
  unfold rvEnt
  rw [h1, h2]
  have h3 : (fun j => rvFv A σ' q.1 q.2 j) = (fun j => rvFv A σ q.1 q.2 j) := by
    funext j
    unfold rvFv
    rw [h1]
  rw [h3]
theorem rvEnt_U {A : Nat → Nat → Nat} {cA : Nat → ClassId} {σ : rvS} {k n j : Nat} {v : Int32} : ∀ q : Nat × Nat, q ≠ (k, n) → rvEnt A cA (rvU σ k n j v) q = rvEnt A cA σ q :=
  fun q hq => rvEnt_cong (rvU_o (fun h => hq (Prod.ext h.1 h.2))) rfl
theorem rvEnt_UL {A : Nat → Nat → Nat} {cA : Nat → ClassId} {σ : rvS} {k n j : Nat} {v : Int64} : ∀ q : Nat × Nat, q ≠ (k, n) → rvEnt A cA (rvUL σ k n j v) q = rvEnt A cA σ q :=
  fun q hq => rvEnt_cong rfl (rvUL_o (fun h => hq (Prod.ext h.1 h.2)))
theorem rvU_108 {σ : rvS} {k n j : Nat} {v : Int32} (h : k < 105) : (rvU σ k n j v).1 108 = σ.1 108 := by
  funext n'
  exact rvU_o (fun q => by omega)
theorem rvU_ws : ∀ (a : Nat) (q : vw_C), vwCl[a]? = some q → ∀ w ∈ u_ws q.1 q.2.1 q.2.2, w ∈ rvT := by
  intro a q h
  have h0 : (vwCl.all fun q => (u_ws q.1 q.2.1 q.2.2).all (fun w => decide (w ∈ lw_tbl) && goodWord w)) = true := by
    set_option maxRecDepth 100000 in decide +kernel
  intro w hw
  have h1 := List.all_eq_true.mp (List.all_eq_true.mp h0 q (List.mem_of_getElem? h)) w hw
  simp only [Bool.and_eq_true, decide_eq_true_eq] at h1
  exact List.mem_filter.mpr h1
theorem rvNm : ∀ (c : Nat) (q : vw_C), vwCl[c]? = some q → ∀ a, a < q.2.2 → ∀ b, b < q.2.2 → a ≠ b → (q.2.1 a).2.1 ≠ (q.2.1 b).2.1
  | 0, q, h => by cases h; exact nmX0
  | 1, q, h => by cases h; exact nmX1
  | 2, q, h => by cases h; exact nmX2
  | 3, q, h => by cases h; exact nmX3
  | 4, q, h => by cases h; exact nmX4
  | 5, q, h => by cases h; exact nmX5
  | 6, q, h => by cases h; exact nmX6
  | 7, q, h => by cases h; exact nmX7
  | 8, q, h => by cases h; exact nmX8
  | 9, q, h => by cases h; exact nmX9
  | 10, q, h => by cases h; exact nmX10
  | c + 11, q, h => by cases h
theorem rvTyOk : ∀ (c : Nat) (q : vw_C), vwCl[c]? = some q → ∃ ty : Nat → FieldType, ∀ k, k < q.2.2 → parseFieldDescriptor (q.2.1 k).2.2.1 = some (ty k)
  | 0, q, h => by cases h; exact ⟨_, tyX0_ok⟩
  | 1, q, h => by cases h; exact ⟨_, tyX1_ok⟩
  | 2, q, h => by cases h; exact ⟨_, tyX2_ok⟩
  | 3, q, h => by cases h; exact ⟨_, tyX3_ok⟩
  | 4, q, h => by cases h; exact ⟨_, tyX4_ok⟩
  | 5, q, h => by cases h; exact ⟨_, tyX5_ok⟩
  | 6, q, h => by cases h; exact ⟨_, tyX6_ok⟩
  | 7, q, h => by cases h; exact ⟨_, tyX7_ok⟩
  | 8, q, h => by cases h; exact ⟨_, tyX8_ok⟩
  | 9, q, h => by cases h; exact ⟨_, tyX9_ok⟩
  | 10, q, h => by cases h; exact ⟨_, tyX10_ok⟩
  | c + 11, q, h => by cases h
theorem rvObj_get {k : Nat} {q : vw_C} (hq : vwCl[k]? = some q) {j : Nat} (hj : j < q.2.2) : q.2.2 = (rvFts.getD k []).length ∧ (rvFt k j = 0 → (q.2.1 j).2.2.1 = "I" ∧ (q.2.1 j).2.2.2 = false) ∧ (rvFt k j = 1 → (q.2.1 j).2.2.1 = "Z" ∧ (q.2.1 j).2.2.2 = false) := by
  have hk : k < 11 := (List.getElem?_eq_some_iff.mp hq).1
  have h1 := List.all_eq_true.mp rvObj_ok k (List.mem_range.mpr hk)
  unfold rvObjOk at h1
  rw [hq] at h1
  simp only [Bool.and_eq_true, decide_eq_true_eq] at h1
  have h2 := List.all_eq_true.mp h1.2 j (List.mem_range.mpr hj)
  refine ⟨h1.1, fun e => ?_, fun e => ?_⟩ <;> rw [e] at h2 <;> exact of_decide_eq_true h2
theorem rvRef_ok : ∀ (c : Nat) (q : vw_C), vwCl[c]? = some q → ∀ b, b < q.2.2 → (q.2.1 b).1 = q.1 := by
  intro c q h
  have h0 : (vwCl.all fun q => (List.range q.2.2).all (fun b => decide ((q.2.1 b).1 = q.1))) = true := by decide +kernel
  intro b hb
  exact of_decide_eq_true (List.all_eq_true.mp (List.all_eq_true.mp h0 q (List.mem_of_getElem? h)) b (List.mem_range.mpr hb))
section RvS
variable {l : Launch} {F : Nat}
theorem rvC_10 (hF : rvHyp l F) : rvCase l F 10 := by
  intro d i n als ast σ Q a b c tb hi hck h p e R s m args below meth cd A cA D σ0 nc ns hE H locs ls hS
  obtain ⟨s1, s2, s3, s4, s5, s6, s7⟩ := hS
  replace h : rvB_10 (rvWp F) d i n als ast σ Q a b c tb := h
  unfold rvB_10 at h
  simp only [rvCk, Bool.and_eq_true] at hck
  obtain ⟨q, hq, hbq, hlk⟩ := rvLf_use hck.2
  obtain ⟨hd, hn⟩ := rvD_of hck.1
  split at h
  · rename_i k g r
    obtain ⟨rfl, h⟩ := h
    have hok : g < (rvK k).2.2 := s5 _ List.mem_cons_self
    have s5' : ∀ v ∈ r, rvOk v := fun w hw => s5 w (List.mem_cons_of_mem _ hw)
    have hk11 : k < 11 := (List.getElem?_eq_some_iff.mp hq).1
    obtain ⟨q0, -, hw⟩ := rvWs_get A cA σ (show k < 105 by omega) hok
    rw [rvEnt_0 (rvK_obj k hk11)] at hw
    have hlen := (rvObj_get hq hbq).1
    have key : ∀ v : rvV, rvOk v → rvTr A v = rvFv A σ k g b → rvWp F d i (n + 1) als (v :: r) σ Q → W p l e R s m args below meth cd H locs nc ns (MQ below (rvQc A cA D σ0 (rvAd A s.heap.size) Q) args s nc ns (rvAd A s.heap.size)) (F0 m (rvPc i n) ls (.ref (A k g) :: r.map (rvTr A))) := by
      intro v hv ev h
      have hk := hF d i (n + 1) als _ σ Q hi h p e R s m args below meth cd A cA D σ0 nc ns hE H locs ls ⟨s1, s2, s3, s4, List.forall_mem_cons.mpr ⟨hv, s5'⟩, s6, s7⟩
      obtain ⟨hx, hb, hr, hlk2, hml, hown, hts, hR, hK, hst⟩ := hE
      rw [hn, List.map_cons, ev] at hk
      exact va_get (cl := vwCl) (C := q.1) (T := q.2.1) (N := q.2.2) (ref := q.1) hx hb hts (rvU_ws k q hq) hown hK s1 q0 hw hq b hbq (hts _ hlk) (fun x hx => by
        have e1 : (q.2.1 b).1 = q.1 := rvRef_ok k q hq b hbq
        rw [e1] at hx; exact hx) (by rw [List.getElem?_map, List.getElem?_range (by omega)]; rfl) hd hk
    revert h
    split
    · rename_i e0; exact fun h => key (.inl (σ.1 k g b)) trivial (by unfold rvFv; rw [e0]; rfl) h
    · rename_i e0; exact fun h => key (.inl (σ.1 k g b)) trivial (by unfold rvFv; rw [e0]; rfl) h
    · rename_i e0; exact fun h => key _ (rvTg_field e0 hok) (by unfold rvFv; rw [e0]; rfl) h
    · exact fun h => h.elim
  · exact h.elim
end RvS
