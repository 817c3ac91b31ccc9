-- the machine follows the constructors' run: stores, rows, the ends (wip/whole/gen/laws90.py)
theorem gOwnCN {a : Nat} (h : a < 11) : (gY a).cls = gOwn a ∧ gOwn a = gCN a ∧ (gY a).name = "<init>" := by
  have H := gCl_at h
  unfold gClOk at H
  simp only [Bool.and_eq_true, decide_eq_true_eq] at H
  exact H.1
theorem gCat {b : Nat} : ∀ (st : List gV), ((st.map (gTr b)).map fun v => v.category).sum = st.length
  | [] => rfl
  | .inl v :: r => by
    have h := gCat (b := b) r
    simp only [List.map_cons, List.sum_cons, List.length_cons, gTr, h]
    show 1 + r.length = r.length + 1
    omega
  | .inr (some v) :: r => by
    have h := gCat (b := b) r
    simp only [List.map_cons, List.sum_cons, List.length_cons, gTr, h]
    show 1 + r.length = r.length + 1
    omega
  | .inr none :: r => by
    have h := gCat (b := b) r
    simp only [List.map_cons, List.sum_cons, List.length_cons, gTr, h]
    show 1 + r.length = r.length + 1
    omega
theorem gLen0 {h : List gE} {q : Nat} {x : gE} (hq : h[q]? = some x) : 0 < h.length := Nat.lt_of_le_of_lt (Nat.zero_le _) (List.getElem?_eq_some_iff.mp hq).1
section GS
variable {l : Launch} {F : Nat}
theorem gC_14 (hF : gHyp l F) : gCase l F 14 := by
  intro i n als ast h h' a b0 ix hi hck hv hg p e R s m args below meth c cA D b nc ns NC NS hE hR e1 e2 H locs ls hS
  obtain ⟨y, hy, hr⟩ := hg
  replace hy : (match (generalizing := false) ast with | .inl v :: .inl j :: .inr (some q) :: st => (match h[q]? with | some (.inr (.inl (t, N, f))) => if t = 1 ∧ 0 ≤ j.toInt ∧ j.toInt < N then some (n + 1, als, st, h.set q (.inr (.inl (t, N, upd f j.toInt.toNat v)))) else none | _ => none) | _ => none) = some y := hy
  split at hy
  · rename_i v j q r
    split at hy
    · rename_i t N f hq
      split at hy
      · rename_i hc
        obtain ⟨rfl, hc⟩ := hc
        cases hy
        dsimp only at hr
        have hs := gSum_set (e2 := .inr (.inl (1, N, upd f j.toInt.toNat v))) hq rfl
        have hk := fun H1 locs1 (a1 : va_P D vwCl (gWs b cA (h.set q (.inr (.inl (1, N, upd f j.toInt.toNat v))))) H1) (a3 : va_S (fun q => b ≤ q) s.heap H1 locs1) => gW_size a1 (by rw [List.length_set]; exact e1.2) (by rw [List.length_set]; exact gLen0 hq) (fun a2 => hF i (n + 1) _ _ _ _ hi hr p e R s m args below meth c cA D b nc ns NC NS hE hR (by rw [List.length_set]; exact e1) (by rw [hs]; exact e2) H1 locs1 ls ⟨a1, a2, a3, hS.2.2.2⟩)
        obtain ⟨hx, hb, hrt, hlk, hml, hown, hts, hK, hN, hA, hnm⟩ := hE
        obtain ⟨hd, hn⟩ := rvD_of (ins := .iastore) hck
        rw [hn] at hk
        refine va_iast hx hb hK hS.1 (gWs_D b cA h) hS.2.2.1 q 0 (gWs_at hq) (rvTys_get cA (t := 1) (by decide) (by decide)) (rvIn hc) hd (fun H1 locs1 a1 a2 a3 => ?_)
        have hset : (gWs b cA h).set q (b + q, .inl (cA 1, N, .inl (upd f j.toNatClampNeg v))) = gWs b cA (h.set q (.inr (.inl (1, N, upd f j.toInt.toNat v)))) := gW_at (y := .inr (.inl (1, N, upd f j.toInt.toNat v))) hq
        rw [hset] at a1
        exact hk H1 locs1 a1 a3
      · cases hy
    · cases hy
  · cases hy
theorem gC_3 (hF : gHyp l F) : gCase l F 3 := by
  intro i n als ast h h' a b0 ix hi hck hv hg p e R s m args below meth c cA D b nc ns NC NS hE hR e1 e2 H locs ls hS
  obtain ⟨y, hy, hr⟩ := hg
  replace hy : (match (generalizing := false) ast with | v :: .inr (some q) :: st => (match h[q]? with | some (.inl (k, fs)) => if k = a ∧ b0 < fs.length then some (n + 1, als, st, h.set q (.inl (k, fs.set b0 v))) else none | _ => none) | _ => none) = some y := hy
  split at hy
  · rename_i v q r
    split at hy
    · rename_i k fs hq
      split at hy
      · rename_i hc
        obtain ⟨rfl, hc⟩ := hc
        cases hy
        dsimp only at hr
        simp only [gCk, Bool.and_eq_true] at hck
        obtain ⟨h1, h2, h3⟩ := hck
        obtain ⟨hd, hn⟩ := rvD_of h1
        obtain ⟨q1, hq1, hbq, hlk0⟩ := rvLf_use h2
        have hs := gSum_set (e2 := .inl (k, fs.set b0 v)) hq (by show (fs.set b0 v).length = fs.length; simp)
        have hk := fun H1 locs1 (a1 : va_P D vwCl (gWs b cA (h.set q (.inl (k, fs.set b0 v)))) H1) (a3 : va_S (fun q => b ≤ q) s.heap H1 locs1) => gW_size a1 (by rw [List.length_set]; exact e1.2) (by rw [List.length_set]; exact gLen0 hq) (fun a2 => hF i (n + 1) _ _ _ _ hi hr p e R s m args below meth c cA D b nc ns NC NS hE hR (by rw [List.length_set]; exact e1) (by rw [hs]; exact e2) H1 locs1 ls ⟨a1, a2, a3, hS.2.2.2⟩)
        obtain ⟨hx, hb, hrt, hlk, hml, hown, hts, hK, hN, hA, hnm⟩ := hE
        rw [hn] at hk
        have hset : (gWs b cA h).set q (b + q, .inr (k, (fs.map (gTr b)).set b0 (gTr b v))) = gWs b cA (h.set q (.inl (k, fs.set b0 v))) := by
          rw [← gW_at (y := .inl (k, fs.set b0 v)) hq]
          show _ = (gWs b cA h).set q (b + q, .inr (k, (fs.set b0 v).map (gTr b)))
          rw [List.map_set]
        obtain ⟨ty, hty⟩ := rvTyOk k q1 hq1
        have ref := rvRef_ok k q1 hq1 b0 hbq
        have hl : b0 < (fs.map (gTr b)).length := by rw [List.length_map]; exact hc
        have hk11 : k < 11 := (List.getElem?_eq_some_iff.mp hq1).1
        match v, hv, hk, hset with
        | .inl w, hv, hk, hset =>
          replace hv : (Nat.beq (rvFt k b0) 0 || (Nat.beq (rvFt k b0) 1 && (w == 0 || w == 1))) = true := hv
          simp only [Bool.or_eq_true, Bool.and_eq_true, Nat.beq_eq, beq_iff_eq] at hv
          obtain ⟨-, hI, hZ⟩ := rvObj_get hq1 hbq
          have hff : ∃ fty : FieldType, parseFieldDescriptor (q1.2.1 b0).2.2.1 = some fty ∧ narrow fty (.int w) = .int w ∧ fits fty (.int w) = true ∧ (q1.2.1 b0).2.2.2 = false := by
            rcases hv with e0 | ⟨e0, hw⟩
            · exact ⟨.int, by rw [(hI e0).1]; decide +kernel, rfl, rfl, (hI e0).2⟩
            · refine ⟨.boolean, by rw [(hZ e0).1]; decide +kernel, ?_, ?_, (hZ e0).2⟩
              · rcases hw with rfl | rfl <;> rfl
              · rcases hw with rfl | rfl <;> rfl
          obtain ⟨fty, f1, f2, f3, f4⟩ := hff
          refine va_put (v := .int w) (cl := vwCl) (C := q1.1) (T := q1.2.1) (N := q1.2.2) (ref := q1.1) hx hb hts (rvU_ws k q1 hq1) ty hty (rvNm k q1 hq1) hown hK hS.1 (gWs_D b cA h) hS.2.2.1 q (gWs_at hq) hq1 b0 hbq (hts _ hlk0) (fun x hx => by rw [ref] at hx; exact hx) f4 f1 f2 f3 hl hd (fun H1 locs1 a1 a2 a3 => ?_)
          rw [show (gWs b cA h).set q (b + q, .inr (k, (fs.map (gTr b)).set b0 (.int w))) = _ from hset] at a1
          exact hk H1 locs1 a1 a3
        | .inr (some g), hv2, hk, hset =>
          replace hv2 : Nat.beq (rvFt k b0) 2 = true := hv2
          rw [hv2] at h3
          have hki : k = i := by
            simp only [Bool.not_true, Bool.or_false, Nat.beq_eq] at h3
            exact h3
          subst hki
          obtain ⟨t, t1, t2, -⟩ := gFld hq1 hbq
          obtain ⟨-, t3, t4, t5⟩ := t2 (Nat.eq_of_beq_eq_true hv2)
          have hdecl : (q1.2.1 b0).1 = gOwn k := ref.trans ((gOb hq1).2.1.symm.trans (gOwnCN hk11).2.1.symm)
          refine va_putF (v := .ref (b + g)) (cl := vwCl) (C := q1.1) (T := q1.2.1) (N := q1.2.2) (ref := q1.1) hx hb hts (rvU_ws k q1 hq1) ty hty (rvNm k q1 hq1) hown hK hS.1 (gWs_D b cA h) hS.2.2.1 q (gWs_at hq) hq1 b0 hbq (hts _ hlk0) (fun x hx => by rw [ref] at hx; exact hx) t3 hnm hdecl t1 (t4 _) (t5 _) hl hd (fun H1 locs1 a1 a2 a3 => ?_)
          rw [show (gWs b cA h).set q (b + q, .inr (k, (fs.map (gTr b)).set b0 (.ref (b + g)))) = _ from hset] at a1
          exact hk H1 locs1 a1 a3
        | .inr none, hv, _, _ => cases hv
      · cases hy
    · cases hy
  · cases hy
theorem gC_4 (hF : gHyp l F) : gCase l F 4 := by
  intro i n als ast h h' a b0 ix hi hck hv hg p e R s m args below meth c cA D b nc ns NC NS hE hR e1 e2 H locs ls hS
  obtain ⟨y, hy, hr⟩ := hg
  replace hy : (match (generalizing := false) ast with | .inr (some q) :: st => (match h[q]? with | some (.inl (k, fs)) => (match fs[b0]? with | some (.inr (some r)) => if k = a then some (n + 1, als, .inr (some r) :: st, h) else none | _ => none) | _ => none) | _ => none) = some y := hy
  split at hy
  · rename_i q st
    split at hy
    · rename_i k fs hq
      split at hy
      · rename_i r hfr
        split at hy
        · rename_i hc
          subst hc
          cases hy
          have hk := hF i (n + 1) _ _ _ _ hi hr p e R s m args below meth c cA D b nc ns NC NS hE hR e1 e2 H locs ls hS
          simp only [gCk, Bool.and_eq_true] at hck
          obtain ⟨h1, h2⟩ := hck
          obtain ⟨hd, hn⟩ := rvD_of h1
          obtain ⟨q1, hq1, hbq, hlk0⟩ := rvLf_use h2
          obtain ⟨hx, hb, hrt, hlk, hml, hown, hts, hK, hN, hA, hnm⟩ := hE
          rw [hn] at hk
          have ref := rvRef_ok k q1 hq1 b0 hbq
          exact va_get (v := .ref (b + r)) (cl := vwCl) (C := q1.1) (T := q1.2.1) (N := q1.2.2) (ref := q1.1) hx hb hts (rvU_ws k q1 hq1) hown hK hS.1 q (gWs_at hq) hq1 b0 hbq (hts _ hlk0) (fun x hx => by rw [ref] at hx; exact hx) (by rw [List.getElem?_map, hfr]; rfl) hd hk
        · cases hy
      · cases hy
    · cases hy
  · cases hy
set_option maxRecDepth 100000 in
theorem gObjW : Cond.instanceMethod Lib.objectInit ∈ rvT ∧ Cond.code Lib.objectInit ⟨#[0xb1]⟩ 1 none ∈ rvT := ⟨rvT_dec (by decide +kernel), rvT_dec (by decide +kernel)⟩
theorem gLv2 (i : Nat) : 2 ≤ gLv i := by
  unfold gLv
  split
  · decide
  · split <;> decide
theorem gC_7 (hF : gHyp l F) : gCase l F 7 := by
  intro i n als ast h h' a b0 ix hi hck hv hg p e R s m args below meth c cA D b nc ns NC NS hE hR e1 e2 H locs ls hS
  obtain ⟨y, hy, hr⟩ := hg
  replace hy : (match (generalizing := false) ast with | .inr (some q) :: st => (match h[q]? with | some (.inl (_, _)) => some (n + 1, als, st, h) | _ => none) | _ => none) = some y := hy
  replace hv : Nat.ble ast.length 8 = true := hv
  split at hy
  · rename_i q st
    split at hy
    · cases hy
      have hk := hF i (n + 1) _ _ _ _ hi hr p e R s m args below meth c cA D b nc ns NC NS hE hR e1 e2 H locs ls hS
      simp only [gCk, Bool.and_eq_true] at hck
      obtain ⟨h1, h2⟩ := hck
      obtain ⟨hd, hn⟩ := rvD_of h1
      obtain ⟨hx, hb, hrt, hlk, hml, hown, hts, hK, hN, hA, hnm⟩ := hE
      rw [hn] at hk
      have hv9 : st.length + 1 ≤ 8 := Nat.le_of_ble_eq_true hv
      have hlv := gLv2 i
      refine W.objInit hx hb hown (hts _ (rvAtT_in h2)) (hts _ gObjW.1) (hts _ gObjW.2) rfl (hS.2.2.2.1.trans hml.symm) rfl hd (by omega) ?_ hk
      show 2 * 0 + _ + 12 ≤ _
      rw [show ((List.map (gTr b) st).map fun v => v.category).sum = st.length from gCat st]
      omega
    · cases hy
  · cases hy
theorem gC_15 (hF : gHyp l F) : gCase l F 15 := by
  intro i n als ast h h' a b0 ix hi hck hv hg p e R s m args below meth c cA D b nc ns NC NS hE hR e1 e2 H locs ls hS
  obtain ⟨y, hy, hr⟩ := hg
  replace hy : (match (generalizing := false) ast with | .inl v :: st => if 0 ≤ v.toInt ∧ v.toInt ≤ 100000 then some (n + 1, als, .inr (some h.length) :: st, h ++ [.inr (.inr (.inr (a, v.toInt.toNat, fun _ => none)))]) else none | _ => none) = some y := hy
  split at hy
  · rename_i v r
    split at hy
    · rename_i hv0
      cases hy
      have mo := gRunV_mono _ _ _ _ _ _ _ hr
      dsimp only at hr mo
      simp only [gCk, Bool.and_eq_true, decide_eq_true_eq] at hck
      obtain ⟨h1, ha, h3⟩ := hck
      obtain ⟨k, -, h4⟩ := List.any_eq_true.mp h3
      simp only [Bool.and_eq_true] at h4
      obtain ⟨hd, hn⟩ := rvD_of h1
      obtain ⟨hx, hb, hrt, hlk, hml, hown, hts, hK, hN, hA, hnm⟩ := id hE
      have hty : rvTy a = .object (gAoN a) ∧ va_AO (gAoN a) s := by
        rcases (show a = 5 ∨ a = 6 ∨ a = 7 ∨ a = 8 ∨ a = 9 ∨ a = 10 by omega) with rfl | rfl | rfl | rfl | rfl | rfl
        · exact ⟨rfl, hA (5, 99) (by decide)⟩
        · exact ⟨rfl, hA (6, 278) (by decide)⟩
        · exact ⟨rfl, hA (7, 97) (by decide)⟩
        · exact ⟨rfl, hA (8, 276) (by decide)⟩
        · exact ⟨rfl, hA (9, 440) (by decide)⟩
        · exact ⟨rfl, hA (10, 101) (by decide)⟩
      have hsz : gSz (.inr (.inr (.inr (a, v.toInt.toNat, fun _ => none))) : gE) = v.toInt.toNat := rfl
      rw [List.length_append, gSum_app, hsz] at mo
      have mo1 : h.length + 1 ≤ h'.length := mo.1
      refine gX_newq (t := a) hx hb (by omega) hty.1 hown (hts _ (rvAtT_in h4.2)) hty.2 hK hS.1 hS.2.1 hS.2.2.1 (gI0 hv0.1) (N' := v.toInt.toNat) rfl (by omega) (by omega) (by omega) hd (fun H1 k1 k2 k3 => ?_)
      have hk := hF i (n + 1) _ _ _ _ hi hr p e R s m args below meth c cA D b (nc + 1) (ns + v.toInt.toNat) NC NS hE hR (gE1 e1) (by rw [gSum_app, hsz]; omega) H1 locs ls ⟨k1, k2, k3, hS.2.2.2⟩
      rw [hn] at hk
      exact hk
    · cases hy
  · cases hy
theorem gRow_of {h : List gE} {q t N : Nat} {f : Nat → Option Nat} (hr : gRow h q = true) (hq : h[q]? = some (.inr (.inr (.inr (t, N, f))))) : 5 ≤ t ∧ t ≤ 10 := by
  unfold gRow at hr
  rw [hq] at hr
  exact of_decide_eq_true hr
theorem gRks {t : Nat} (ht : 5 ≤ t ∧ t ≤ 10) : ∃ r : vw_C, vwCl[(rvRks.getD t (99, 0)).1]? = some r ∧ rvTy t = .object r.1 := by
  have h0 : (List.range 6).all (fun j => match vwCl[(rvRks.getD (j + 5) (99, 0)).1]? with
    | some r => decide (rvTy (j + 5) = .object r.1)
    | none => false) = true := by decide +kernel
  have h1 := List.all_eq_true.mp h0 (t - 5) (List.mem_range.mpr (by omega))
  rw [show t - 5 + 5 = t by omega] at h1
  cases hr : vwCl[(rvRks.getD t (99, 0)).1]? with
  | none => rw [hr] at h1; cases h1
  | some r => rw [hr] at h1; exact ⟨r, rfl, of_decide_eq_true h1⟩
theorem gC_16 (hF : gHyp l F) : gCase l F 16 := by
  intro i n als ast h h' a b0 ix hi hck hv hg p e R s m args below meth c cA D b nc ns NC NS hE hR e1 e2 H locs ls hS
  obtain ⟨y, hy, hr⟩ := hg
  replace hy : (match (generalizing := false) ast with | .inr (some v) :: .inl j :: .inr (some q) :: st => (match h[q]?, h[v]? with | some (.inr (.inr (.inr (t, N, f)))), some (.inl (k, _)) => if (rvRks.getD t (99, 0)).1 = k ∧ 0 ≤ j.toInt ∧ j.toInt < N then some (n + 1, als, st, h.set q (.inr (.inr (.inr (t, N, va_up f j.toInt.toNat (some v)))))) else none | _, _ => none) | _ => none) = some y := hy
  split at hy
  · rename_i v j q r
    split at hy
    · rename_i t N f k fs hq hqv
      split at hy
      · rename_i hc
        obtain ⟨rfl, hc⟩ := hc
        cases hy
        dsimp only at hr
        have ht := gRow_of (show gRow h q = true from hv) hq
        obtain ⟨rk, hrk, hrt9⟩ := gRks ht
        have hs := gSum_set (e2 := .inr (.inr (.inr (t, N, va_up f j.toInt.toNat (some v))))) hq rfl
        have hk := fun H1 locs1 (a1 : va_P D vwCl (gWs b cA (h.set q (.inr (.inr (.inr (t, N, va_up f j.toInt.toNat (some v))))))) H1) (a3 : va_S (fun q => b ≤ q) s.heap H1 locs1) => gW_size a1 (by rw [List.length_set]; exact e1.2) (by rw [List.length_set]; exact gLen0 hq) (fun a2 => hF i (n + 1) _ _ _ _ hi hr p e R s m args below meth c cA D b nc ns NC NS hE hR (by rw [List.length_set]; exact e1) (by rw [hs]; exact e2) H1 locs1 ls ⟨a1, a2, a3, hS.2.2.2⟩)
        obtain ⟨hx, hb, hrt, hlk, hml, hown, hts, hK, hN, hA, hnm⟩ := hE
        obtain ⟨hd, hn⟩ := rvD_of (ins := .aastore) hck
        rw [hn] at hk
        have hty := rvTys_get cA (t := t) (by omega) ht.2
        rw [hrt9] at hty
        refine va_astq hx hb hK hS.1 (gWs_D b cA h) hS.2.2.1 q (t - 1) v _ (gWs_at hq) hty (gWs_at hqv) hrk (rvIn hc) hd (fun H1 locs1 a1 a2 a3 => ?_)
        have hfe : (va_up (fun j => (f j).map (fun k => b + k)) j.toNatClampNeg (some (b + v))) = (fun j9 => (va_up f j.toInt.toNat (some v) j9).map (fun k => b + k)) := by
          funext j9
          unfold va_up
          rw [rvCl]
          split <;> rfl
        rw [hfe] at a1
        rw [show (gWs b cA h).set q (b + q, .inl (cA t, N, .inr (.inr (.inr (.inr (fun j9 => (va_up f j.toInt.toNat (some v) j9).map (fun k => b + k))))))) = _ from gW_at (y := .inr (.inr (.inr (t, N, va_up f j.toInt.toNat (some v))))) hq] at a1
        exact hk H1 locs1 a1 a3
      · cases hy
    · cases hy
  · cases hy
theorem gC_17 (hF : gHyp l F) : gCase l F 17 := by
  intro i n als ast h h' a b0 ix hi hck hv hg p e R s m args below meth c cA D b nc ns NC NS hE hR e1 e2 H locs ls hS
  obtain ⟨y, hy, hr⟩ := hg
  replace hy : (match (generalizing := false) ast with | .inl j :: .inr (some q) :: st => (match h[q]? with | some (.inr (.inr (.inr (_, N, f)))) => (match f j.toInt.toNat with | some v => if 0 ≤ j.toInt ∧ j.toInt < N then some (n + 1, als, .inr (some v) :: st, h) else none | none => none) | _ => none) | _ => none) = some y := hy
  split at hy
  · rename_i j q r
    split at hy
    · rename_i t N f hq
      split at hy
      · rename_i v hfv
        split at hy
        · rename_i hc
          cases hy
          have ht := gRow_of (show gRow h q = true from hv) hq
          obtain ⟨rk, hrk, hrt9⟩ := gRks ht
          have hk := hF i (n + 1) _ _ _ _ hi hr p e R s m args below meth c cA D b nc ns NC NS hE hR e1 e2 H locs ls hS
          obtain ⟨hx, hb, hrt, hlk, hml, hown, hts, hK, hN, hA, hnm⟩ := hE
          obtain ⟨hd, hn⟩ := rvD_of (ins := .aaload) hck
          rw [hn] at hk
          have hty := rvTys_get cA (t := t) (by omega) ht.2
          rw [hrt9] at hty
          refine va_aldq hx hb hK hS.1 q (t - 1) (gWs_at hq) hty (rvIn hc) hd ?_
          have e9 : va_rf ((fun j => (f j).map (fun k => b + k)) j.toNatClampNeg) = .ref (b + v) := by
            show va_rf ((f j.toNatClampNeg).map (fun k => b + k)) = _
            rw [rvCl, hfv]; rfl
          rw [e9]
          exact hk
        · cases hy
      · cases hy
    · cases hy
  · cases hy
theorem gC_18 {i n : Nat} {als : List gV} {h : List gE} {a b0 ix : Nat} (hck : gCk i n (gPc i n, 18, a, b0, ix) = true) : gSnd l i n als [] h h := by
  intro p e R s m args below meth c cA D b nc ns NC NS hE hR e1 e2 H locs ls hS
  obtain ⟨hx, hb, hrt, hlk, hml, hown, hts, hK, hN, hA, hnm⟩ := hE
  obtain rfl : nc = NC := by omega
  obtain rfl : ns = NS := by omega
  exact W.vret hx hb hrt (fun t ht _ => ⟨⟨rfl, by rw [ht]; exact hS.1, by rw [ht]; exact hS.2.1⟩, hS.2.2.1.F ht⟩) hS.2.2.1.2.2 (rvDc_of hck) hlk
end GS
