-- the loop of the law (wip/whole/gen/laws86.py)
theorem yPi_b {d ic im : Nat} {as : List zV} {σ : zS} {f : Nat → Nat → Int} (hi : ¬ ic = 0) (hm : ¬ im = 0) (h : yPi d ic im as σ) (P : Pb σ) (hf : σ.1 108 = f) : zM (d + 60) ic (.inr (.inr (9, 0)) :: as) σ (fun a s => (∃ v : Int, a = some (.inl v) ∧ zM (d + 60) im (.inr (.inr (10, 0)) :: as) s (fun b s2 => b = some (.inl v) ∧ yRel s2 ∧ Pb s2 ∧ s2.1 108 = f)) ∧ s.1 108 = f) := by
  obtain ⟨F, r, s, h1, h2⟩ := h
  obtain ⟨F2, r2, s2, g1, ⟨v, g2, g3⟩, g4⟩ := h2
  have e1 := zFr_E F _ _ _ _ _ _ _ _ h1
  have e2 := zFr_E F2 _ _ _ _ _ _ _ _ g1
  have p1 := zKb_E F _ _ _ _ _ _ _ _ h1 (.inl (kS_0 hi)) P
  have p2 := zKb_E F2 _ _ _ _ _ _ _ _ g1 (.inl (kS_0 hm)) p1
  exact ⟨F, r, s, h1, ⟨v, g2, F2, r2, s2, g1, g3, g4, p2, e2.trans (e1.trans hf)⟩, e1.trans hf⟩
theorem yPl_b {d ic im : Nat} {as : List zV} {σ : zS} {f : Nat → Nat → Int} (hi : ¬ ic = 0) (hm : ¬ im = 0) (h : yPl d ic im as σ) (P : Pb σ) (hf : σ.1 108 = f) : zM (d + 60) ic (.inr (.inr (9, 0)) :: as) σ (fun a s => (∃ v : Int, a = some (.inr (.inl v)) ∧ zM (d + 60) im (.inr (.inr (10, 0)) :: as) s (fun b s2 => b = some (.inr (.inl v)) ∧ yRel s2 ∧ Pb s2 ∧ s2.1 108 = f)) ∧ s.1 108 = f) := by
  obtain ⟨F, r, s, h1, h2⟩ := h
  obtain ⟨F2, r2, s2, g1, ⟨v, g2, g3⟩, g4⟩ := h2
  have e1 := zFr_E F _ _ _ _ _ _ _ _ h1
  have e2 := zFr_E F2 _ _ _ _ _ _ _ _ g1
  have p1 := zKb_E F _ _ _ _ _ _ _ _ h1 (.inl (kS_0 hi)) P
  have p2 := zKb_E F2 _ _ _ _ _ _ _ _ g1 (.inl (kS_0 hm)) p1
  exact ⟨F, r, s, h1, ⟨v, g2, F2, r2, s2, g1, g3, g4, p2, e2.trans (e1.trans hf)⟩, e1.trans hf⟩
/-- between two calls of the law -/
def lwS (f : Nat → Nat → Int) (σ : zS) : Prop := yRel σ ∧ Pb σ ∧ σ.1 108 = f
theorem lw_ld {d n k L pc b c : Nat} {tb : List Nat} {f : Nat → Nat → Int} {v : Int} {ls : zL} {st : List zV} {σ : zS} {Q : Option zV → zS → Prop} (hf : (rvCode 191)[n]? = some (pc, 12, 1, b, c, tb)) (hs : σ.1 108 = f) (hl : (f 0 1000000).toNat = L) (hv : v = (k : Int)) (hk : k < L) (kk : zX d 191 (n + 1) ls (.inl (f 0 k) :: st) σ Q) : zX d 191 n ls (.inl v :: .inr (.inr (108, 0)) :: st) σ Q := by
  subst hv
  refine zX_ald1 (L := L) hf (.inr rfl) (by show (σ.1 108 0 1000000).toNat = L; rw [hs]; exact hl) (by omega) ?_
  show zX d 191 (n + 1) ls (.inl (σ.1 108 0 k) :: st) σ Q
  rw [hs]; exact kk
set_option maxRecDepth 40000 in
theorem lc_0 {d i L : Nat} {x : Int} {f : Nat → Nat → Int} {σ : zS} {Q : Option zV → zS → Prop} (hl : (f 0 1000000).toNat = L) (hL : L ≤ 3584) (hx : x = (i : Int)) (hi : i + 6 < L) (hv : ∀ j, -2147483648 ≤ f 0 j ∧ f 0 j ≤ 2147483647) (H : lwS f σ) (hQ : ∀ s, lwS f s → zX (d + 61) 191 1275 [some (.inr (.inr (108, 0))), some (.inr (.inr (9, 0))), some (.inr (.inr (10, 0))), some (.inl x)] [] s Q) : zX (d + 61) 191 22 [some (.inr (.inr (108, 0))), some (.inr (.inr (9, 0))), some (.inr (.inr (10, 0))), some (.inl x)] [] σ Q := by
  obtain ⟨R, P, hs⟩ := H
  refine zX_run (n' := 23) (ls' := [some (.inr (.inr (108, 0))), some (.inr (.inr (9, 0))), some (.inr (.inr (10, 0))), some (.inl x)]) (st' := [.inr (.inr (9, 0))]) (σ' := σ) 1 rfl ?_
  refine zX_run (n' := 27) (ls' := [some (.inr (.inr (108, 0))), some (.inr (.inr (9, 0))), some (.inr (.inr (10, 0))), some (.inl x)]) (st' := [.inl (zW (x + 1)), .inr (.inr (108, 0)), .inr (.inr (9, 0))]) (σ' := σ) 4 rfl ?_
  refine lw_ld (k := i + 1) rfl hs hl (by unfold zW; omega) (by omega) ?_
  refine zX_run (n' := 32) (ls' := [some (.inr (.inr (108, 0))), some (.inr (.inr (9, 0))), some (.inr (.inr (10, 0))), some (.inl x)]) (st' := [.inl (zW (x + 2)), .inr (.inr (108, 0)), .inl (f 0 (i + 1)), .inr (.inr (9, 0))]) (σ' := σ) 4 rfl ?_
  refine lw_ld (k := i + 2) rfl hs hl (by unfold zW; omega) (by omega) ?_
  refine zX_run (n' := 37) (ls' := [some (.inr (.inr (108, 0))), some (.inr (.inr (9, 0))), some (.inr (.inr (10, 0))), some (.inl x)]) (st' := [.inl (zW (x + 3)), .inr (.inr (108, 0)), .inl (f 0 (i + 2)), .inl (f 0 (i + 1)), .inr (.inr (9, 0))]) (σ' := σ) 4 rfl ?_
  refine lw_ld (k := i + 3) rfl hs hl (by unfold zW; omega) (by omega) ?_
  refine zX_call rfl rfl ?_
  refine zM_mono (yPi_b (by decide) (by decide) (yp_side (d := d) R (f 0 (i + 1)) (f 0 (i + 2)) (f 0 (i + 3))) P hs) (fun a s h => ?_)
  obtain ⟨⟨v, rfl, h⟩, hs⟩ := h
  refine zX_run (n' := 40) (ls' := [some (.inr (.inr (108, 0))), some (.inr (.inr (9, 0))), some (.inr (.inr (10, 0))), some (.inl x)]) (st' := [.inr (.inr (10, 0)), .inl v]) (σ' := s) 1 rfl ?_
  refine zX_run (n' := 44) (ls' := [some (.inr (.inr (108, 0))), some (.inr (.inr (9, 0))), some (.inr (.inr (10, 0))), some (.inl x)]) (st' := [.inl (zW (x + 1)), .inr (.inr (108, 0)), .inr (.inr (10, 0)), .inl v]) (σ' := s) 4 rfl ?_
  refine lw_ld (k := i + 1) rfl hs hl (by unfold zW; omega) (by omega) ?_
  refine zX_run (n' := 49) (ls' := [some (.inr (.inr (108, 0))), some (.inr (.inr (9, 0))), some (.inr (.inr (10, 0))), some (.inl x)]) (st' := [.inl (zW (x + 2)), .inr (.inr (108, 0)), .inl (f 0 (i + 1)), .inr (.inr (10, 0)), .inl v]) (σ' := s) 4 rfl ?_
  refine lw_ld (k := i + 2) rfl hs hl (by unfold zW; omega) (by omega) ?_
  refine zX_run (n' := 54) (ls' := [some (.inr (.inr (108, 0))), some (.inr (.inr (9, 0))), some (.inr (.inr (10, 0))), some (.inl x)]) (st' := [.inl (zW (x + 3)), .inr (.inr (108, 0)), .inl (f 0 (i + 2)), .inl (f 0 (i + 1)), .inr (.inr (10, 0)), .inl v]) (σ' := s) 4 rfl ?_
  refine lw_ld (k := i + 3) rfl hs hl (by unfold zW; omega) (by omega) ?_
  refine zX_call rfl rfl ?_
  refine zM_mono h (fun b s2 h2 => ?_)
  obtain ⟨rfl, R2, P2, hs2⟩ := h2
  exact zX_c0 rfl (fun _ => hQ s2 ⟨R2, P2, hs2⟩) (fun e => absurd rfl e)
set_option maxRecDepth 40000 in
theorem lc_1 {d i L : Nat} {x : Int} {f : Nat → Nat → Int} {σ : zS} {Q : Option zV → zS → Prop} (hl : (f 0 1000000).toNat = L) (hL : L ≤ 3584) (hx : x = (i : Int)) (hi : i + 6 < L) (hv : ∀ j, -2147483648 ≤ f 0 j ∧ f 0 j ≤ 2147483647) (H : lwS f σ) (hQ : ∀ s, lwS f s → zX (d + 61) 191 1275 [some (.inr (.inr (108, 0))), some (.inr (.inr (9, 0))), some (.inr (.inr (10, 0))), some (.inl x)] [] s Q) : zX (d + 61) 191 59 [some (.inr (.inr (108, 0))), some (.inr (.inr (9, 0))), some (.inr (.inr (10, 0))), some (.inl x)] [] σ Q := by
  obtain ⟨R, P, hs⟩ := H
  refine zX_run (n' := 60) (ls' := [some (.inr (.inr (108, 0))), some (.inr (.inr (9, 0))), some (.inr (.inr (10, 0))), some (.inl x)]) (st' := [.inr (.inr (9, 0))]) (σ' := σ) 1 rfl ?_
  refine zX_run (n' := 64) (ls' := [some (.inr (.inr (108, 0))), some (.inr (.inr (9, 0))), some (.inr (.inr (10, 0))), some (.inl x)]) (st' := [.inl (zW (x + 1)), .inr (.inr (108, 0)), .inr (.inr (9, 0))]) (σ' := σ) 4 rfl ?_
  refine lw_ld (k := i + 1) rfl hs hl (by unfold zW; omega) (by omega) ?_
  refine zX_run (n' := 69) (ls' := [some (.inr (.inr (108, 0))), some (.inr (.inr (9, 0))), some (.inr (.inr (10, 0))), some (.inl x)]) (st' := [.inl (zW (x + 2)), .inr (.inr (108, 0)), .inl (f 0 (i + 1)), .inr (.inr (9, 0))]) (σ' := σ) 4 rfl ?_
  refine lw_ld (k := i + 2) rfl hs hl (by unfold zW; omega) (by omega) ?_
  refine zX_call rfl rfl ?_
  refine zM_mono (yPi_b (by decide) (by decide) (yp_salt (d := d) R (f 0 (i + 1)) (f 0 (i + 2))) P hs) (fun a s h => ?_)
  obtain ⟨⟨v, rfl, h⟩, hs⟩ := h
  refine zX_run (n' := 72) (ls' := [some (.inr (.inr (108, 0))), some (.inr (.inr (9, 0))), some (.inr (.inr (10, 0))), some (.inl x)]) (st' := [.inr (.inr (10, 0)), .inl v]) (σ' := s) 1 rfl ?_
  refine zX_run (n' := 76) (ls' := [some (.inr (.inr (108, 0))), some (.inr (.inr (9, 0))), some (.inr (.inr (10, 0))), some (.inl x)]) (st' := [.inl (zW (x + 1)), .inr (.inr (108, 0)), .inr (.inr (10, 0)), .inl v]) (σ' := s) 4 rfl ?_
  refine lw_ld (k := i + 1) rfl hs hl (by unfold zW; omega) (by omega) ?_
  refine zX_run (n' := 81) (ls' := [some (.inr (.inr (108, 0))), some (.inr (.inr (9, 0))), some (.inr (.inr (10, 0))), some (.inl x)]) (st' := [.inl (zW (x + 2)), .inr (.inr (108, 0)), .inl (f 0 (i + 1)), .inr (.inr (10, 0)), .inl v]) (σ' := s) 4 rfl ?_
  refine lw_ld (k := i + 2) rfl hs hl (by unfold zW; omega) (by omega) ?_
  refine zX_call rfl rfl ?_
  refine zM_mono h (fun b s2 h2 => ?_)
  obtain ⟨rfl, R2, P2, hs2⟩ := h2
  exact zX_c0 rfl (fun _ => hQ s2 ⟨R2, P2, hs2⟩) (fun e => absurd rfl e)
set_option maxRecDepth 40000 in
theorem lc_2 {d i L : Nat} {x : Int} {f : Nat → Nat → Int} {σ : zS} {Q : Option zV → zS → Prop} (hl : (f 0 1000000).toNat = L) (hL : L ≤ 3584) (hx : x = (i : Int)) (hi : i + 6 < L) (hv : ∀ j, -2147483648 ≤ f 0 j ∧ f 0 j ≤ 2147483647) (H : lwS f σ) (hQ : ∀ s, lwS f s → zX (d + 61) 191 1275 [some (.inr (.inr (108, 0))), some (.inr (.inr (9, 0))), some (.inr (.inr (10, 0))), some (.inl x)] [] s Q) : zX (d + 61) 191 86 [some (.inr (.inr (108, 0))), some (.inr (.inr (9, 0))), some (.inr (.inr (10, 0))), some (.inl x)] [] σ Q := by
  obtain ⟨R, P, hs⟩ := H
  refine zX_run (n' := 87) (ls' := [some (.inr (.inr (108, 0))), some (.inr (.inr (9, 0))), some (.inr (.inr (10, 0))), some (.inl x)]) (st' := [.inr (.inr (9, 0))]) (σ' := σ) 1 rfl ?_
  refine zX_run (n' := 91) (ls' := [some (.inr (.inr (108, 0))), some (.inr (.inr (9, 0))), some (.inr (.inr (10, 0))), some (.inl x)]) (st' := [.inl (zW (x + 1)), .inr (.inr (108, 0)), .inr (.inr (9, 0))]) (σ' := σ) 4 rfl ?_
  refine lw_ld (k := i + 1) rfl hs hl (by unfold zW; omega) (by omega) ?_
  refine zX_run (n' := 96) (ls' := [some (.inr (.inr (108, 0))), some (.inr (.inr (9, 0))), some (.inr (.inr (10, 0))), some (.inl x)]) (st' := [.inl (zW (x + 2)), .inr (.inr (108, 0)), .inl (f 0 (i + 1)), .inr (.inr (9, 0))]) (σ' := σ) 4 rfl ?_
  refine lw_ld (k := i + 2) rfl hs hl (by unfold zW; omega) (by omega) ?_
  refine zX_run (n' := 101) (ls' := [some (.inr (.inr (108, 0))), some (.inr (.inr (9, 0))), some (.inr (.inr (10, 0))), some (.inl x)]) (st' := [.inl (zW (x + 3)), .inr (.inr (108, 0)), .inl (f 0 (i + 2)), .inl (f 0 (i + 1)), .inr (.inr (9, 0))]) (σ' := σ) 4 rfl ?_
  refine lw_ld (k := i + 3) rfl hs hl (by unfold zW; omega) (by omega) ?_
  refine zX_call rfl rfl ?_
  refine zM_mono (yPi_b (by decide) (by decide) (yp_flood (d := d) R (f 0 (i + 1)) (f 0 (i + 2)) (f 0 (i + 3))) P hs) (fun a s h => ?_)
  obtain ⟨⟨v, rfl, h⟩, hs⟩ := h
  refine zX_run (n' := 104) (ls' := [some (.inr (.inr (108, 0))), some (.inr (.inr (9, 0))), some (.inr (.inr (10, 0))), some (.inl x)]) (st' := [.inr (.inr (10, 0)), .inl v]) (σ' := s) 1 rfl ?_
  refine zX_run (n' := 108) (ls' := [some (.inr (.inr (108, 0))), some (.inr (.inr (9, 0))), some (.inr (.inr (10, 0))), some (.inl x)]) (st' := [.inl (zW (x + 1)), .inr (.inr (108, 0)), .inr (.inr (10, 0)), .inl v]) (σ' := s) 4 rfl ?_
  refine lw_ld (k := i + 1) rfl hs hl (by unfold zW; omega) (by omega) ?_
  refine zX_run (n' := 113) (ls' := [some (.inr (.inr (108, 0))), some (.inr (.inr (9, 0))), some (.inr (.inr (10, 0))), some (.inl x)]) (st' := [.inl (zW (x + 2)), .inr (.inr (108, 0)), .inl (f 0 (i + 1)), .inr (.inr (10, 0)), .inl v]) (σ' := s) 4 rfl ?_
  refine lw_ld (k := i + 2) rfl hs hl (by unfold zW; omega) (by omega) ?_
  refine zX_run (n' := 118) (ls' := [some (.inr (.inr (108, 0))), some (.inr (.inr (9, 0))), some (.inr (.inr (10, 0))), some (.inl x)]) (st' := [.inl (zW (x + 3)), .inr (.inr (108, 0)), .inl (f 0 (i + 2)), .inl (f 0 (i + 1)), .inr (.inr (10, 0)), .inl v]) (σ' := s) 4 rfl ?_
  refine lw_ld (k := i + 3) rfl hs hl (by unfold zW; omega) (by omega) ?_
  refine zX_call rfl rfl ?_
  refine zM_mono h (fun b s2 h2 => ?_)
  obtain ⟨rfl, R2, P2, hs2⟩ := h2
  exact zX_c0 rfl (fun _ => hQ s2 ⟨R2, P2, hs2⟩) (fun e => absurd rfl e)
set_option maxRecDepth 40000 in
theorem lc_3 {d i L : Nat} {x : Int} {f : Nat → Nat → Int} {σ : zS} {Q : Option zV → zS → Prop} (hl : (f 0 1000000).toNat = L) (hL : L ≤ 3584) (hx : x = (i : Int)) (hi : i + 6 < L) (hv : ∀ j, -2147483648 ≤ f 0 j ∧ f 0 j ≤ 2147483647) (H : lwS f σ) (hQ : ∀ s, lwS f s → zX (d + 61) 191 1275 [some (.inr (.inr (108, 0))), some (.inr (.inr (9, 0))), some (.inr (.inr (10, 0))), some (.inl x)] [] s Q) : zX (d + 61) 191 123 [some (.inr (.inr (108, 0))), some (.inr (.inr (9, 0))), some (.inr (.inr (10, 0))), some (.inl x)] [] σ Q := by
  obtain ⟨R, P, hs⟩ := H
  refine zX_run (n' := 124) (ls' := [some (.inr (.inr (108, 0))), some (.inr (.inr (9, 0))), some (.inr (.inr (10, 0))), some (.inl x)]) (st' := [.inr (.inr (9, 0))]) (σ' := σ) 1 rfl ?_
  refine zX_run (n' := 128) (ls' := [some (.inr (.inr (108, 0))), some (.inr (.inr (9, 0))), some (.inr (.inr (10, 0))), some (.inl x)]) (st' := [.inl (zW (x + 1)), .inr (.inr (108, 0)), .inr (.inr (9, 0))]) (σ' := σ) 4 rfl ?_
  refine lw_ld (k := i + 1) rfl hs hl (by unfold zW; omega) (by omega) ?_
  refine zX_run (n' := 133) (ls' := [some (.inr (.inr (108, 0))), some (.inr (.inr (9, 0))), some (.inr (.inr (10, 0))), some (.inl x)]) (st' := [.inl (zW (x + 2)), .inr (.inr (108, 0)), .inl (f 0 (i + 1)), .inr (.inr (9, 0))]) (σ' := σ) 4 rfl ?_
  refine lw_ld (k := i + 2) rfl hs hl (by unfold zW; omega) (by omega) ?_
  refine zX_run (n' := 138) (ls' := [some (.inr (.inr (108, 0))), some (.inr (.inr (9, 0))), some (.inr (.inr (10, 0))), some (.inl x)]) (st' := [.inl (zW (x + 3)), .inr (.inr (108, 0)), .inl (f 0 (i + 2)), .inl (f 0 (i + 1)), .inr (.inr (9, 0))]) (σ' := σ) 4 rfl ?_
  refine lw_ld (k := i + 3) rfl hs hl (by unfold zW; omega) (by omega) ?_
  refine zX_call rfl rfl ?_
  refine zM_mono (yPi_b (by decide) (by decide) (yp_gauge (d := d) R (f 0 (i + 1)) (f 0 (i + 2)) (f 0 (i + 3))) P hs) (fun a s h => ?_)
  obtain ⟨⟨v, rfl, h⟩, hs⟩ := h
  refine zX_run (n' := 141) (ls' := [some (.inr (.inr (108, 0))), some (.inr (.inr (9, 0))), some (.inr (.inr (10, 0))), some (.inl x)]) (st' := [.inr (.inr (10, 0)), .inl v]) (σ' := s) 1 rfl ?_
  refine zX_run (n' := 145) (ls' := [some (.inr (.inr (108, 0))), some (.inr (.inr (9, 0))), some (.inr (.inr (10, 0))), some (.inl x)]) (st' := [.inl (zW (x + 1)), .inr (.inr (108, 0)), .inr (.inr (10, 0)), .inl v]) (σ' := s) 4 rfl ?_
  refine lw_ld (k := i + 1) rfl hs hl (by unfold zW; omega) (by omega) ?_
  refine zX_run (n' := 150) (ls' := [some (.inr (.inr (108, 0))), some (.inr (.inr (9, 0))), some (.inr (.inr (10, 0))), some (.inl x)]) (st' := [.inl (zW (x + 2)), .inr (.inr (108, 0)), .inl (f 0 (i + 1)), .inr (.inr (10, 0)), .inl v]) (σ' := s) 4 rfl ?_
  refine lw_ld (k := i + 2) rfl hs hl (by unfold zW; omega) (by omega) ?_
  refine zX_run (n' := 155) (ls' := [some (.inr (.inr (108, 0))), some (.inr (.inr (9, 0))), some (.inr (.inr (10, 0))), some (.inl x)]) (st' := [.inl (zW (x + 3)), .inr (.inr (108, 0)), .inl (f 0 (i + 2)), .inl (f 0 (i + 1)), .inr (.inr (10, 0)), .inl v]) (σ' := s) 4 rfl ?_
  refine lw_ld (k := i + 3) rfl hs hl (by unfold zW; omega) (by omega) ?_
  refine zX_call rfl rfl ?_
  refine zM_mono h (fun b s2 h2 => ?_)
  obtain ⟨rfl, R2, P2, hs2⟩ := h2
  exact zX_c0 rfl (fun _ => hQ s2 ⟨R2, P2, hs2⟩) (fun e => absurd rfl e)
set_option maxRecDepth 40000 in
theorem lc_4 {d i L : Nat} {x : Int} {f : Nat → Nat → Int} {σ : zS} {Q : Option zV → zS → Prop} (hl : (f 0 1000000).toNat = L) (hL : L ≤ 3584) (hx : x = (i : Int)) (hi : i + 6 < L) (hv : ∀ j, -2147483648 ≤ f 0 j ∧ f 0 j ≤ 2147483647) (H : lwS f σ) (hQ : ∀ s, lwS f s → zX (d + 61) 191 1275 [some (.inr (.inr (108, 0))), some (.inr (.inr (9, 0))), some (.inr (.inr (10, 0))), some (.inl x)] [] s Q) : zX (d + 61) 191 160 [some (.inr (.inr (108, 0))), some (.inr (.inr (9, 0))), some (.inr (.inr (10, 0))), some (.inl x)] [] σ Q := by
  obtain ⟨R, P, hs⟩ := H
  refine zX_run (n' := 161) (ls' := [some (.inr (.inr (108, 0))), some (.inr (.inr (9, 0))), some (.inr (.inr (10, 0))), some (.inl x)]) (st' := [.inr (.inr (9, 0))]) (σ' := σ) 1 rfl ?_
  refine zX_run (n' := 165) (ls' := [some (.inr (.inr (108, 0))), some (.inr (.inr (9, 0))), some (.inr (.inr (10, 0))), some (.inl x)]) (st' := [.inl (zW (x + 1)), .inr (.inr (108, 0)), .inr (.inr (9, 0))]) (σ' := σ) 4 rfl ?_
  refine lw_ld (k := i + 1) rfl hs hl (by unfold zW; omega) (by omega) ?_
  refine zX_run (n' := 170) (ls' := [some (.inr (.inr (108, 0))), some (.inr (.inr (9, 0))), some (.inr (.inr (10, 0))), some (.inl x)]) (st' := [.inl (zW (x + 2)), .inr (.inr (108, 0)), .inl (f 0 (i + 1)), .inr (.inr (9, 0))]) (σ' := σ) 4 rfl ?_
  refine lw_ld (k := i + 2) rfl hs hl (by unfold zW; omega) (by omega) ?_
  refine zX_call rfl rfl ?_
  refine zM_mono (yPi_b (by decide) (by decide) (yp_read (d := d) R (f 0 (i + 1)) (f 0 (i + 2))) P hs) (fun a s h => ?_)
  obtain ⟨⟨v, rfl, h⟩, hs⟩ := h
  refine zX_run (n' := 173) (ls' := [some (.inr (.inr (108, 0))), some (.inr (.inr (9, 0))), some (.inr (.inr (10, 0))), some (.inl x)]) (st' := [.inr (.inr (10, 0)), .inl v]) (σ' := s) 1 rfl ?_
  refine zX_run (n' := 177) (ls' := [some (.inr (.inr (108, 0))), some (.inr (.inr (9, 0))), some (.inr (.inr (10, 0))), some (.inl x)]) (st' := [.inl (zW (x + 1)), .inr (.inr (108, 0)), .inr (.inr (10, 0)), .inl v]) (σ' := s) 4 rfl ?_
  refine lw_ld (k := i + 1) rfl hs hl (by unfold zW; omega) (by omega) ?_
  refine zX_run (n' := 182) (ls' := [some (.inr (.inr (108, 0))), some (.inr (.inr (9, 0))), some (.inr (.inr (10, 0))), some (.inl x)]) (st' := [.inl (zW (x + 2)), .inr (.inr (108, 0)), .inl (f 0 (i + 1)), .inr (.inr (10, 0)), .inl v]) (σ' := s) 4 rfl ?_
  refine lw_ld (k := i + 2) rfl hs hl (by unfold zW; omega) (by omega) ?_
  refine zX_call rfl rfl ?_
  refine zM_mono h (fun b s2 h2 => ?_)
  obtain ⟨rfl, R2, P2, hs2⟩ := h2
  exact zX_c0 rfl (fun _ => hQ s2 ⟨R2, P2, hs2⟩) (fun e => absurd rfl e)
set_option maxRecDepth 40000 in
theorem lc_5 {d i L : Nat} {x : Int} {f : Nat → Nat → Int} {σ : zS} {Q : Option zV → zS → Prop} (hl : (f 0 1000000).toNat = L) (hL : L ≤ 3584) (hx : x = (i : Int)) (hi : i + 6 < L) (hv : ∀ j, -2147483648 ≤ f 0 j ∧ f 0 j ≤ 2147483647) (H : lwS f σ) (hQ : ∀ s, lwS f s → zX (d + 61) 191 1275 [some (.inr (.inr (108, 0))), some (.inr (.inr (9, 0))), some (.inr (.inr (10, 0))), some (.inl x)] [] s Q) : zX (d + 61) 191 187 [some (.inr (.inr (108, 0))), some (.inr (.inr (9, 0))), some (.inr (.inr (10, 0))), some (.inl x)] [] σ Q := by
  obtain ⟨R, P, hs⟩ := H
  refine zX_run (n' := 188) (ls' := [some (.inr (.inr (108, 0))), some (.inr (.inr (9, 0))), some (.inr (.inr (10, 0))), some (.inl x)]) (st' := [.inr (.inr (9, 0))]) (σ' := σ) 1 rfl ?_
  refine zX_run (n' := 192) (ls' := [some (.inr (.inr (108, 0))), some (.inr (.inr (9, 0))), some (.inr (.inr (10, 0))), some (.inl x)]) (st' := [.inl (zW (x + 1)), .inr (.inr (108, 0)), .inr (.inr (9, 0))]) (σ' := σ) 4 rfl ?_
  refine lw_ld (k := i + 1) rfl hs hl (by unfold zW; omega) (by omega) ?_
  refine zX_run (n' := 197) (ls' := [some (.inr (.inr (108, 0))), some (.inr (.inr (9, 0))), some (.inr (.inr (10, 0))), some (.inl x)]) (st' := [.inl (zW (x + 2)), .inr (.inr (108, 0)), .inl (f 0 (i + 1)), .inr (.inr (9, 0))]) (σ' := σ) 4 rfl ?_
  refine lw_ld (k := i + 2) rfl hs hl (by unfold zW; omega) (by omega) ?_
  refine zX_run (n' := 202) (ls' := [some (.inr (.inr (108, 0))), some (.inr (.inr (9, 0))), some (.inr (.inr (10, 0))), some (.inl x)]) (st' := [.inl (zW (x + 3)), .inr (.inr (108, 0)), .inl (f 0 (i + 2)), .inl (f 0 (i + 1)), .inr (.inr (9, 0))]) (σ' := σ) 4 rfl ?_
  refine lw_ld (k := i + 3) rfl hs hl (by unfold zW; omega) (by omega) ?_
  refine zX_run (n' := 207) (ls' := [some (.inr (.inr (108, 0))), some (.inr (.inr (9, 0))), some (.inr (.inr (10, 0))), some (.inl x)]) (st' := [.inl (zW (x + 4)), .inr (.inr (108, 0)), .inl (f 0 (i + 3)), .inl (f 0 (i + 2)), .inl (f 0 (i + 1)), .inr (.inr (9, 0))]) (σ' := σ) 4 rfl ?_
  refine lw_ld (k := i + 4) rfl hs hl (by unfold zW; omega) (by omega) ?_
  refine zX_run (n' := 212) (ls' := [some (.inr (.inr (108, 0))), some (.inr (.inr (9, 0))), some (.inr (.inr (10, 0))), some (.inl x)]) (st' := [.inl (zW (x + 5)), .inr (.inr (108, 0)), .inl (f 0 (i + 4)), .inl (f 0 (i + 3)), .inl (f 0 (i + 2)), .inl (f 0 (i + 1)), .inr (.inr (9, 0))]) (σ' := σ) 4 rfl ?_
  refine lw_ld (k := i + 5) rfl hs hl (by unfold zW; omega) (by omega) ?_
  refine zX_call rfl rfl ?_
  refine zM_mono (yPi_b (by decide) (by decide) (yp_lake (d := d) R (f 0 (i + 1)) (f 0 (i + 2)) (f 0 (i + 3)) (f 0 (i + 4)) (f 0 (i + 5))) P hs) (fun a s h => ?_)
  obtain ⟨⟨v, rfl, h⟩, hs⟩ := h
  refine zX_run (n' := 215) (ls' := [some (.inr (.inr (108, 0))), some (.inr (.inr (9, 0))), some (.inr (.inr (10, 0))), some (.inl x)]) (st' := [.inr (.inr (10, 0)), .inl v]) (σ' := s) 1 rfl ?_
  refine zX_run (n' := 219) (ls' := [some (.inr (.inr (108, 0))), some (.inr (.inr (9, 0))), some (.inr (.inr (10, 0))), some (.inl x)]) (st' := [.inl (zW (x + 1)), .inr (.inr (108, 0)), .inr (.inr (10, 0)), .inl v]) (σ' := s) 4 rfl ?_
  refine lw_ld (k := i + 1) rfl hs hl (by unfold zW; omega) (by omega) ?_
  refine zX_run (n' := 224) (ls' := [some (.inr (.inr (108, 0))), some (.inr (.inr (9, 0))), some (.inr (.inr (10, 0))), some (.inl x)]) (st' := [.inl (zW (x + 2)), .inr (.inr (108, 0)), .inl (f 0 (i + 1)), .inr (.inr (10, 0)), .inl v]) (σ' := s) 4 rfl ?_
  refine lw_ld (k := i + 2) rfl hs hl (by unfold zW; omega) (by omega) ?_
  refine zX_run (n' := 229) (ls' := [some (.inr (.inr (108, 0))), some (.inr (.inr (9, 0))), some (.inr (.inr (10, 0))), some (.inl x)]) (st' := [.inl (zW (x + 3)), .inr (.inr (108, 0)), .inl (f 0 (i + 2)), .inl (f 0 (i + 1)), .inr (.inr (10, 0)), .inl v]) (σ' := s) 4 rfl ?_
  refine lw_ld (k := i + 3) rfl hs hl (by unfold zW; omega) (by omega) ?_
  refine zX_run (n' := 234) (ls' := [some (.inr (.inr (108, 0))), some (.inr (.inr (9, 0))), some (.inr (.inr (10, 0))), some (.inl x)]) (st' := [.inl (zW (x + 4)), .inr (.inr (108, 0)), .inl (f 0 (i + 3)), .inl (f 0 (i + 2)), .inl (f 0 (i + 1)), .inr (.inr (10, 0)), .inl v]) (σ' := s) 4 rfl ?_
  refine lw_ld (k := i + 4) rfl hs hl (by unfold zW; omega) (by omega) ?_
  refine zX_run (n' := 239) (ls' := [some (.inr (.inr (108, 0))), some (.inr (.inr (9, 0))), some (.inr (.inr (10, 0))), some (.inl x)]) (st' := [.inl (zW (x + 5)), .inr (.inr (108, 0)), .inl (f 0 (i + 4)), .inl (f 0 (i + 3)), .inl (f 0 (i + 2)), .inl (f 0 (i + 1)), .inr (.inr (10, 0)), .inl v]) (σ' := s) 4 rfl ?_
  refine lw_ld (k := i + 5) rfl hs hl (by unfold zW; omega) (by omega) ?_
  refine zX_call rfl rfl ?_
  refine zM_mono h (fun b s2 h2 => ?_)
  obtain ⟨rfl, R2, P2, hs2⟩ := h2
  exact zX_c0 rfl (fun _ => hQ s2 ⟨R2, P2, hs2⟩) (fun e => absurd rfl e)
set_option maxRecDepth 40000 in
theorem lc_6 {d i L : Nat} {x : Int} {f : Nat → Nat → Int} {σ : zS} {Q : Option zV → zS → Prop} (hl : (f 0 1000000).toNat = L) (hL : L ≤ 3584) (hx : x = (i : Int)) (hi : i + 6 < L) (hv : ∀ j, -2147483648 ≤ f 0 j ∧ f 0 j ≤ 2147483647) (H : lwS f σ) (hQ : ∀ s, lwS f s → zX (d + 61) 191 1275 [some (.inr (.inr (108, 0))), some (.inr (.inr (9, 0))), some (.inr (.inr (10, 0))), some (.inl x)] [] s Q) : zX (d + 61) 191 244 [some (.inr (.inr (108, 0))), some (.inr (.inr (9, 0))), some (.inr (.inr (10, 0))), some (.inl x)] [] σ Q := by
  obtain ⟨R, P, hs⟩ := H
  refine zX_run (n' := 245) (ls' := [some (.inr (.inr (108, 0))), some (.inr (.inr (9, 0))), some (.inr (.inr (10, 0))), some (.inl x)]) (st' := [.inr (.inr (9, 0))]) (σ' := σ) 1 rfl ?_
  refine zX_run (n' := 249) (ls' := [some (.inr (.inr (108, 0))), some (.inr (.inr (9, 0))), some (.inr (.inr (10, 0))), some (.inl x)]) (st' := [.inl (zW (x + 1)), .inr (.inr (108, 0)), .inr (.inr (9, 0))]) (σ' := σ) 4 rfl ?_
  refine lw_ld (k := i + 1) rfl hs hl (by unfold zW; omega) (by omega) ?_
  refine zX_run (n' := 254) (ls' := [some (.inr (.inr (108, 0))), some (.inr (.inr (9, 0))), some (.inr (.inr (10, 0))), some (.inl x)]) (st' := [.inl (zW (x + 2)), .inr (.inr (108, 0)), .inl (f 0 (i + 1)), .inr (.inr (9, 0))]) (σ' := σ) 4 rfl ?_
  refine lw_ld (k := i + 2) rfl hs hl (by unfold zW; omega) (by omega) ?_
  refine zX_call rfl rfl ?_
  refine zM_mono (yPi_b (by decide) (by decide) (yp_release (d := d) R (f 0 (i + 1)) (f 0 (i + 2))) P hs) (fun a s h => ?_)
  obtain ⟨⟨v, rfl, h⟩, hs⟩ := h
  refine zX_run (n' := 257) (ls' := [some (.inr (.inr (108, 0))), some (.inr (.inr (9, 0))), some (.inr (.inr (10, 0))), some (.inl x)]) (st' := [.inr (.inr (10, 0)), .inl v]) (σ' := s) 1 rfl ?_
  refine zX_run (n' := 261) (ls' := [some (.inr (.inr (108, 0))), some (.inr (.inr (9, 0))), some (.inr (.inr (10, 0))), some (.inl x)]) (st' := [.inl (zW (x + 1)), .inr (.inr (108, 0)), .inr (.inr (10, 0)), .inl v]) (σ' := s) 4 rfl ?_
  refine lw_ld (k := i + 1) rfl hs hl (by unfold zW; omega) (by omega) ?_
  refine zX_run (n' := 266) (ls' := [some (.inr (.inr (108, 0))), some (.inr (.inr (9, 0))), some (.inr (.inr (10, 0))), some (.inl x)]) (st' := [.inl (zW (x + 2)), .inr (.inr (108, 0)), .inl (f 0 (i + 1)), .inr (.inr (10, 0)), .inl v]) (σ' := s) 4 rfl ?_
  refine lw_ld (k := i + 2) rfl hs hl (by unfold zW; omega) (by omega) ?_
  refine zX_call rfl rfl ?_
  refine zM_mono h (fun b s2 h2 => ?_)
  obtain ⟨rfl, R2, P2, hs2⟩ := h2
  exact zX_c0 rfl (fun _ => hQ s2 ⟨R2, P2, hs2⟩) (fun e => absurd rfl e)
set_option maxRecDepth 40000 in
theorem lc_7 {d i L : Nat} {x : Int} {f : Nat → Nat → Int} {σ : zS} {Q : Option zV → zS → Prop} (hl : (f 0 1000000).toNat = L) (hL : L ≤ 3584) (hx : x = (i : Int)) (hi : i + 6 < L) (hv : ∀ j, -2147483648 ≤ f 0 j ∧ f 0 j ≤ 2147483647) (H : lwS f σ) (hQ : ∀ s, lwS f s → zX (d + 61) 191 1275 [some (.inr (.inr (108, 0))), some (.inr (.inr (9, 0))), some (.inr (.inr (10, 0))), some (.inl x)] [] s Q) : zX (d + 61) 191 271 [some (.inr (.inr (108, 0))), some (.inr (.inr (9, 0))), some (.inr (.inr (10, 0))), some (.inl x)] [] σ Q := by
  obtain ⟨R, P, hs⟩ := H
  refine zX_run (n' := 272) (ls' := [some (.inr (.inr (108, 0))), some (.inr (.inr (9, 0))), some (.inr (.inr (10, 0))), some (.inl x)]) (st' := [.inr (.inr (9, 0))]) (σ' := σ) 1 rfl ?_
  refine zX_run (n' := 276) (ls' := [some (.inr (.inr (108, 0))), some (.inr (.inr (9, 0))), some (.inr (.inr (10, 0))), some (.inl x)]) (st' := [.inl (zW (x + 1)), .inr (.inr (108, 0)), .inr (.inr (9, 0))]) (σ' := σ) 4 rfl ?_
  refine lw_ld (k := i + 1) rfl hs hl (by unfold zW; omega) (by omega) ?_
  refine zX_run (n' := 281) (ls' := [some (.inr (.inr (108, 0))), some (.inr (.inr (9, 0))), some (.inr (.inr (10, 0))), some (.inl x)]) (st' := [.inl (zW (x + 2)), .inr (.inr (108, 0)), .inl (f 0 (i + 1)), .inr (.inr (9, 0))]) (σ' := σ) 4 rfl ?_
  refine lw_ld (k := i + 2) rfl hs hl (by unfold zW; omega) (by omega) ?_
  refine zX_run (n' := 286) (ls' := [some (.inr (.inr (108, 0))), some (.inr (.inr (9, 0))), some (.inr (.inr (10, 0))), some (.inl x)]) (st' := [.inl (zW (x + 3)), .inr (.inr (108, 0)), .inl (f 0 (i + 2)), .inl (f 0 (i + 1)), .inr (.inr (9, 0))]) (σ' := σ) 4 rfl ?_
  refine lw_ld (k := i + 3) rfl hs hl (by unfold zW; omega) (by omega) ?_
  refine zX_run (n' := 291) (ls' := [some (.inr (.inr (108, 0))), some (.inr (.inr (9, 0))), some (.inr (.inr (10, 0))), some (.inl x)]) (st' := [.inl (zW (x + 4)), .inr (.inr (108, 0)), .inl (f 0 (i + 3)), .inl (f 0 (i + 2)), .inl (f 0 (i + 1)), .inr (.inr (9, 0))]) (σ' := σ) 4 rfl ?_
  refine lw_ld (k := i + 4) rfl hs hl (by unfold zW; omega) (by omega) ?_
  refine zX_run (n' := 296) (ls' := [some (.inr (.inr (108, 0))), some (.inr (.inr (9, 0))), some (.inr (.inr (10, 0))), some (.inl x)]) (st' := [.inl (zW (x + 5)), .inr (.inr (108, 0)), .inl (f 0 (i + 4)), .inl (f 0 (i + 3)), .inl (f 0 (i + 2)), .inl (f 0 (i + 1)), .inr (.inr (9, 0))]) (σ' := σ) 4 rfl ?_
  refine lw_ld (k := i + 5) rfl hs hl (by unfold zW; omega) (by omega) ?_
  refine zX_call rfl rfl ?_
  refine zM_mono (yPi_b (by decide) (by decide) (yp_hold (d := d) R (f 0 (i + 1)) (f 0 (i + 2)) (f 0 (i + 3)) (f 0 (i + 4)) (f 0 (i + 5))) P hs) (fun a s h => ?_)
  obtain ⟨⟨v, rfl, h⟩, hs⟩ := h
  refine zX_run (n' := 299) (ls' := [some (.inr (.inr (108, 0))), some (.inr (.inr (9, 0))), some (.inr (.inr (10, 0))), some (.inl x)]) (st' := [.inr (.inr (10, 0)), .inl v]) (σ' := s) 1 rfl ?_
  refine zX_run (n' := 303) (ls' := [some (.inr (.inr (108, 0))), some (.inr (.inr (9, 0))), some (.inr (.inr (10, 0))), some (.inl x)]) (st' := [.inl (zW (x + 1)), .inr (.inr (108, 0)), .inr (.inr (10, 0)), .inl v]) (σ' := s) 4 rfl ?_
  refine lw_ld (k := i + 1) rfl hs hl (by unfold zW; omega) (by omega) ?_
  refine zX_run (n' := 308) (ls' := [some (.inr (.inr (108, 0))), some (.inr (.inr (9, 0))), some (.inr (.inr (10, 0))), some (.inl x)]) (st' := [.inl (zW (x + 2)), .inr (.inr (108, 0)), .inl (f 0 (i + 1)), .inr (.inr (10, 0)), .inl v]) (σ' := s) 4 rfl ?_
  refine lw_ld (k := i + 2) rfl hs hl (by unfold zW; omega) (by omega) ?_
  refine zX_run (n' := 313) (ls' := [some (.inr (.inr (108, 0))), some (.inr (.inr (9, 0))), some (.inr (.inr (10, 0))), some (.inl x)]) (st' := [.inl (zW (x + 3)), .inr (.inr (108, 0)), .inl (f 0 (i + 2)), .inl (f 0 (i + 1)), .inr (.inr (10, 0)), .inl v]) (σ' := s) 4 rfl ?_
  refine lw_ld (k := i + 3) rfl hs hl (by unfold zW; omega) (by omega) ?_
  refine zX_run (n' := 318) (ls' := [some (.inr (.inr (108, 0))), some (.inr (.inr (9, 0))), some (.inr (.inr (10, 0))), some (.inl x)]) (st' := [.inl (zW (x + 4)), .inr (.inr (108, 0)), .inl (f 0 (i + 3)), .inl (f 0 (i + 2)), .inl (f 0 (i + 1)), .inr (.inr (10, 0)), .inl v]) (σ' := s) 4 rfl ?_
  refine lw_ld (k := i + 4) rfl hs hl (by unfold zW; omega) (by omega) ?_
  refine zX_run (n' := 323) (ls' := [some (.inr (.inr (108, 0))), some (.inr (.inr (9, 0))), some (.inr (.inr (10, 0))), some (.inl x)]) (st' := [.inl (zW (x + 5)), .inr (.inr (108, 0)), .inl (f 0 (i + 4)), .inl (f 0 (i + 3)), .inl (f 0 (i + 2)), .inl (f 0 (i + 1)), .inr (.inr (10, 0)), .inl v]) (σ' := s) 4 rfl ?_
  refine lw_ld (k := i + 5) rfl hs hl (by unfold zW; omega) (by omega) ?_
  refine zX_call rfl rfl ?_
  refine zM_mono h (fun b s2 h2 => ?_)
  obtain ⟨rfl, R2, P2, hs2⟩ := h2
  exact zX_c0 rfl (fun _ => hQ s2 ⟨R2, P2, hs2⟩) (fun e => absurd rfl e)
set_option maxRecDepth 40000 in
theorem lc_8 {d i L : Nat} {x : Int} {f : Nat → Nat → Int} {σ : zS} {Q : Option zV → zS → Prop} (hl : (f 0 1000000).toNat = L) (hL : L ≤ 3584) (hx : x = (i : Int)) (hi : i + 6 < L) (hv : ∀ j, -2147483648 ≤ f 0 j ∧ f 0 j ≤ 2147483647) (H : lwS f σ) (hQ : ∀ s, lwS f s → zX (d + 61) 191 1275 [some (.inr (.inr (108, 0))), some (.inr (.inr (9, 0))), some (.inr (.inr (10, 0))), some (.inl x)] [] s Q) : zX (d + 61) 191 328 [some (.inr (.inr (108, 0))), some (.inr (.inr (9, 0))), some (.inr (.inr (10, 0))), some (.inl x)] [] σ Q := by
  obtain ⟨R, P, hs⟩ := H
  refine zX_run (n' := 329) (ls' := [some (.inr (.inr (108, 0))), some (.inr (.inr (9, 0))), some (.inr (.inr (10, 0))), some (.inl x)]) (st' := [.inr (.inr (9, 0))]) (σ' := σ) 1 rfl ?_
  refine zX_run (n' := 333) (ls' := [some (.inr (.inr (108, 0))), some (.inr (.inr (9, 0))), some (.inr (.inr (10, 0))), some (.inl x)]) (st' := [.inl (zW (x + 1)), .inr (.inr (108, 0)), .inr (.inr (9, 0))]) (σ' := σ) 4 rfl ?_
  refine lw_ld (k := i + 1) rfl hs hl (by unfold zW; omega) (by omega) ?_
  refine zX_run (n' := 338) (ls' := [some (.inr (.inr (108, 0))), some (.inr (.inr (9, 0))), some (.inr (.inr (10, 0))), some (.inl x)]) (st' := [.inl (zW (x + 2)), .inr (.inr (108, 0)), .inl (f 0 (i + 1)), .inr (.inr (9, 0))]) (σ' := σ) 4 rfl ?_
  refine lw_ld (k := i + 2) rfl hs hl (by unfold zW; omega) (by omega) ?_
  refine zX_run (n' := 343) (ls' := [some (.inr (.inr (108, 0))), some (.inr (.inr (9, 0))), some (.inr (.inr (10, 0))), some (.inl x)]) (st' := [.inl (zW (x + 3)), .inr (.inr (108, 0)), .inl (f 0 (i + 2)), .inl (f 0 (i + 1)), .inr (.inr (9, 0))]) (σ' := σ) 4 rfl ?_
  refine lw_ld (k := i + 3) rfl hs hl (by unfold zW; omega) (by omega) ?_
  refine zX_call rfl rfl ?_
  refine zM_mono (yPi_b (by decide) (by decide) (yp_force (d := d) R (f 0 (i + 1)) (f 0 (i + 2)) (f 0 (i + 3))) P hs) (fun a s h => ?_)
  obtain ⟨⟨v, rfl, h⟩, hs⟩ := h
  refine zX_run (n' := 346) (ls' := [some (.inr (.inr (108, 0))), some (.inr (.inr (9, 0))), some (.inr (.inr (10, 0))), some (.inl x)]) (st' := [.inr (.inr (10, 0)), .inl v]) (σ' := s) 1 rfl ?_
  refine zX_run (n' := 350) (ls' := [some (.inr (.inr (108, 0))), some (.inr (.inr (9, 0))), some (.inr (.inr (10, 0))), some (.inl x)]) (st' := [.inl (zW (x + 1)), .inr (.inr (108, 0)), .inr (.inr (10, 0)), .inl v]) (σ' := s) 4 rfl ?_
  refine lw_ld (k := i + 1) rfl hs hl (by unfold zW; omega) (by omega) ?_
  refine zX_run (n' := 355) (ls' := [some (.inr (.inr (108, 0))), some (.inr (.inr (9, 0))), some (.inr (.inr (10, 0))), some (.inl x)]) (st' := [.inl (zW (x + 2)), .inr (.inr (108, 0)), .inl (f 0 (i + 1)), .inr (.inr (10, 0)), .inl v]) (σ' := s) 4 rfl ?_
  refine lw_ld (k := i + 2) rfl hs hl (by unfold zW; omega) (by omega) ?_
  refine zX_run (n' := 360) (ls' := [some (.inr (.inr (108, 0))), some (.inr (.inr (9, 0))), some (.inr (.inr (10, 0))), some (.inl x)]) (st' := [.inl (zW (x + 3)), .inr (.inr (108, 0)), .inl (f 0 (i + 2)), .inl (f 0 (i + 1)), .inr (.inr (10, 0)), .inl v]) (σ' := s) 4 rfl ?_
  refine lw_ld (k := i + 3) rfl hs hl (by unfold zW; omega) (by omega) ?_
  refine zX_call rfl rfl ?_
  refine zM_mono h (fun b s2 h2 => ?_)
  obtain ⟨rfl, R2, P2, hs2⟩ := h2
  exact zX_c0 rfl (fun _ => hQ s2 ⟨R2, P2, hs2⟩) (fun e => absurd rfl e)
set_option maxRecDepth 40000 in
theorem lc_9 {d i L : Nat} {x : Int} {f : Nat → Nat → Int} {σ : zS} {Q : Option zV → zS → Prop} (hl : (f 0 1000000).toNat = L) (hL : L ≤ 3584) (hx : x = (i : Int)) (hi : i + 6 < L) (hv : ∀ j, -2147483648 ≤ f 0 j ∧ f 0 j ≤ 2147483647) (H : lwS f σ) (hQ : ∀ s, lwS f s → zX (d + 61) 191 1275 [some (.inr (.inr (108, 0))), some (.inr (.inr (9, 0))), some (.inr (.inr (10, 0))), some (.inl x)] [] s Q) : zX (d + 61) 191 365 [some (.inr (.inr (108, 0))), some (.inr (.inr (9, 0))), some (.inr (.inr (10, 0))), some (.inl x)] [] σ Q := by
  obtain ⟨R, P, hs⟩ := H
  refine zX_run (n' := 366) (ls' := [some (.inr (.inr (108, 0))), some (.inr (.inr (9, 0))), some (.inr (.inr (10, 0))), some (.inl x)]) (st' := [.inr (.inr (9, 0))]) (σ' := σ) 1 rfl ?_
  refine zX_run (n' := 370) (ls' := [some (.inr (.inr (108, 0))), some (.inr (.inr (9, 0))), some (.inr (.inr (10, 0))), some (.inl x)]) (st' := [.inl (zW (x + 1)), .inr (.inr (108, 0)), .inr (.inr (9, 0))]) (σ' := σ) 4 rfl ?_
  refine lw_ld (k := i + 1) rfl hs hl (by unfold zW; omega) (by omega) ?_
  refine zX_run (n' := 375) (ls' := [some (.inr (.inr (108, 0))), some (.inr (.inr (9, 0))), some (.inr (.inr (10, 0))), some (.inl x)]) (st' := [.inl (zW (x + 2)), .inr (.inr (108, 0)), .inl (f 0 (i + 1)), .inr (.inr (9, 0))]) (σ' := σ) 4 rfl ?_
  refine lw_ld (k := i + 2) rfl hs hl (by unfold zW; omega) (by omega) ?_
  refine zX_call rfl rfl ?_
  refine zM_mono (yPi_b (by decide) (by decide) (yp_told (d := d) R (f 0 (i + 1)) (f 0 (i + 2))) P hs) (fun a s h => ?_)
  obtain ⟨⟨v, rfl, h⟩, hs⟩ := h
  refine zX_run (n' := 378) (ls' := [some (.inr (.inr (108, 0))), some (.inr (.inr (9, 0))), some (.inr (.inr (10, 0))), some (.inl x)]) (st' := [.inr (.inr (10, 0)), .inl v]) (σ' := s) 1 rfl ?_
  refine zX_run (n' := 382) (ls' := [some (.inr (.inr (108, 0))), some (.inr (.inr (9, 0))), some (.inr (.inr (10, 0))), some (.inl x)]) (st' := [.inl (zW (x + 1)), .inr (.inr (108, 0)), .inr (.inr (10, 0)), .inl v]) (σ' := s) 4 rfl ?_
  refine lw_ld (k := i + 1) rfl hs hl (by unfold zW; omega) (by omega) ?_
  refine zX_run (n' := 387) (ls' := [some (.inr (.inr (108, 0))), some (.inr (.inr (9, 0))), some (.inr (.inr (10, 0))), some (.inl x)]) (st' := [.inl (zW (x + 2)), .inr (.inr (108, 0)), .inl (f 0 (i + 1)), .inr (.inr (10, 0)), .inl v]) (σ' := s) 4 rfl ?_
  refine lw_ld (k := i + 2) rfl hs hl (by unfold zW; omega) (by omega) ?_
  refine zX_call rfl rfl ?_
  refine zM_mono h (fun b s2 h2 => ?_)
  obtain ⟨rfl, R2, P2, hs2⟩ := h2
  exact zX_c0 rfl (fun _ => hQ s2 ⟨R2, P2, hs2⟩) (fun e => absurd rfl e)
set_option maxRecDepth 40000 in
theorem lc_10 {d i L : Nat} {x : Int} {f : Nat → Nat → Int} {σ : zS} {Q : Option zV → zS → Prop} (hl : (f 0 1000000).toNat = L) (hL : L ≤ 3584) (hx : x = (i : Int)) (hi : i + 6 < L) (hv : ∀ j, -2147483648 ≤ f 0 j ∧ f 0 j ≤ 2147483647) (H : lwS f σ) (hQ : ∀ s, lwS f s → zX (d + 61) 191 1275 [some (.inr (.inr (108, 0))), some (.inr (.inr (9, 0))), some (.inr (.inr (10, 0))), some (.inl x)] [] s Q) : zX (d + 61) 191 392 [some (.inr (.inr (108, 0))), some (.inr (.inr (9, 0))), some (.inr (.inr (10, 0))), some (.inl x)] [] σ Q := by
  obtain ⟨R, P, hs⟩ := H
  refine zX_run (n' := 393) (ls' := [some (.inr (.inr (108, 0))), some (.inr (.inr (9, 0))), some (.inr (.inr (10, 0))), some (.inl x)]) (st' := [.inr (.inr (9, 0))]) (σ' := σ) 1 rfl ?_
  refine zX_run (n' := 397) (ls' := [some (.inr (.inr (108, 0))), some (.inr (.inr (9, 0))), some (.inr (.inr (10, 0))), some (.inl x)]) (st' := [.inl (zW (x + 1)), .inr (.inr (108, 0)), .inr (.inr (9, 0))]) (σ' := σ) 4 rfl ?_
  refine lw_ld (k := i + 1) rfl hs hl (by unfold zW; omega) (by omega) ?_
  refine zX_run (n' := 402) (ls' := [some (.inr (.inr (108, 0))), some (.inr (.inr (9, 0))), some (.inr (.inr (10, 0))), some (.inl x)]) (st' := [.inl (zW (x + 2)), .inr (.inr (108, 0)), .inl (f 0 (i + 1)), .inr (.inr (9, 0))]) (σ' := σ) 4 rfl ?_
  refine lw_ld (k := i + 2) rfl hs hl (by unfold zW; omega) (by omega) ?_
  refine zX_run (n' := 407) (ls' := [some (.inr (.inr (108, 0))), some (.inr (.inr (9, 0))), some (.inr (.inr (10, 0))), some (.inl x)]) (st' := [.inl (zW (x + 3)), .inr (.inr (108, 0)), .inl (f 0 (i + 2)), .inl (f 0 (i + 1)), .inr (.inr (9, 0))]) (σ' := σ) 4 rfl ?_
  refine lw_ld (k := i + 3) rfl hs hl (by unfold zW; omega) (by omega) ?_
  refine zX_call rfl rfl ?_
  refine zM_mono (yPi_b (by decide) (by decide) (yp_takes (d := d) R (f 0 (i + 1)) (f 0 (i + 2)) (f 0 (i + 3))) P hs) (fun a s h => ?_)
  obtain ⟨⟨v, rfl, h⟩, hs⟩ := h
  refine zX_run (n' := 410) (ls' := [some (.inr (.inr (108, 0))), some (.inr (.inr (9, 0))), some (.inr (.inr (10, 0))), some (.inl x)]) (st' := [.inr (.inr (10, 0)), .inl v]) (σ' := s) 1 rfl ?_
  refine zX_run (n' := 414) (ls' := [some (.inr (.inr (108, 0))), some (.inr (.inr (9, 0))), some (.inr (.inr (10, 0))), some (.inl x)]) (st' := [.inl (zW (x + 1)), .inr (.inr (108, 0)), .inr (.inr (10, 0)), .inl v]) (σ' := s) 4 rfl ?_
  refine lw_ld (k := i + 1) rfl hs hl (by unfold zW; omega) (by omega) ?_
  refine zX_run (n' := 419) (ls' := [some (.inr (.inr (108, 0))), some (.inr (.inr (9, 0))), some (.inr (.inr (10, 0))), some (.inl x)]) (st' := [.inl (zW (x + 2)), .inr (.inr (108, 0)), .inl (f 0 (i + 1)), .inr (.inr (10, 0)), .inl v]) (σ' := s) 4 rfl ?_
  refine lw_ld (k := i + 2) rfl hs hl (by unfold zW; omega) (by omega) ?_
  refine zX_run (n' := 424) (ls' := [some (.inr (.inr (108, 0))), some (.inr (.inr (9, 0))), some (.inr (.inr (10, 0))), some (.inl x)]) (st' := [.inl (zW (x + 3)), .inr (.inr (108, 0)), .inl (f 0 (i + 2)), .inl (f 0 (i + 1)), .inr (.inr (10, 0)), .inl v]) (σ' := s) 4 rfl ?_
  refine lw_ld (k := i + 3) rfl hs hl (by unfold zW; omega) (by omega) ?_
  refine zX_call rfl rfl ?_
  refine zM_mono h (fun b s2 h2 => ?_)
  obtain ⟨rfl, R2, P2, hs2⟩ := h2
  exact zX_c0 rfl (fun _ => hQ s2 ⟨R2, P2, hs2⟩) (fun e => absurd rfl e)
set_option maxRecDepth 40000 in
theorem lc_11 {d i L : Nat} {x : Int} {f : Nat → Nat → Int} {σ : zS} {Q : Option zV → zS → Prop} (hl : (f 0 1000000).toNat = L) (hL : L ≤ 3584) (hx : x = (i : Int)) (hi : i + 6 < L) (hv : ∀ j, -2147483648 ≤ f 0 j ∧ f 0 j ≤ 2147483647) (H : lwS f σ) (hQ : ∀ s, lwS f s → zX (d + 61) 191 1275 [some (.inr (.inr (108, 0))), some (.inr (.inr (9, 0))), some (.inr (.inr (10, 0))), some (.inl x)] [] s Q) : zX (d + 61) 191 429 [some (.inr (.inr (108, 0))), some (.inr (.inr (9, 0))), some (.inr (.inr (10, 0))), some (.inl x)] [] σ Q := by
  obtain ⟨R, P, hs⟩ := H
  refine zX_run (n' := 430) (ls' := [some (.inr (.inr (108, 0))), some (.inr (.inr (9, 0))), some (.inr (.inr (10, 0))), some (.inl x)]) (st' := [.inr (.inr (9, 0))]) (σ' := σ) 1 rfl ?_
  refine zX_run (n' := 434) (ls' := [some (.inr (.inr (108, 0))), some (.inr (.inr (9, 0))), some (.inr (.inr (10, 0))), some (.inl x)]) (st' := [.inl (zW (x + 1)), .inr (.inr (108, 0)), .inr (.inr (9, 0))]) (σ' := σ) 4 rfl ?_
  refine lw_ld (k := i + 1) rfl hs hl (by unfold zW; omega) (by omega) ?_
  refine zX_run (n' := 439) (ls' := [some (.inr (.inr (108, 0))), some (.inr (.inr (9, 0))), some (.inr (.inr (10, 0))), some (.inl x)]) (st' := [.inl (zW (x + 2)), .inr (.inr (108, 0)), .inl (f 0 (i + 1)), .inr (.inr (9, 0))]) (σ' := σ) 4 rfl ?_
  refine lw_ld (k := i + 2) rfl hs hl (by unfold zW; omega) (by omega) ?_
  refine zX_run (n' := 444) (ls' := [some (.inr (.inr (108, 0))), some (.inr (.inr (9, 0))), some (.inr (.inr (10, 0))), some (.inl x)]) (st' := [.inl (zW (x + 3)), .inr (.inr (108, 0)), .inl (f 0 (i + 2)), .inl (f 0 (i + 1)), .inr (.inr (9, 0))]) (σ' := σ) 4 rfl ?_
  refine lw_ld (k := i + 3) rfl hs hl (by unfold zW; omega) (by omega) ?_
  refine zX_call rfl rfl ?_
  refine zM_mono (yPl_b (by decide) (by decide) (yp_all (d := d) R (f 0 (i + 1)) (f 0 (i + 2)) (f 0 (i + 3))) P hs) (fun a s h => ?_)
  obtain ⟨⟨v, rfl, h⟩, hs⟩ := h
  refine zX_run (n' := 447) (ls' := [some (.inr (.inr (108, 0))), some (.inr (.inr (9, 0))), some (.inr (.inr (10, 0))), some (.inl x)]) (st' := [.inr (.inr (10, 0)), .inr (.inl v)]) (σ' := s) 1 rfl ?_
  refine zX_run (n' := 451) (ls' := [some (.inr (.inr (108, 0))), some (.inr (.inr (9, 0))), some (.inr (.inr (10, 0))), some (.inl x)]) (st' := [.inl (zW (x + 1)), .inr (.inr (108, 0)), .inr (.inr (10, 0)), .inr (.inl v)]) (σ' := s) 4 rfl ?_
  refine lw_ld (k := i + 1) rfl hs hl (by unfold zW; omega) (by omega) ?_
  refine zX_run (n' := 456) (ls' := [some (.inr (.inr (108, 0))), some (.inr (.inr (9, 0))), some (.inr (.inr (10, 0))), some (.inl x)]) (st' := [.inl (zW (x + 2)), .inr (.inr (108, 0)), .inl (f 0 (i + 1)), .inr (.inr (10, 0)), .inr (.inl v)]) (σ' := s) 4 rfl ?_
  refine lw_ld (k := i + 2) rfl hs hl (by unfold zW; omega) (by omega) ?_
  refine zX_run (n' := 461) (ls' := [some (.inr (.inr (108, 0))), some (.inr (.inr (9, 0))), some (.inr (.inr (10, 0))), some (.inl x)]) (st' := [.inl (zW (x + 3)), .inr (.inr (108, 0)), .inl (f 0 (i + 2)), .inl (f 0 (i + 1)), .inr (.inr (10, 0)), .inr (.inl v)]) (σ' := s) 4 rfl ?_
  refine lw_ld (k := i + 3) rfl hs hl (by unfold zW; omega) (by omega) ?_
  refine zX_call rfl rfl ?_
  refine zM_mono h (fun b s2 h2 => ?_)
  obtain ⟨rfl, R2, P2, hs2⟩ := h2
  refine zX_lc rfl (fun e => absurd e (Int.lt_irrefl _)) (fun _ => ?_) (fun e => absurd e (Int.lt_irrefl _))
  exact zX_i0 rfl (fun _ => hQ s2 ⟨R2, P2, hs2⟩) (fun e => absurd rfl e)
set_option maxRecDepth 40000 in
theorem lc_12 {d i L : Nat} {x : Int} {f : Nat → Nat → Int} {σ : zS} {Q : Option zV → zS → Prop} (hl : (f 0 1000000).toNat = L) (hL : L ≤ 3584) (hx : x = (i : Int)) (hi : i + 6 < L) (hv : ∀ j, -2147483648 ≤ f 0 j ∧ f 0 j ≤ 2147483647) (H : lwS f σ) (hQ : ∀ s, lwS f s → zX (d + 61) 191 1275 [some (.inr (.inr (108, 0))), some (.inr (.inr (9, 0))), some (.inr (.inr (10, 0))), some (.inl x)] [] s Q) : zX (d + 61) 191 467 [some (.inr (.inr (108, 0))), some (.inr (.inr (9, 0))), some (.inr (.inr (10, 0))), some (.inl x)] [] σ Q := by
  obtain ⟨R, P, hs⟩ := H
  refine zX_run (n' := 468) (ls' := [some (.inr (.inr (108, 0))), some (.inr (.inr (9, 0))), some (.inr (.inr (10, 0))), some (.inl x)]) (st' := [.inr (.inr (9, 0))]) (σ' := σ) 1 rfl ?_
  refine zX_run (n' := 472) (ls' := [some (.inr (.inr (108, 0))), some (.inr (.inr (9, 0))), some (.inr (.inr (10, 0))), some (.inl x)]) (st' := [.inl (zW (x + 1)), .inr (.inr (108, 0)), .inr (.inr (9, 0))]) (σ' := σ) 4 rfl ?_
  refine lw_ld (k := i + 1) rfl hs hl (by unfold zW; omega) (by omega) ?_
  refine zX_run (n' := 477) (ls' := [some (.inr (.inr (108, 0))), some (.inr (.inr (9, 0))), some (.inr (.inr (10, 0))), some (.inl x)]) (st' := [.inl (zW (x + 2)), .inr (.inr (108, 0)), .inl (f 0 (i + 1)), .inr (.inr (9, 0))]) (σ' := σ) 4 rfl ?_
  refine lw_ld (k := i + 2) rfl hs hl (by unfold zW; omega) (by omega) ?_
  refine zX_call rfl rfl ?_
  refine zM_mono (yPi_b (by decide) (by decide) (yp_call (d := d) R (f 0 (i + 1)) (f 0 (i + 2))) P hs) (fun a s h => ?_)
  obtain ⟨⟨v, rfl, h⟩, hs⟩ := h
  refine zX_run (n' := 480) (ls' := [some (.inr (.inr (108, 0))), some (.inr (.inr (9, 0))), some (.inr (.inr (10, 0))), some (.inl x)]) (st' := [.inr (.inr (10, 0)), .inl v]) (σ' := s) 1 rfl ?_
  refine zX_run (n' := 484) (ls' := [some (.inr (.inr (108, 0))), some (.inr (.inr (9, 0))), some (.inr (.inr (10, 0))), some (.inl x)]) (st' := [.inl (zW (x + 1)), .inr (.inr (108, 0)), .inr (.inr (10, 0)), .inl v]) (σ' := s) 4 rfl ?_
  refine lw_ld (k := i + 1) rfl hs hl (by unfold zW; omega) (by omega) ?_
  refine zX_run (n' := 489) (ls' := [some (.inr (.inr (108, 0))), some (.inr (.inr (9, 0))), some (.inr (.inr (10, 0))), some (.inl x)]) (st' := [.inl (zW (x + 2)), .inr (.inr (108, 0)), .inl (f 0 (i + 1)), .inr (.inr (10, 0)), .inl v]) (σ' := s) 4 rfl ?_
  refine lw_ld (k := i + 2) rfl hs hl (by unfold zW; omega) (by omega) ?_
  refine zX_call rfl rfl ?_
  refine zM_mono h (fun b s2 h2 => ?_)
  obtain ⟨rfl, R2, P2, hs2⟩ := h2
  exact zX_c0 rfl (fun _ => hQ s2 ⟨R2, P2, hs2⟩) (fun e => absurd rfl e)
set_option maxRecDepth 40000 in
theorem lc_13 {d i L : Nat} {x : Int} {f : Nat → Nat → Int} {σ : zS} {Q : Option zV → zS → Prop} (hl : (f 0 1000000).toNat = L) (hL : L ≤ 3584) (hx : x = (i : Int)) (hi : i + 6 < L) (hv : ∀ j, -2147483648 ≤ f 0 j ∧ f 0 j ≤ 2147483647) (H : lwS f σ) (hQ : ∀ s, lwS f s → zX (d + 61) 191 1275 [some (.inr (.inr (108, 0))), some (.inr (.inr (9, 0))), some (.inr (.inr (10, 0))), some (.inl x)] [] s Q) : zX (d + 61) 191 494 [some (.inr (.inr (108, 0))), some (.inr (.inr (9, 0))), some (.inr (.inr (10, 0))), some (.inl x)] [] σ Q := by
  obtain ⟨R, P, hs⟩ := H
  refine zX_run (n' := 495) (ls' := [some (.inr (.inr (108, 0))), some (.inr (.inr (9, 0))), some (.inr (.inr (10, 0))), some (.inl x)]) (st' := [.inr (.inr (9, 0))]) (σ' := σ) 1 rfl ?_
  refine zX_run (n' := 499) (ls' := [some (.inr (.inr (108, 0))), some (.inr (.inr (9, 0))), some (.inr (.inr (10, 0))), some (.inl x)]) (st' := [.inl (zW (x + 1)), .inr (.inr (108, 0)), .inr (.inr (9, 0))]) (σ' := σ) 4 rfl ?_
  refine lw_ld (k := i + 1) rfl hs hl (by unfold zW; omega) (by omega) ?_
  refine zX_call rfl rfl ?_
  refine zM_mono (yPi_b (by decide) (by decide) (yp_helps (d := d) R (f 0 (i + 1))) P hs) (fun a s h => ?_)
  obtain ⟨⟨v, rfl, h⟩, hs⟩ := h
  refine zX_run (n' := 502) (ls' := [some (.inr (.inr (108, 0))), some (.inr (.inr (9, 0))), some (.inr (.inr (10, 0))), some (.inl x)]) (st' := [.inr (.inr (10, 0)), .inl v]) (σ' := s) 1 rfl ?_
  refine zX_run (n' := 506) (ls' := [some (.inr (.inr (108, 0))), some (.inr (.inr (9, 0))), some (.inr (.inr (10, 0))), some (.inl x)]) (st' := [.inl (zW (x + 1)), .inr (.inr (108, 0)), .inr (.inr (10, 0)), .inl v]) (σ' := s) 4 rfl ?_
  refine lw_ld (k := i + 1) rfl hs hl (by unfold zW; omega) (by omega) ?_
  refine zX_call rfl rfl ?_
  refine zM_mono h (fun b s2 h2 => ?_)
  obtain ⟨rfl, R2, P2, hs2⟩ := h2
  exact zX_c0 rfl (fun _ => hQ s2 ⟨R2, P2, hs2⟩) (fun e => absurd rfl e)
set_option maxRecDepth 40000 in
theorem lc_14 {d i L : Nat} {x : Int} {f : Nat → Nat → Int} {σ : zS} {Q : Option zV → zS → Prop} (hl : (f 0 1000000).toNat = L) (hL : L ≤ 3584) (hx : x = (i : Int)) (hi : i + 6 < L) (hv : ∀ j, -2147483648 ≤ f 0 j ∧ f 0 j ≤ 2147483647) (H : lwS f σ) (hQ : ∀ s, lwS f s → zX (d + 61) 191 1275 [some (.inr (.inr (108, 0))), some (.inr (.inr (9, 0))), some (.inr (.inr (10, 0))), some (.inl x)] [] s Q) : zX (d + 61) 191 511 [some (.inr (.inr (108, 0))), some (.inr (.inr (9, 0))), some (.inr (.inr (10, 0))), some (.inl x)] [] σ Q := by
  obtain ⟨R, P, hs⟩ := H
  refine zX_run (n' := 512) (ls' := [some (.inr (.inr (108, 0))), some (.inr (.inr (9, 0))), some (.inr (.inr (10, 0))), some (.inl x)]) (st' := [.inr (.inr (9, 0))]) (σ' := σ) 1 rfl ?_
  refine zX_run (n' := 516) (ls' := [some (.inr (.inr (108, 0))), some (.inr (.inr (9, 0))), some (.inr (.inr (10, 0))), some (.inl x)]) (st' := [.inl (zW (x + 1)), .inr (.inr (108, 0)), .inr (.inr (9, 0))]) (σ' := σ) 4 rfl ?_
  refine lw_ld (k := i + 1) rfl hs hl (by unfold zW; omega) (by omega) ?_
  refine zX_run (n' := 521) (ls' := [some (.inr (.inr (108, 0))), some (.inr (.inr (9, 0))), some (.inr (.inr (10, 0))), some (.inl x)]) (st' := [.inl (zW (x + 2)), .inr (.inr (108, 0)), .inl (f 0 (i + 1)), .inr (.inr (9, 0))]) (σ' := σ) 4 rfl ?_
  refine lw_ld (k := i + 2) rfl hs hl (by unfold zW; omega) (by omega) ?_
  refine zX_run (n' := 525) (ls' := [some (.inr (.inr (108, 0))), some (.inr (.inr (9, 0))), some (.inr (.inr (10, 0))), some (.inl x)]) (st' := [.inr (.inl (zLSh 0 (f 0 (i + 2)) 32)), .inl (f 0 (i + 1)), .inr (.inr (9, 0))]) (σ' := σ) 3 rfl ?_
  refine zX_run (n' := 529) (ls' := [some (.inr (.inr (108, 0))), some (.inr (.inr (9, 0))), some (.inr (.inr (10, 0))), some (.inl x)]) (st' := [.inl (zW (x + 3)), .inr (.inr (108, 0)), .inr (.inl (zLSh 0 (f 0 (i + 2)) 32)), .inl (f 0 (i + 1)), .inr (.inr (9, 0))]) (σ' := σ) 4 rfl ?_
  refine lw_ld (k := i + 3) rfl hs hl (by unfold zW; omega) (by omega) ?_
  refine zX_run (n' := 534) (ls' := [some (.inr (.inr (108, 0))), some (.inr (.inr (9, 0))), some (.inr (.inr (10, 0))), some (.inl x)]) (st' := [.inr (.inl (zLBin 4 (zLSh 0 (f 0 (i + 2)) 32) (zLBin 3 (f 0 (i + 3)) 4294967295))), .inl (f 0 (i + 1)), .inr (.inr (9, 0))]) (σ' := σ) 4 rfl ?_
  refine zX_call rfl rfl ?_
  refine zM_mono (yPi_b (by decide) (by decide) (yp_feed (d := d) R (f 0 (i + 1)) (zLBin 4 (zLSh 0 (f 0 (i + 2)) 32) (zLBin 3 (f 0 (i + 3)) 4294967295)) (hv _)) P hs) (fun a s h => ?_)
  obtain ⟨⟨v, rfl, h⟩, hs⟩ := h
  refine zX_run (n' := 536) (ls' := [some (.inr (.inr (108, 0))), some (.inr (.inr (9, 0))), some (.inr (.inr (10, 0))), some (.inl x)]) (st' := [.inr (.inr (10, 0)), .inl v]) (σ' := s) 1 rfl ?_
  refine zX_run (n' := 540) (ls' := [some (.inr (.inr (108, 0))), some (.inr (.inr (9, 0))), some (.inr (.inr (10, 0))), some (.inl x)]) (st' := [.inl (zW (x + 1)), .inr (.inr (108, 0)), .inr (.inr (10, 0)), .inl v]) (σ' := s) 4 rfl ?_
  refine lw_ld (k := i + 1) rfl hs hl (by unfold zW; omega) (by omega) ?_
  refine zX_run (n' := 545) (ls' := [some (.inr (.inr (108, 0))), some (.inr (.inr (9, 0))), some (.inr (.inr (10, 0))), some (.inl x)]) (st' := [.inl (zW (x + 2)), .inr (.inr (108, 0)), .inl (f 0 (i + 1)), .inr (.inr (10, 0)), .inl v]) (σ' := s) 4 rfl ?_
  refine lw_ld (k := i + 2) rfl hs hl (by unfold zW; omega) (by omega) ?_
  refine zX_run (n' := 549) (ls' := [some (.inr (.inr (108, 0))), some (.inr (.inr (9, 0))), some (.inr (.inr (10, 0))), some (.inl x)]) (st' := [.inr (.inl (zLSh 0 (f 0 (i + 2)) 32)), .inl (f 0 (i + 1)), .inr (.inr (10, 0)), .inl v]) (σ' := s) 3 rfl ?_
  refine zX_run (n' := 553) (ls' := [some (.inr (.inr (108, 0))), some (.inr (.inr (9, 0))), some (.inr (.inr (10, 0))), some (.inl x)]) (st' := [.inl (zW (x + 3)), .inr (.inr (108, 0)), .inr (.inl (zLSh 0 (f 0 (i + 2)) 32)), .inl (f 0 (i + 1)), .inr (.inr (10, 0)), .inl v]) (σ' := s) 4 rfl ?_
  refine lw_ld (k := i + 3) rfl hs hl (by unfold zW; omega) (by omega) ?_
  refine zX_run (n' := 558) (ls' := [some (.inr (.inr (108, 0))), some (.inr (.inr (9, 0))), some (.inr (.inr (10, 0))), some (.inl x)]) (st' := [.inr (.inl (zLBin 4 (zLSh 0 (f 0 (i + 2)) 32) (zLBin 3 (f 0 (i + 3)) 4294967295))), .inl (f 0 (i + 1)), .inr (.inr (10, 0)), .inl v]) (σ' := s) 4 rfl ?_
  refine zX_call rfl rfl ?_
  refine zM_mono h (fun b s2 h2 => ?_)
  obtain ⟨rfl, R2, P2, hs2⟩ := h2
  exact zX_c0 rfl (fun _ => hQ s2 ⟨R2, P2, hs2⟩) (fun e => absurd rfl e)
set_option maxRecDepth 40000 in
theorem lc_15 {d i L : Nat} {x : Int} {f : Nat → Nat → Int} {σ : zS} {Q : Option zV → zS → Prop} (hl : (f 0 1000000).toNat = L) (hL : L ≤ 3584) (hx : x = (i : Int)) (hi : i + 6 < L) (hv : ∀ j, -2147483648 ≤ f 0 j ∧ f 0 j ≤ 2147483647) (H : lwS f σ) (hQ : ∀ s, lwS f s → zX (d + 61) 191 1275 [some (.inr (.inr (108, 0))), some (.inr (.inr (9, 0))), some (.inr (.inr (10, 0))), some (.inl x)] [] s Q) : zX (d + 61) 191 562 [some (.inr (.inr (108, 0))), some (.inr (.inr (9, 0))), some (.inr (.inr (10, 0))), some (.inl x)] [] σ Q := by
  obtain ⟨R, P, hs⟩ := H
  refine zX_run (n' := 563) (ls' := [some (.inr (.inr (108, 0))), some (.inr (.inr (9, 0))), some (.inr (.inr (10, 0))), some (.inl x)]) (st' := [.inr (.inr (9, 0))]) (σ' := σ) 1 rfl ?_
  refine zX_call rfl rfl ?_
  refine zM_mono (yPi_b (by decide) (by decide) (yp_text (d := d) R P) P hs) (fun a s h => ?_)
  obtain ⟨⟨v, rfl, h⟩, hs⟩ := h
  refine zX_run (n' := 565) (ls' := [some (.inr (.inr (108, 0))), some (.inr (.inr (9, 0))), some (.inr (.inr (10, 0))), some (.inl x)]) (st' := [.inr (.inr (10, 0)), .inl v]) (σ' := s) 1 rfl ?_
  refine zX_call rfl rfl ?_
  refine zM_mono h (fun b s2 h2 => ?_)
  obtain ⟨rfl, R2, P2, hs2⟩ := h2
  exact zX_c0 rfl (fun _ => hQ s2 ⟨R2, P2, hs2⟩) (fun e => absurd rfl e)
set_option maxRecDepth 40000 in
theorem lc_16 {d i L : Nat} {x : Int} {f : Nat → Nat → Int} {σ : zS} {Q : Option zV → zS → Prop} (hl : (f 0 1000000).toNat = L) (hL : L ≤ 3584) (hx : x = (i : Int)) (hi : i + 6 < L) (hv : ∀ j, -2147483648 ≤ f 0 j ∧ f 0 j ≤ 2147483647) (H : lwS f σ) (hQ : ∀ s, lwS f s → zX (d + 61) 191 1275 [some (.inr (.inr (108, 0))), some (.inr (.inr (9, 0))), some (.inr (.inr (10, 0))), some (.inl x)] [] s Q) : zX (d + 61) 191 569 [some (.inr (.inr (108, 0))), some (.inr (.inr (9, 0))), some (.inr (.inr (10, 0))), some (.inl x)] [] σ Q := by
  obtain ⟨R, P, hs⟩ := H
  refine zX_run (n' := 570) (ls' := [some (.inr (.inr (108, 0))), some (.inr (.inr (9, 0))), some (.inr (.inr (10, 0))), some (.inl x)]) (st' := [.inr (.inr (9, 0))]) (σ' := σ) 1 rfl ?_
  refine zX_run (n' := 574) (ls' := [some (.inr (.inr (108, 0))), some (.inr (.inr (9, 0))), some (.inr (.inr (10, 0))), some (.inl x)]) (st' := [.inl (zW (x + 1)), .inr (.inr (108, 0)), .inr (.inr (9, 0))]) (σ' := σ) 4 rfl ?_
  refine lw_ld (k := i + 1) rfl hs hl (by unfold zW; omega) (by omega) ?_
  refine zX_run (n' := 579) (ls' := [some (.inr (.inr (108, 0))), some (.inr (.inr (9, 0))), some (.inr (.inr (10, 0))), some (.inl x)]) (st' := [.inl (zW (x + 2)), .inr (.inr (108, 0)), .inl (f 0 (i + 1)), .inr (.inr (9, 0))]) (σ' := σ) 4 rfl ?_
  refine lw_ld (k := i + 2) rfl hs hl (by unfold zW; omega) (by omega) ?_
  refine zX_call rfl rfl ?_
  refine zM_mono (yPi_b (by decide) (by decide) (yp_rule (d := d) R (f 0 (i + 1)) (f 0 (i + 2))) P hs) (fun a s h => ?_)
  obtain ⟨⟨v, rfl, h⟩, hs⟩ := h
  refine zX_run (n' := 582) (ls' := [some (.inr (.inr (108, 0))), some (.inr (.inr (9, 0))), some (.inr (.inr (10, 0))), some (.inl x)]) (st' := [.inr (.inr (10, 0)), .inl v]) (σ' := s) 1 rfl ?_
  refine zX_run (n' := 586) (ls' := [some (.inr (.inr (108, 0))), some (.inr (.inr (9, 0))), some (.inr (.inr (10, 0))), some (.inl x)]) (st' := [.inl (zW (x + 1)), .inr (.inr (108, 0)), .inr (.inr (10, 0)), .inl v]) (σ' := s) 4 rfl ?_
  refine lw_ld (k := i + 1) rfl hs hl (by unfold zW; omega) (by omega) ?_
  refine zX_run (n' := 591) (ls' := [some (.inr (.inr (108, 0))), some (.inr (.inr (9, 0))), some (.inr (.inr (10, 0))), some (.inl x)]) (st' := [.inl (zW (x + 2)), .inr (.inr (108, 0)), .inl (f 0 (i + 1)), .inr (.inr (10, 0)), .inl v]) (σ' := s) 4 rfl ?_
  refine lw_ld (k := i + 2) rfl hs hl (by unfold zW; omega) (by omega) ?_
  refine zX_call rfl rfl ?_
  refine zM_mono h (fun b s2 h2 => ?_)
  obtain ⟨rfl, R2, P2, hs2⟩ := h2
  exact zX_c0 rfl (fun _ => hQ s2 ⟨R2, P2, hs2⟩) (fun e => absurd rfl e)
set_option maxRecDepth 40000 in
theorem lc_17 {d i L : Nat} {x : Int} {f : Nat → Nat → Int} {σ : zS} {Q : Option zV → zS → Prop} (hl : (f 0 1000000).toNat = L) (hL : L ≤ 3584) (hx : x = (i : Int)) (hi : i + 6 < L) (hv : ∀ j, -2147483648 ≤ f 0 j ∧ f 0 j ≤ 2147483647) (H : lwS f σ) (hQ : ∀ s, lwS f s → zX (d + 61) 191 1275 [some (.inr (.inr (108, 0))), some (.inr (.inr (9, 0))), some (.inr (.inr (10, 0))), some (.inl x)] [] s Q) : zX (d + 61) 191 596 [some (.inr (.inr (108, 0))), some (.inr (.inr (9, 0))), some (.inr (.inr (10, 0))), some (.inl x)] [] σ Q := by
  obtain ⟨R, P, hs⟩ := H
  refine zX_run (n' := 597) (ls' := [some (.inr (.inr (108, 0))), some (.inr (.inr (9, 0))), some (.inr (.inr (10, 0))), some (.inl x)]) (st' := [.inr (.inr (9, 0))]) (σ' := σ) 1 rfl ?_
  refine zX_run (n' := 601) (ls' := [some (.inr (.inr (108, 0))), some (.inr (.inr (9, 0))), some (.inr (.inr (10, 0))), some (.inl x)]) (st' := [.inl (zW (x + 1)), .inr (.inr (108, 0)), .inr (.inr (9, 0))]) (σ' := σ) 4 rfl ?_
  refine lw_ld (k := i + 1) rfl hs hl (by unfold zW; omega) (by omega) ?_
  refine zX_run (n' := 606) (ls' := [some (.inr (.inr (108, 0))), some (.inr (.inr (9, 0))), some (.inr (.inr (10, 0))), some (.inl x)]) (st' := [.inl (zW (x + 2)), .inr (.inr (108, 0)), .inl (f 0 (i + 1)), .inr (.inr (9, 0))]) (σ' := σ) 4 rfl ?_
  refine lw_ld (k := i + 2) rfl hs hl (by unfold zW; omega) (by omega) ?_
  refine zX_run (n' := 611) (ls' := [some (.inr (.inr (108, 0))), some (.inr (.inr (9, 0))), some (.inr (.inr (10, 0))), some (.inl x)]) (st' := [.inl (zW (x + 3)), .inr (.inr (108, 0)), .inl (f 0 (i + 2)), .inl (f 0 (i + 1)), .inr (.inr (9, 0))]) (σ' := σ) 4 rfl ?_
  refine lw_ld (k := i + 3) rfl hs hl (by unfold zW; omega) (by omega) ?_
  refine zX_call rfl rfl ?_
  refine zM_mono (yPl_b (by decide) (by decide) (yp_says (d := d) R (f 0 (i + 1)) (f 0 (i + 2)) (f 0 (i + 3))) P hs) (fun a s h => ?_)
  obtain ⟨⟨v, rfl, h⟩, hs⟩ := h
  refine zX_run (n' := 614) (ls' := [some (.inr (.inr (108, 0))), some (.inr (.inr (9, 0))), some (.inr (.inr (10, 0))), some (.inl x)]) (st' := [.inr (.inr (10, 0)), .inr (.inl v)]) (σ' := s) 1 rfl ?_
  refine zX_run (n' := 618) (ls' := [some (.inr (.inr (108, 0))), some (.inr (.inr (9, 0))), some (.inr (.inr (10, 0))), some (.inl x)]) (st' := [.inl (zW (x + 1)), .inr (.inr (108, 0)), .inr (.inr (10, 0)), .inr (.inl v)]) (σ' := s) 4 rfl ?_
  refine lw_ld (k := i + 1) rfl hs hl (by unfold zW; omega) (by omega) ?_
  refine zX_run (n' := 623) (ls' := [some (.inr (.inr (108, 0))), some (.inr (.inr (9, 0))), some (.inr (.inr (10, 0))), some (.inl x)]) (st' := [.inl (zW (x + 2)), .inr (.inr (108, 0)), .inl (f 0 (i + 1)), .inr (.inr (10, 0)), .inr (.inl v)]) (σ' := s) 4 rfl ?_
  refine lw_ld (k := i + 2) rfl hs hl (by unfold zW; omega) (by omega) ?_
  refine zX_run (n' := 628) (ls' := [some (.inr (.inr (108, 0))), some (.inr (.inr (9, 0))), some (.inr (.inr (10, 0))), some (.inl x)]) (st' := [.inl (zW (x + 3)), .inr (.inr (108, 0)), .inl (f 0 (i + 2)), .inl (f 0 (i + 1)), .inr (.inr (10, 0)), .inr (.inl v)]) (σ' := s) 4 rfl ?_
  refine lw_ld (k := i + 3) rfl hs hl (by unfold zW; omega) (by omega) ?_
  refine zX_call rfl rfl ?_
  refine zM_mono h (fun b s2 h2 => ?_)
  obtain ⟨rfl, R2, P2, hs2⟩ := h2
  refine zX_lc rfl (fun e => absurd e (Int.lt_irrefl _)) (fun _ => ?_) (fun e => absurd e (Int.lt_irrefl _))
  exact zX_i0 rfl (fun _ => hQ s2 ⟨R2, P2, hs2⟩) (fun e => absurd rfl e)
set_option maxRecDepth 40000 in
theorem lc_18 {d i L : Nat} {x : Int} {f : Nat → Nat → Int} {σ : zS} {Q : Option zV → zS → Prop} (hl : (f 0 1000000).toNat = L) (hL : L ≤ 3584) (hx : x = (i : Int)) (hi : i + 6 < L) (hv : ∀ j, -2147483648 ≤ f 0 j ∧ f 0 j ≤ 2147483647) (H : lwS f σ) (hQ : ∀ s, lwS f s → zX (d + 61) 191 1275 [some (.inr (.inr (108, 0))), some (.inr (.inr (9, 0))), some (.inr (.inr (10, 0))), some (.inl x)] [] s Q) : zX (d + 61) 191 634 [some (.inr (.inr (108, 0))), some (.inr (.inr (9, 0))), some (.inr (.inr (10, 0))), some (.inl x)] [] σ Q := by
  obtain ⟨R, P, hs⟩ := H
  refine zX_run (n' := 635) (ls' := [some (.inr (.inr (108, 0))), some (.inr (.inr (9, 0))), some (.inr (.inr (10, 0))), some (.inl x)]) (st' := [.inr (.inr (9, 0))]) (σ' := σ) 1 rfl ?_
  refine zX_run (n' := 639) (ls' := [some (.inr (.inr (108, 0))), some (.inr (.inr (9, 0))), some (.inr (.inr (10, 0))), some (.inl x)]) (st' := [.inl (zW (x + 1)), .inr (.inr (108, 0)), .inr (.inr (9, 0))]) (σ' := σ) 4 rfl ?_
  refine lw_ld (k := i + 1) rfl hs hl (by unfold zW; omega) (by omega) ?_
  refine zX_run (n' := 644) (ls' := [some (.inr (.inr (108, 0))), some (.inr (.inr (9, 0))), some (.inr (.inr (10, 0))), some (.inl x)]) (st' := [.inl (zW (x + 2)), .inr (.inr (108, 0)), .inl (f 0 (i + 1)), .inr (.inr (9, 0))]) (σ' := σ) 4 rfl ?_
  refine lw_ld (k := i + 2) rfl hs hl (by unfold zW; omega) (by omega) ?_
  refine zX_run (n' := 649) (ls' := [some (.inr (.inr (108, 0))), some (.inr (.inr (9, 0))), some (.inr (.inr (10, 0))), some (.inl x)]) (st' := [.inl (zW (x + 3)), .inr (.inr (108, 0)), .inl (f 0 (i + 2)), .inl (f 0 (i + 1)), .inr (.inr (9, 0))]) (σ' := σ) 4 rfl ?_
  refine lw_ld (k := i + 3) rfl hs hl (by unfold zW; omega) (by omega) ?_
  refine zX_call rfl rfl ?_
  refine zM_mono (yPi_b (by decide) (by decide) (yp_toldm (d := d) R (f 0 (i + 1)) (f 0 (i + 2)) (f 0 (i + 3))) P hs) (fun a s h => ?_)
  obtain ⟨⟨v, rfl, h⟩, hs⟩ := h
  refine zX_run (n' := 652) (ls' := [some (.inr (.inr (108, 0))), some (.inr (.inr (9, 0))), some (.inr (.inr (10, 0))), some (.inl x)]) (st' := [.inr (.inr (10, 0)), .inl v]) (σ' := s) 1 rfl ?_
  refine zX_run (n' := 656) (ls' := [some (.inr (.inr (108, 0))), some (.inr (.inr (9, 0))), some (.inr (.inr (10, 0))), some (.inl x)]) (st' := [.inl (zW (x + 1)), .inr (.inr (108, 0)), .inr (.inr (10, 0)), .inl v]) (σ' := s) 4 rfl ?_
  refine lw_ld (k := i + 1) rfl hs hl (by unfold zW; omega) (by omega) ?_
  refine zX_run (n' := 661) (ls' := [some (.inr (.inr (108, 0))), some (.inr (.inr (9, 0))), some (.inr (.inr (10, 0))), some (.inl x)]) (st' := [.inl (zW (x + 2)), .inr (.inr (108, 0)), .inl (f 0 (i + 1)), .inr (.inr (10, 0)), .inl v]) (σ' := s) 4 rfl ?_
  refine lw_ld (k := i + 2) rfl hs hl (by unfold zW; omega) (by omega) ?_
  refine zX_run (n' := 666) (ls' := [some (.inr (.inr (108, 0))), some (.inr (.inr (9, 0))), some (.inr (.inr (10, 0))), some (.inl x)]) (st' := [.inl (zW (x + 3)), .inr (.inr (108, 0)), .inl (f 0 (i + 2)), .inl (f 0 (i + 1)), .inr (.inr (10, 0)), .inl v]) (σ' := s) 4 rfl ?_
  refine lw_ld (k := i + 3) rfl hs hl (by unfold zW; omega) (by omega) ?_
  refine zX_call rfl rfl ?_
  refine zM_mono h (fun b s2 h2 => ?_)
  obtain ⟨rfl, R2, P2, hs2⟩ := h2
  exact zX_c0 rfl (fun _ => hQ s2 ⟨R2, P2, hs2⟩) (fun e => absurd rfl e)
set_option maxRecDepth 40000 in
theorem lc_19 {d i L : Nat} {x : Int} {f : Nat → Nat → Int} {σ : zS} {Q : Option zV → zS → Prop} (hl : (f 0 1000000).toNat = L) (hL : L ≤ 3584) (hx : x = (i : Int)) (hi : i + 6 < L) (hv : ∀ j, -2147483648 ≤ f 0 j ∧ f 0 j ≤ 2147483647) (H : lwS f σ) (hQ : ∀ s, lwS f s → zX (d + 61) 191 1275 [some (.inr (.inr (108, 0))), some (.inr (.inr (9, 0))), some (.inr (.inr (10, 0))), some (.inl x)] [] s Q) : zX (d + 61) 191 671 [some (.inr (.inr (108, 0))), some (.inr (.inr (9, 0))), some (.inr (.inr (10, 0))), some (.inl x)] [] σ Q := by
  obtain ⟨R, P, hs⟩ := H
  refine zX_run (n' := 672) (ls' := [some (.inr (.inr (108, 0))), some (.inr (.inr (9, 0))), some (.inr (.inr (10, 0))), some (.inl x)]) (st' := [.inr (.inr (9, 0))]) (σ' := σ) 1 rfl ?_
  refine zX_run (n' := 676) (ls' := [some (.inr (.inr (108, 0))), some (.inr (.inr (9, 0))), some (.inr (.inr (10, 0))), some (.inl x)]) (st' := [.inl (zW (x + 1)), .inr (.inr (108, 0)), .inr (.inr (9, 0))]) (σ' := σ) 4 rfl ?_
  refine lw_ld (k := i + 1) rfl hs hl (by unfold zW; omega) (by omega) ?_
  refine zX_run (n' := 681) (ls' := [some (.inr (.inr (108, 0))), some (.inr (.inr (9, 0))), some (.inr (.inr (10, 0))), some (.inl x)]) (st' := [.inl (zW (x + 2)), .inr (.inr (108, 0)), .inl (f 0 (i + 1)), .inr (.inr (9, 0))]) (σ' := σ) 4 rfl ?_
  refine lw_ld (k := i + 2) rfl hs hl (by unfold zW; omega) (by omega) ?_
  refine zX_run (n' := 686) (ls' := [some (.inr (.inr (108, 0))), some (.inr (.inr (9, 0))), some (.inr (.inr (10, 0))), some (.inl x)]) (st' := [.inl (zW (x + 3)), .inr (.inr (108, 0)), .inl (f 0 (i + 2)), .inl (f 0 (i + 1)), .inr (.inr (9, 0))]) (σ' := σ) 4 rfl ?_
  refine lw_ld (k := i + 3) rfl hs hl (by unfold zW; omega) (by omega) ?_
  refine zX_call rfl rfl ?_
  refine zM_mono (yPi_b (by decide) (by decide) (yp_lakem (d := d) R (f 0 (i + 1)) (f 0 (i + 2)) (f 0 (i + 3))) P hs) (fun a s h => ?_)
  obtain ⟨⟨v, rfl, h⟩, hs⟩ := h
  refine zX_run (n' := 689) (ls' := [some (.inr (.inr (108, 0))), some (.inr (.inr (9, 0))), some (.inr (.inr (10, 0))), some (.inl x)]) (st' := [.inr (.inr (10, 0)), .inl v]) (σ' := s) 1 rfl ?_
  refine zX_run (n' := 693) (ls' := [some (.inr (.inr (108, 0))), some (.inr (.inr (9, 0))), some (.inr (.inr (10, 0))), some (.inl x)]) (st' := [.inl (zW (x + 1)), .inr (.inr (108, 0)), .inr (.inr (10, 0)), .inl v]) (σ' := s) 4 rfl ?_
  refine lw_ld (k := i + 1) rfl hs hl (by unfold zW; omega) (by omega) ?_
  refine zX_run (n' := 698) (ls' := [some (.inr (.inr (108, 0))), some (.inr (.inr (9, 0))), some (.inr (.inr (10, 0))), some (.inl x)]) (st' := [.inl (zW (x + 2)), .inr (.inr (108, 0)), .inl (f 0 (i + 1)), .inr (.inr (10, 0)), .inl v]) (σ' := s) 4 rfl ?_
  refine lw_ld (k := i + 2) rfl hs hl (by unfold zW; omega) (by omega) ?_
  refine zX_run (n' := 703) (ls' := [some (.inr (.inr (108, 0))), some (.inr (.inr (9, 0))), some (.inr (.inr (10, 0))), some (.inl x)]) (st' := [.inl (zW (x + 3)), .inr (.inr (108, 0)), .inl (f 0 (i + 2)), .inl (f 0 (i + 1)), .inr (.inr (10, 0)), .inl v]) (σ' := s) 4 rfl ?_
  refine lw_ld (k := i + 3) rfl hs hl (by unfold zW; omega) (by omega) ?_
  refine zX_call rfl rfl ?_
  refine zM_mono h (fun b s2 h2 => ?_)
  obtain ⟨rfl, R2, P2, hs2⟩ := h2
  exact zX_c0 rfl (fun _ => hQ s2 ⟨R2, P2, hs2⟩) (fun e => absurd rfl e)
set_option maxRecDepth 40000 in
theorem lc_20 {d i L : Nat} {x : Int} {f : Nat → Nat → Int} {σ : zS} {Q : Option zV → zS → Prop} (hl : (f 0 1000000).toNat = L) (hL : L ≤ 3584) (hx : x = (i : Int)) (hi : i + 6 < L) (hv : ∀ j, -2147483648 ≤ f 0 j ∧ f 0 j ≤ 2147483647) (H : lwS f σ) (hQ : ∀ s, lwS f s → zX (d + 61) 191 1275 [some (.inr (.inr (108, 0))), some (.inr (.inr (9, 0))), some (.inr (.inr (10, 0))), some (.inl x)] [] s Q) : zX (d + 61) 191 708 [some (.inr (.inr (108, 0))), some (.inr (.inr (9, 0))), some (.inr (.inr (10, 0))), some (.inl x)] [] σ Q := by
  obtain ⟨R, P, hs⟩ := H
  refine zX_run (n' := 709) (ls' := [some (.inr (.inr (108, 0))), some (.inr (.inr (9, 0))), some (.inr (.inr (10, 0))), some (.inl x)]) (st' := [.inr (.inr (9, 0))]) (σ' := σ) 1 rfl ?_
  refine zX_run (n' := 713) (ls' := [some (.inr (.inr (108, 0))), some (.inr (.inr (9, 0))), some (.inr (.inr (10, 0))), some (.inl x)]) (st' := [.inl (zW (x + 1)), .inr (.inr (108, 0)), .inr (.inr (9, 0))]) (σ' := σ) 4 rfl ?_
  refine lw_ld (k := i + 1) rfl hs hl (by unfold zW; omega) (by omega) ?_
  refine zX_call rfl rfl ?_
  refine zM_mono (yPi_b (by decide) (by decide) (yp_sharp (d := d) R (f 0 (i + 1))) P hs) (fun a s h => ?_)
  obtain ⟨⟨v, rfl, h⟩, hs⟩ := h
  refine zX_run (n' := 716) (ls' := [some (.inr (.inr (108, 0))), some (.inr (.inr (9, 0))), some (.inr (.inr (10, 0))), some (.inl x)]) (st' := [.inr (.inr (10, 0)), .inl v]) (σ' := s) 1 rfl ?_
  refine zX_run (n' := 720) (ls' := [some (.inr (.inr (108, 0))), some (.inr (.inr (9, 0))), some (.inr (.inr (10, 0))), some (.inl x)]) (st' := [.inl (zW (x + 1)), .inr (.inr (108, 0)), .inr (.inr (10, 0)), .inl v]) (σ' := s) 4 rfl ?_
  refine lw_ld (k := i + 1) rfl hs hl (by unfold zW; omega) (by omega) ?_
  refine zX_call rfl rfl ?_
  refine zM_mono h (fun b s2 h2 => ?_)
  obtain ⟨rfl, R2, P2, hs2⟩ := h2
  exact zX_c0 rfl (fun _ => hQ s2 ⟨R2, P2, hs2⟩) (fun e => absurd rfl e)
set_option maxRecDepth 40000 in
theorem lc_21 {d i L : Nat} {x : Int} {f : Nat → Nat → Int} {σ : zS} {Q : Option zV → zS → Prop} (hl : (f 0 1000000).toNat = L) (hL : L ≤ 3584) (hx : x = (i : Int)) (hi : i + 6 < L) (hv : ∀ j, -2147483648 ≤ f 0 j ∧ f 0 j ≤ 2147483647) (H : lwS f σ) (hQ : ∀ s, lwS f s → zX (d + 61) 191 1275 [some (.inr (.inr (108, 0))), some (.inr (.inr (9, 0))), some (.inr (.inr (10, 0))), some (.inl x)] [] s Q) : zX (d + 61) 191 725 [some (.inr (.inr (108, 0))), some (.inr (.inr (9, 0))), some (.inr (.inr (10, 0))), some (.inl x)] [] σ Q := by
  obtain ⟨R, P, hs⟩ := H
  refine zX_run (n' := 726) (ls' := [some (.inr (.inr (108, 0))), some (.inr (.inr (9, 0))), some (.inr (.inr (10, 0))), some (.inl x)]) (st' := [.inr (.inr (9, 0))]) (σ' := σ) 1 rfl ?_
  refine zX_run (n' := 730) (ls' := [some (.inr (.inr (108, 0))), some (.inr (.inr (9, 0))), some (.inr (.inr (10, 0))), some (.inl x)]) (st' := [.inl (zW (x + 1)), .inr (.inr (108, 0)), .inr (.inr (9, 0))]) (σ' := σ) 4 rfl ?_
  refine lw_ld (k := i + 1) rfl hs hl (by unfold zW; omega) (by omega) ?_
  refine zX_call rfl rfl ?_
  refine zM_mono (yPl_b (by decide) (by decide) (yp_sum (d := d) R (f 0 (i + 1))) P hs) (fun a s h => ?_)
  obtain ⟨⟨v, rfl, h⟩, hs⟩ := h
  refine zX_run (n' := 733) (ls' := [some (.inr (.inr (108, 0))), some (.inr (.inr (9, 0))), some (.inr (.inr (10, 0))), some (.inl x)]) (st' := [.inr (.inr (10, 0)), .inr (.inl v)]) (σ' := s) 1 rfl ?_
  refine zX_run (n' := 737) (ls' := [some (.inr (.inr (108, 0))), some (.inr (.inr (9, 0))), some (.inr (.inr (10, 0))), some (.inl x)]) (st' := [.inl (zW (x + 1)), .inr (.inr (108, 0)), .inr (.inr (10, 0)), .inr (.inl v)]) (σ' := s) 4 rfl ?_
  refine lw_ld (k := i + 1) rfl hs hl (by unfold zW; omega) (by omega) ?_
  refine zX_call rfl rfl ?_
  refine zM_mono h (fun b s2 h2 => ?_)
  obtain ⟨rfl, R2, P2, hs2⟩ := h2
  refine zX_lc rfl (fun e => absurd e (Int.lt_irrefl _)) (fun _ => ?_) (fun e => absurd e (Int.lt_irrefl _))
  exact zX_i0 rfl (fun _ => hQ s2 ⟨R2, P2, hs2⟩) (fun e => absurd rfl e)
set_option maxRecDepth 40000 in
theorem lc_22 {d i L : Nat} {x : Int} {f : Nat → Nat → Int} {σ : zS} {Q : Option zV → zS → Prop} (hl : (f 0 1000000).toNat = L) (hL : L ≤ 3584) (hx : x = (i : Int)) (hi : i + 6 < L) (hv : ∀ j, -2147483648 ≤ f 0 j ∧ f 0 j ≤ 2147483647) (H : lwS f σ) (hQ : ∀ s, lwS f s → zX (d + 61) 191 1275 [some (.inr (.inr (108, 0))), some (.inr (.inr (9, 0))), some (.inr (.inr (10, 0))), some (.inl x)] [] s Q) : zX (d + 61) 191 743 [some (.inr (.inr (108, 0))), some (.inr (.inr (9, 0))), some (.inr (.inr (10, 0))), some (.inl x)] [] σ Q := by
  obtain ⟨R, P, hs⟩ := H
  refine zX_run (n' := 744) (ls' := [some (.inr (.inr (108, 0))), some (.inr (.inr (9, 0))), some (.inr (.inr (10, 0))), some (.inl x)]) (st' := [.inr (.inr (9, 0))]) (σ' := σ) 1 rfl ?_
  refine zX_run (n' := 748) (ls' := [some (.inr (.inr (108, 0))), some (.inr (.inr (9, 0))), some (.inr (.inr (10, 0))), some (.inl x)]) (st' := [.inl (zW (x + 1)), .inr (.inr (108, 0)), .inr (.inr (9, 0))]) (σ' := σ) 4 rfl ?_
  refine lw_ld (k := i + 1) rfl hs hl (by unfold zW; omega) (by omega) ?_
  refine zX_run (n' := 753) (ls' := [some (.inr (.inr (108, 0))), some (.inr (.inr (9, 0))), some (.inr (.inr (10, 0))), some (.inl x)]) (st' := [.inl (zW (x + 2)), .inr (.inr (108, 0)), .inl (f 0 (i + 1)), .inr (.inr (9, 0))]) (σ' := σ) 4 rfl ?_
  refine lw_ld (k := i + 2) rfl hs hl (by unfold zW; omega) (by omega) ?_
  refine zX_run (n' := 758) (ls' := [some (.inr (.inr (108, 0))), some (.inr (.inr (9, 0))), some (.inr (.inr (10, 0))), some (.inl x)]) (st' := [.inl (zW (x + 3)), .inr (.inr (108, 0)), .inl (f 0 (i + 2)), .inl (f 0 (i + 1)), .inr (.inr (9, 0))]) (σ' := σ) 4 rfl ?_
  refine lw_ld (k := i + 3) rfl hs hl (by unfold zW; omega) (by omega) ?_
  refine zX_run (n' := 763) (ls' := [some (.inr (.inr (108, 0))), some (.inr (.inr (9, 0))), some (.inr (.inr (10, 0))), some (.inl x)]) (st' := [.inl (zW (x + 4)), .inr (.inr (108, 0)), .inl (f 0 (i + 3)), .inl (f 0 (i + 2)), .inl (f 0 (i + 1)), .inr (.inr (9, 0))]) (σ' := σ) 4 rfl ?_
  refine lw_ld (k := i + 4) rfl hs hl (by unfold zW; omega) (by omega) ?_
  refine zX_call rfl rfl ?_
  refine zM_mono (yPl_b (by decide) (by decide) (yp_owed (d := d) R (f 0 (i + 1)) (f 0 (i + 2)) (f 0 (i + 3)) (f 0 (i + 4))) P hs) (fun a s h => ?_)
  obtain ⟨⟨v, rfl, h⟩, hs⟩ := h
  refine zX_run (n' := 766) (ls' := [some (.inr (.inr (108, 0))), some (.inr (.inr (9, 0))), some (.inr (.inr (10, 0))), some (.inl x)]) (st' := [.inr (.inr (10, 0)), .inr (.inl v)]) (σ' := s) 1 rfl ?_
  refine zX_run (n' := 770) (ls' := [some (.inr (.inr (108, 0))), some (.inr (.inr (9, 0))), some (.inr (.inr (10, 0))), some (.inl x)]) (st' := [.inl (zW (x + 1)), .inr (.inr (108, 0)), .inr (.inr (10, 0)), .inr (.inl v)]) (σ' := s) 4 rfl ?_
  refine lw_ld (k := i + 1) rfl hs hl (by unfold zW; omega) (by omega) ?_
  refine zX_run (n' := 775) (ls' := [some (.inr (.inr (108, 0))), some (.inr (.inr (9, 0))), some (.inr (.inr (10, 0))), some (.inl x)]) (st' := [.inl (zW (x + 2)), .inr (.inr (108, 0)), .inl (f 0 (i + 1)), .inr (.inr (10, 0)), .inr (.inl v)]) (σ' := s) 4 rfl ?_
  refine lw_ld (k := i + 2) rfl hs hl (by unfold zW; omega) (by omega) ?_
  refine zX_run (n' := 780) (ls' := [some (.inr (.inr (108, 0))), some (.inr (.inr (9, 0))), some (.inr (.inr (10, 0))), some (.inl x)]) (st' := [.inl (zW (x + 3)), .inr (.inr (108, 0)), .inl (f 0 (i + 2)), .inl (f 0 (i + 1)), .inr (.inr (10, 0)), .inr (.inl v)]) (σ' := s) 4 rfl ?_
  refine lw_ld (k := i + 3) rfl hs hl (by unfold zW; omega) (by omega) ?_
  refine zX_run (n' := 785) (ls' := [some (.inr (.inr (108, 0))), some (.inr (.inr (9, 0))), some (.inr (.inr (10, 0))), some (.inl x)]) (st' := [.inl (zW (x + 4)), .inr (.inr (108, 0)), .inl (f 0 (i + 3)), .inl (f 0 (i + 2)), .inl (f 0 (i + 1)), .inr (.inr (10, 0)), .inr (.inl v)]) (σ' := s) 4 rfl ?_
  refine lw_ld (k := i + 4) rfl hs hl (by unfold zW; omega) (by omega) ?_
  refine zX_call rfl rfl ?_
  refine zM_mono h (fun b s2 h2 => ?_)
  obtain ⟨rfl, R2, P2, hs2⟩ := h2
  refine zX_lc rfl (fun e => absurd e (Int.lt_irrefl _)) (fun _ => ?_) (fun e => absurd e (Int.lt_irrefl _))
  exact zX_i0 rfl (fun _ => hQ s2 ⟨R2, P2, hs2⟩) (fun e => absurd rfl e)
set_option maxRecDepth 40000 in
theorem lc_23 {d i L : Nat} {x : Int} {f : Nat → Nat → Int} {σ : zS} {Q : Option zV → zS → Prop} (hl : (f 0 1000000).toNat = L) (hL : L ≤ 3584) (hx : x = (i : Int)) (hi : i + 6 < L) (hv : ∀ j, -2147483648 ≤ f 0 j ∧ f 0 j ≤ 2147483647) (H : lwS f σ) (hQ : ∀ s, lwS f s → zX (d + 61) 191 1275 [some (.inr (.inr (108, 0))), some (.inr (.inr (9, 0))), some (.inr (.inr (10, 0))), some (.inl x)] [] s Q) : zX (d + 61) 191 791 [some (.inr (.inr (108, 0))), some (.inr (.inr (9, 0))), some (.inr (.inr (10, 0))), some (.inl x)] [] σ Q := by
  obtain ⟨R, P, hs⟩ := H
  refine zX_run (n' := 792) (ls' := [some (.inr (.inr (108, 0))), some (.inr (.inr (9, 0))), some (.inr (.inr (10, 0))), some (.inl x)]) (st' := [.inr (.inr (9, 0))]) (σ' := σ) 1 rfl ?_
  refine zX_run (n' := 796) (ls' := [some (.inr (.inr (108, 0))), some (.inr (.inr (9, 0))), some (.inr (.inr (10, 0))), some (.inl x)]) (st' := [.inl (zW (x + 1)), .inr (.inr (108, 0)), .inr (.inr (9, 0))]) (σ' := σ) 4 rfl ?_
  refine lw_ld (k := i + 1) rfl hs hl (by unfold zW; omega) (by omega) ?_
  refine zX_run (n' := 801) (ls' := [some (.inr (.inr (108, 0))), some (.inr (.inr (9, 0))), some (.inr (.inr (10, 0))), some (.inl x)]) (st' := [.inl (zW (x + 2)), .inr (.inr (108, 0)), .inl (f 0 (i + 1)), .inr (.inr (9, 0))]) (σ' := σ) 4 rfl ?_
  refine lw_ld (k := i + 2) rfl hs hl (by unfold zW; omega) (by omega) ?_
  refine zX_run (n' := 806) (ls' := [some (.inr (.inr (108, 0))), some (.inr (.inr (9, 0))), some (.inr (.inr (10, 0))), some (.inl x)]) (st' := [.inl (zW (x + 3)), .inr (.inr (108, 0)), .inl (f 0 (i + 2)), .inl (f 0 (i + 1)), .inr (.inr (9, 0))]) (σ' := σ) 4 rfl ?_
  refine lw_ld (k := i + 3) rfl hs hl (by unfold zW; omega) (by omega) ?_
  refine zX_call rfl rfl ?_
  refine zM_mono (yPi_b (by decide) (by decide) (yp_breaks (d := d) R (f 0 (i + 1)) (f 0 (i + 2)) (f 0 (i + 3))) P hs) (fun a s h => ?_)
  obtain ⟨⟨v, rfl, h⟩, hs⟩ := h
  refine zX_run (n' := 809) (ls' := [some (.inr (.inr (108, 0))), some (.inr (.inr (9, 0))), some (.inr (.inr (10, 0))), some (.inl x)]) (st' := [.inr (.inr (10, 0)), .inl v]) (σ' := s) 1 rfl ?_
  refine zX_run (n' := 813) (ls' := [some (.inr (.inr (108, 0))), some (.inr (.inr (9, 0))), some (.inr (.inr (10, 0))), some (.inl x)]) (st' := [.inl (zW (x + 1)), .inr (.inr (108, 0)), .inr (.inr (10, 0)), .inl v]) (σ' := s) 4 rfl ?_
  refine lw_ld (k := i + 1) rfl hs hl (by unfold zW; omega) (by omega) ?_
  refine zX_run (n' := 818) (ls' := [some (.inr (.inr (108, 0))), some (.inr (.inr (9, 0))), some (.inr (.inr (10, 0))), some (.inl x)]) (st' := [.inl (zW (x + 2)), .inr (.inr (108, 0)), .inl (f 0 (i + 1)), .inr (.inr (10, 0)), .inl v]) (σ' := s) 4 rfl ?_
  refine lw_ld (k := i + 2) rfl hs hl (by unfold zW; omega) (by omega) ?_
  refine zX_run (n' := 823) (ls' := [some (.inr (.inr (108, 0))), some (.inr (.inr (9, 0))), some (.inr (.inr (10, 0))), some (.inl x)]) (st' := [.inl (zW (x + 3)), .inr (.inr (108, 0)), .inl (f 0 (i + 2)), .inl (f 0 (i + 1)), .inr (.inr (10, 0)), .inl v]) (σ' := s) 4 rfl ?_
  refine lw_ld (k := i + 3) rfl hs hl (by unfold zW; omega) (by omega) ?_
  refine zX_call rfl rfl ?_
  refine zM_mono h (fun b s2 h2 => ?_)
  obtain ⟨rfl, R2, P2, hs2⟩ := h2
  exact zX_c0 rfl (fun _ => hQ s2 ⟨R2, P2, hs2⟩) (fun e => absurd rfl e)
set_option maxRecDepth 40000 in
theorem lc_24 {d i L : Nat} {x : Int} {f : Nat → Nat → Int} {σ : zS} {Q : Option zV → zS → Prop} (hl : (f 0 1000000).toNat = L) (hL : L ≤ 3584) (hx : x = (i : Int)) (hi : i + 6 < L) (hv : ∀ j, -2147483648 ≤ f 0 j ∧ f 0 j ≤ 2147483647) (H : lwS f σ) (hQ : ∀ s, lwS f s → zX (d + 61) 191 1275 [some (.inr (.inr (108, 0))), some (.inr (.inr (9, 0))), some (.inr (.inr (10, 0))), some (.inl x)] [] s Q) : zX (d + 61) 191 828 [some (.inr (.inr (108, 0))), some (.inr (.inr (9, 0))), some (.inr (.inr (10, 0))), some (.inl x)] [] σ Q := by
  obtain ⟨R, P, hs⟩ := H
  refine zX_run (n' := 829) (ls' := [some (.inr (.inr (108, 0))), some (.inr (.inr (9, 0))), some (.inr (.inr (10, 0))), some (.inl x)]) (st' := [.inr (.inr (9, 0))]) (σ' := σ) 1 rfl ?_
  refine zX_run (n' := 833) (ls' := [some (.inr (.inr (108, 0))), some (.inr (.inr (9, 0))), some (.inr (.inr (10, 0))), some (.inl x)]) (st' := [.inl (zW (x + 1)), .inr (.inr (108, 0)), .inr (.inr (9, 0))]) (σ' := σ) 4 rfl ?_
  refine lw_ld (k := i + 1) rfl hs hl (by unfold zW; omega) (by omega) ?_
  refine zX_run (n' := 838) (ls' := [some (.inr (.inr (108, 0))), some (.inr (.inr (9, 0))), some (.inr (.inr (10, 0))), some (.inl x)]) (st' := [.inl (zW (x + 2)), .inr (.inr (108, 0)), .inl (f 0 (i + 1)), .inr (.inr (9, 0))]) (σ' := σ) 4 rfl ?_
  refine lw_ld (k := i + 2) rfl hs hl (by unfold zW; omega) (by omega) ?_
  refine zX_run (n' := 843) (ls' := [some (.inr (.inr (108, 0))), some (.inr (.inr (9, 0))), some (.inr (.inr (10, 0))), some (.inl x)]) (st' := [.inl (zW (x + 3)), .inr (.inr (108, 0)), .inl (f 0 (i + 2)), .inl (f 0 (i + 1)), .inr (.inr (9, 0))]) (σ' := σ) 4 rfl ?_
  refine lw_ld (k := i + 3) rfl hs hl (by unfold zW; omega) (by omega) ?_
  refine zX_run (n' := 848) (ls' := [some (.inr (.inr (108, 0))), some (.inr (.inr (9, 0))), some (.inr (.inr (10, 0))), some (.inl x)]) (st' := [.inl (zW (x + 4)), .inr (.inr (108, 0)), .inl (f 0 (i + 3)), .inl (f 0 (i + 2)), .inl (f 0 (i + 1)), .inr (.inr (9, 0))]) (σ' := σ) 4 rfl ?_
  refine lw_ld (k := i + 4) rfl hs hl (by unfold zW; omega) (by omega) ?_
  refine zX_call rfl rfl ?_
  refine zM_mono (yPi_b (by decide) (by decide) (yp_found (d := d) R (f 0 (i + 1)) (f 0 (i + 2)) (f 0 (i + 3)) (f 0 (i + 4))) P hs) (fun a s h => ?_)
  obtain ⟨⟨v, rfl, h⟩, hs⟩ := h
  refine zX_run (n' := 851) (ls' := [some (.inr (.inr (108, 0))), some (.inr (.inr (9, 0))), some (.inr (.inr (10, 0))), some (.inl x)]) (st' := [.inr (.inr (10, 0)), .inl v]) (σ' := s) 1 rfl ?_
  refine zX_run (n' := 855) (ls' := [some (.inr (.inr (108, 0))), some (.inr (.inr (9, 0))), some (.inr (.inr (10, 0))), some (.inl x)]) (st' := [.inl (zW (x + 1)), .inr (.inr (108, 0)), .inr (.inr (10, 0)), .inl v]) (σ' := s) 4 rfl ?_
  refine lw_ld (k := i + 1) rfl hs hl (by unfold zW; omega) (by omega) ?_
  refine zX_run (n' := 860) (ls' := [some (.inr (.inr (108, 0))), some (.inr (.inr (9, 0))), some (.inr (.inr (10, 0))), some (.inl x)]) (st' := [.inl (zW (x + 2)), .inr (.inr (108, 0)), .inl (f 0 (i + 1)), .inr (.inr (10, 0)), .inl v]) (σ' := s) 4 rfl ?_
  refine lw_ld (k := i + 2) rfl hs hl (by unfold zW; omega) (by omega) ?_
  refine zX_run (n' := 865) (ls' := [some (.inr (.inr (108, 0))), some (.inr (.inr (9, 0))), some (.inr (.inr (10, 0))), some (.inl x)]) (st' := [.inl (zW (x + 3)), .inr (.inr (108, 0)), .inl (f 0 (i + 2)), .inl (f 0 (i + 1)), .inr (.inr (10, 0)), .inl v]) (σ' := s) 4 rfl ?_
  refine lw_ld (k := i + 3) rfl hs hl (by unfold zW; omega) (by omega) ?_
  refine zX_run (n' := 870) (ls' := [some (.inr (.inr (108, 0))), some (.inr (.inr (9, 0))), some (.inr (.inr (10, 0))), some (.inl x)]) (st' := [.inl (zW (x + 4)), .inr (.inr (108, 0)), .inl (f 0 (i + 3)), .inl (f 0 (i + 2)), .inl (f 0 (i + 1)), .inr (.inr (10, 0)), .inl v]) (σ' := s) 4 rfl ?_
  refine lw_ld (k := i + 4) rfl hs hl (by unfold zW; omega) (by omega) ?_
  refine zX_call rfl rfl ?_
  refine zM_mono h (fun b s2 h2 => ?_)
  obtain ⟨rfl, R2, P2, hs2⟩ := h2
  exact zX_c0 rfl (fun _ => hQ s2 ⟨R2, P2, hs2⟩) (fun e => absurd rfl e)
set_option maxRecDepth 40000 in
theorem lc_25 {d i L : Nat} {x : Int} {f : Nat → Nat → Int} {σ : zS} {Q : Option zV → zS → Prop} (hl : (f 0 1000000).toNat = L) (hL : L ≤ 3584) (hx : x = (i : Int)) (hi : i + 6 < L) (hv : ∀ j, -2147483648 ≤ f 0 j ∧ f 0 j ≤ 2147483647) (H : lwS f σ) (hQ : ∀ s, lwS f s → zX (d + 61) 191 1275 [some (.inr (.inr (108, 0))), some (.inr (.inr (9, 0))), some (.inr (.inr (10, 0))), some (.inl x)] [] s Q) : zX (d + 61) 191 875 [some (.inr (.inr (108, 0))), some (.inr (.inr (9, 0))), some (.inr (.inr (10, 0))), some (.inl x)] [] σ Q := by
  obtain ⟨R, P, hs⟩ := H
  refine zX_run (n' := 876) (ls' := [some (.inr (.inr (108, 0))), some (.inr (.inr (9, 0))), some (.inr (.inr (10, 0))), some (.inl x)]) (st' := [.inr (.inr (9, 0))]) (σ' := σ) 1 rfl ?_
  refine zX_run (n' := 880) (ls' := [some (.inr (.inr (108, 0))), some (.inr (.inr (9, 0))), some (.inr (.inr (10, 0))), some (.inl x)]) (st' := [.inl (zW (x + 1)), .inr (.inr (108, 0)), .inr (.inr (9, 0))]) (σ' := σ) 4 rfl ?_
  refine lw_ld (k := i + 1) rfl hs hl (by unfold zW; omega) (by omega) ?_
  refine zX_run (n' := 885) (ls' := [some (.inr (.inr (108, 0))), some (.inr (.inr (9, 0))), some (.inr (.inr (10, 0))), some (.inl x)]) (st' := [.inl (zW (x + 2)), .inr (.inr (108, 0)), .inl (f 0 (i + 1)), .inr (.inr (9, 0))]) (σ' := σ) 4 rfl ?_
  refine lw_ld (k := i + 2) rfl hs hl (by unfold zW; omega) (by omega) ?_
  refine zX_call rfl rfl ?_
  refine zM_mono (yPi_b (by decide) (by decide) (yp_sold (d := d) R (f 0 (i + 1)) (f 0 (i + 2))) P hs) (fun a s h => ?_)
  obtain ⟨⟨v, rfl, h⟩, hs⟩ := h
  refine zX_run (n' := 888) (ls' := [some (.inr (.inr (108, 0))), some (.inr (.inr (9, 0))), some (.inr (.inr (10, 0))), some (.inl x)]) (st' := [.inr (.inr (10, 0)), .inl v]) (σ' := s) 1 rfl ?_
  refine zX_run (n' := 892) (ls' := [some (.inr (.inr (108, 0))), some (.inr (.inr (9, 0))), some (.inr (.inr (10, 0))), some (.inl x)]) (st' := [.inl (zW (x + 1)), .inr (.inr (108, 0)), .inr (.inr (10, 0)), .inl v]) (σ' := s) 4 rfl ?_
  refine lw_ld (k := i + 1) rfl hs hl (by unfold zW; omega) (by omega) ?_
  refine zX_run (n' := 897) (ls' := [some (.inr (.inr (108, 0))), some (.inr (.inr (9, 0))), some (.inr (.inr (10, 0))), some (.inl x)]) (st' := [.inl (zW (x + 2)), .inr (.inr (108, 0)), .inl (f 0 (i + 1)), .inr (.inr (10, 0)), .inl v]) (σ' := s) 4 rfl ?_
  refine lw_ld (k := i + 2) rfl hs hl (by unfold zW; omega) (by omega) ?_
  refine zX_call rfl rfl ?_
  refine zM_mono h (fun b s2 h2 => ?_)
  obtain ⟨rfl, R2, P2, hs2⟩ := h2
  exact zX_c0 rfl (fun _ => hQ s2 ⟨R2, P2, hs2⟩) (fun e => absurd rfl e)
set_option maxRecDepth 40000 in
theorem lc_26 {d i L : Nat} {x : Int} {f : Nat → Nat → Int} {σ : zS} {Q : Option zV → zS → Prop} (hl : (f 0 1000000).toNat = L) (hL : L ≤ 3584) (hx : x = (i : Int)) (hi : i + 6 < L) (hv : ∀ j, -2147483648 ≤ f 0 j ∧ f 0 j ≤ 2147483647) (H : lwS f σ) (hQ : ∀ s, lwS f s → zX (d + 61) 191 1275 [some (.inr (.inr (108, 0))), some (.inr (.inr (9, 0))), some (.inr (.inr (10, 0))), some (.inl x)] [] s Q) : zX (d + 61) 191 902 [some (.inr (.inr (108, 0))), some (.inr (.inr (9, 0))), some (.inr (.inr (10, 0))), some (.inl x)] [] σ Q := by
  obtain ⟨R, P, hs⟩ := H
  refine zX_run (n' := 903) (ls' := [some (.inr (.inr (108, 0))), some (.inr (.inr (9, 0))), some (.inr (.inr (10, 0))), some (.inl x)]) (st' := [.inr (.inr (9, 0))]) (σ' := σ) 1 rfl ?_
  refine zX_run (n' := 907) (ls' := [some (.inr (.inr (108, 0))), some (.inr (.inr (9, 0))), some (.inr (.inr (10, 0))), some (.inl x)]) (st' := [.inl (zW (x + 1)), .inr (.inr (108, 0)), .inr (.inr (9, 0))]) (σ' := σ) 4 rfl ?_
  refine lw_ld (k := i + 1) rfl hs hl (by unfold zW; omega) (by omega) ?_
  refine zX_run (n' := 912) (ls' := [some (.inr (.inr (108, 0))), some (.inr (.inr (9, 0))), some (.inr (.inr (10, 0))), some (.inl x)]) (st' := [.inl (zW (x + 2)), .inr (.inr (108, 0)), .inl (f 0 (i + 1)), .inr (.inr (9, 0))]) (σ' := σ) 4 rfl ?_
  refine lw_ld (k := i + 2) rfl hs hl (by unfold zW; omega) (by omega) ?_
  refine zX_call rfl rfl ?_
  refine zM_mono (yPl_b (by decide) (by decide) (yp_harm (d := d) R (f 0 (i + 1)) (f 0 (i + 2))) P hs) (fun a s h => ?_)
  obtain ⟨⟨v, rfl, h⟩, hs⟩ := h
  refine zX_run (n' := 915) (ls' := [some (.inr (.inr (108, 0))), some (.inr (.inr (9, 0))), some (.inr (.inr (10, 0))), some (.inl x)]) (st' := [.inr (.inr (10, 0)), .inr (.inl v)]) (σ' := s) 1 rfl ?_
  refine zX_run (n' := 919) (ls' := [some (.inr (.inr (108, 0))), some (.inr (.inr (9, 0))), some (.inr (.inr (10, 0))), some (.inl x)]) (st' := [.inl (zW (x + 1)), .inr (.inr (108, 0)), .inr (.inr (10, 0)), .inr (.inl v)]) (σ' := s) 4 rfl ?_
  refine lw_ld (k := i + 1) rfl hs hl (by unfold zW; omega) (by omega) ?_
  refine zX_run (n' := 924) (ls' := [some (.inr (.inr (108, 0))), some (.inr (.inr (9, 0))), some (.inr (.inr (10, 0))), some (.inl x)]) (st' := [.inl (zW (x + 2)), .inr (.inr (108, 0)), .inl (f 0 (i + 1)), .inr (.inr (10, 0)), .inr (.inl v)]) (σ' := s) 4 rfl ?_
  refine lw_ld (k := i + 2) rfl hs hl (by unfold zW; omega) (by omega) ?_
  refine zX_call rfl rfl ?_
  refine zM_mono h (fun b s2 h2 => ?_)
  obtain ⟨rfl, R2, P2, hs2⟩ := h2
  refine zX_lc rfl (fun e => absurd e (Int.lt_irrefl _)) (fun _ => ?_) (fun e => absurd e (Int.lt_irrefl _))
  exact zX_i0 rfl (fun _ => hQ s2 ⟨R2, P2, hs2⟩) (fun e => absurd rfl e)
set_option maxRecDepth 40000 in
theorem lc_27 {d i L : Nat} {x : Int} {f : Nat → Nat → Int} {σ : zS} {Q : Option zV → zS → Prop} (hl : (f 0 1000000).toNat = L) (hL : L ≤ 3584) (hx : x = (i : Int)) (hi : i + 6 < L) (hv : ∀ j, -2147483648 ≤ f 0 j ∧ f 0 j ≤ 2147483647) (H : lwS f σ) (hQ : ∀ s, lwS f s → zX (d + 61) 191 1275 [some (.inr (.inr (108, 0))), some (.inr (.inr (9, 0))), some (.inr (.inr (10, 0))), some (.inl x)] [] s Q) : zX (d + 61) 191 930 [some (.inr (.inr (108, 0))), some (.inr (.inr (9, 0))), some (.inr (.inr (10, 0))), some (.inl x)] [] σ Q := by
  obtain ⟨R, P, hs⟩ := H
  refine zX_run (n' := 931) (ls' := [some (.inr (.inr (108, 0))), some (.inr (.inr (9, 0))), some (.inr (.inr (10, 0))), some (.inl x)]) (st' := [.inr (.inr (9, 0))]) (σ' := σ) 1 rfl ?_
  refine zX_run (n' := 935) (ls' := [some (.inr (.inr (108, 0))), some (.inr (.inr (9, 0))), some (.inr (.inr (10, 0))), some (.inl x)]) (st' := [.inl (zW (x + 1)), .inr (.inr (108, 0)), .inr (.inr (9, 0))]) (σ' := σ) 4 rfl ?_
  refine lw_ld (k := i + 1) rfl hs hl (by unfold zW; omega) (by omega) ?_
  refine zX_run (n' := 940) (ls' := [some (.inr (.inr (108, 0))), some (.inr (.inr (9, 0))), some (.inr (.inr (10, 0))), some (.inl x)]) (st' := [.inl (zW (x + 2)), .inr (.inr (108, 0)), .inl (f 0 (i + 1)), .inr (.inr (9, 0))]) (σ' := σ) 4 rfl ?_
  refine lw_ld (k := i + 2) rfl hs hl (by unfold zW; omega) (by omega) ?_
  refine zX_run (n' := 945) (ls' := [some (.inr (.inr (108, 0))), some (.inr (.inr (9, 0))), some (.inr (.inr (10, 0))), some (.inl x)]) (st' := [.inl (zW (x + 3)), .inr (.inr (108, 0)), .inl (f 0 (i + 2)), .inl (f 0 (i + 1)), .inr (.inr (9, 0))]) (σ' := σ) 4 rfl ?_
  refine lw_ld (k := i + 3) rfl hs hl (by unfold zW; omega) (by omega) ?_
  refine zX_run (n' := 950) (ls' := [some (.inr (.inr (108, 0))), some (.inr (.inr (9, 0))), some (.inr (.inr (10, 0))), some (.inl x)]) (st' := [.inl (zW (x + 4)), .inr (.inr (108, 0)), .inl (f 0 (i + 3)), .inl (f 0 (i + 2)), .inl (f 0 (i + 1)), .inr (.inr (9, 0))]) (σ' := σ) 4 rfl ?_
  refine lw_ld (k := i + 4) rfl hs hl (by unfold zW; omega) (by omega) ?_
  refine zX_call rfl rfl ?_
  refine zM_mono (yPl_b (by decide) (by decide) (yp_unlike (d := d) R (f 0 (i + 1)) (f 0 (i + 2)) (f 0 (i + 3)) (f 0 (i + 4))) P hs) (fun a s h => ?_)
  obtain ⟨⟨v, rfl, h⟩, hs⟩ := h
  refine zX_run (n' := 953) (ls' := [some (.inr (.inr (108, 0))), some (.inr (.inr (9, 0))), some (.inr (.inr (10, 0))), some (.inl x)]) (st' := [.inr (.inr (10, 0)), .inr (.inl v)]) (σ' := s) 1 rfl ?_
  refine zX_run (n' := 957) (ls' := [some (.inr (.inr (108, 0))), some (.inr (.inr (9, 0))), some (.inr (.inr (10, 0))), some (.inl x)]) (st' := [.inl (zW (x + 1)), .inr (.inr (108, 0)), .inr (.inr (10, 0)), .inr (.inl v)]) (σ' := s) 4 rfl ?_
  refine lw_ld (k := i + 1) rfl hs hl (by unfold zW; omega) (by omega) ?_
  refine zX_run (n' := 962) (ls' := [some (.inr (.inr (108, 0))), some (.inr (.inr (9, 0))), some (.inr (.inr (10, 0))), some (.inl x)]) (st' := [.inl (zW (x + 2)), .inr (.inr (108, 0)), .inl (f 0 (i + 1)), .inr (.inr (10, 0)), .inr (.inl v)]) (σ' := s) 4 rfl ?_
  refine lw_ld (k := i + 2) rfl hs hl (by unfold zW; omega) (by omega) ?_
  refine zX_run (n' := 967) (ls' := [some (.inr (.inr (108, 0))), some (.inr (.inr (9, 0))), some (.inr (.inr (10, 0))), some (.inl x)]) (st' := [.inl (zW (x + 3)), .inr (.inr (108, 0)), .inl (f 0 (i + 2)), .inl (f 0 (i + 1)), .inr (.inr (10, 0)), .inr (.inl v)]) (σ' := s) 4 rfl ?_
  refine lw_ld (k := i + 3) rfl hs hl (by unfold zW; omega) (by omega) ?_
  refine zX_run (n' := 972) (ls' := [some (.inr (.inr (108, 0))), some (.inr (.inr (9, 0))), some (.inr (.inr (10, 0))), some (.inl x)]) (st' := [.inl (zW (x + 4)), .inr (.inr (108, 0)), .inl (f 0 (i + 3)), .inl (f 0 (i + 2)), .inl (f 0 (i + 1)), .inr (.inr (10, 0)), .inr (.inl v)]) (σ' := s) 4 rfl ?_
  refine lw_ld (k := i + 4) rfl hs hl (by unfold zW; omega) (by omega) ?_
  refine zX_call rfl rfl ?_
  refine zM_mono h (fun b s2 h2 => ?_)
  obtain ⟨rfl, R2, P2, hs2⟩ := h2
  refine zX_lc rfl (fun e => absurd e (Int.lt_irrefl _)) (fun _ => ?_) (fun e => absurd e (Int.lt_irrefl _))
  exact zX_i0 rfl (fun _ => hQ s2 ⟨R2, P2, hs2⟩) (fun e => absurd rfl e)
set_option maxRecDepth 40000 in
theorem lc_28 {d i L : Nat} {x : Int} {f : Nat → Nat → Int} {σ : zS} {Q : Option zV → zS → Prop} (hl : (f 0 1000000).toNat = L) (hL : L ≤ 3584) (hx : x = (i : Int)) (hi : i + 6 < L) (hv : ∀ j, -2147483648 ≤ f 0 j ∧ f 0 j ≤ 2147483647) (H : lwS f σ) (hQ : ∀ s, lwS f s → zX (d + 61) 191 1275 [some (.inr (.inr (108, 0))), some (.inr (.inr (9, 0))), some (.inr (.inr (10, 0))), some (.inl x)] [] s Q) : zX (d + 61) 191 978 [some (.inr (.inr (108, 0))), some (.inr (.inr (9, 0))), some (.inr (.inr (10, 0))), some (.inl x)] [] σ Q := by
  obtain ⟨R, P, hs⟩ := H
  refine zX_run (n' := 979) (ls' := [some (.inr (.inr (108, 0))), some (.inr (.inr (9, 0))), some (.inr (.inr (10, 0))), some (.inl x)]) (st' := [.inr (.inr (9, 0))]) (σ' := σ) 1 rfl ?_
  refine zX_run (n' := 983) (ls' := [some (.inr (.inr (108, 0))), some (.inr (.inr (9, 0))), some (.inr (.inr (10, 0))), some (.inl x)]) (st' := [.inl (zW (x + 1)), .inr (.inr (108, 0)), .inr (.inr (9, 0))]) (σ' := σ) 4 rfl ?_
  refine lw_ld (k := i + 1) rfl hs hl (by unfold zW; omega) (by omega) ?_
  refine zX_run (n' := 988) (ls' := [some (.inr (.inr (108, 0))), some (.inr (.inr (9, 0))), some (.inr (.inr (10, 0))), some (.inl x)]) (st' := [.inl (zW (x + 2)), .inr (.inr (108, 0)), .inl (f 0 (i + 1)), .inr (.inr (9, 0))]) (σ' := σ) 4 rfl ?_
  refine lw_ld (k := i + 2) rfl hs hl (by unfold zW; omega) (by omega) ?_
  refine zX_call rfl rfl ?_
  refine zM_mono (yPl_b (by decide) (by decide) (yp_held (d := d) R (f 0 (i + 1)) (f 0 (i + 2))) P hs) (fun a s h => ?_)
  obtain ⟨⟨v, rfl, h⟩, hs⟩ := h
  refine zX_run (n' := 991) (ls' := [some (.inr (.inr (108, 0))), some (.inr (.inr (9, 0))), some (.inr (.inr (10, 0))), some (.inl x)]) (st' := [.inr (.inr (10, 0)), .inr (.inl v)]) (σ' := s) 1 rfl ?_
  refine zX_run (n' := 995) (ls' := [some (.inr (.inr (108, 0))), some (.inr (.inr (9, 0))), some (.inr (.inr (10, 0))), some (.inl x)]) (st' := [.inl (zW (x + 1)), .inr (.inr (108, 0)), .inr (.inr (10, 0)), .inr (.inl v)]) (σ' := s) 4 rfl ?_
  refine lw_ld (k := i + 1) rfl hs hl (by unfold zW; omega) (by omega) ?_
  refine zX_run (n' := 1000) (ls' := [some (.inr (.inr (108, 0))), some (.inr (.inr (9, 0))), some (.inr (.inr (10, 0))), some (.inl x)]) (st' := [.inl (zW (x + 2)), .inr (.inr (108, 0)), .inl (f 0 (i + 1)), .inr (.inr (10, 0)), .inr (.inl v)]) (σ' := s) 4 rfl ?_
  refine lw_ld (k := i + 2) rfl hs hl (by unfold zW; omega) (by omega) ?_
  refine zX_call rfl rfl ?_
  refine zM_mono h (fun b s2 h2 => ?_)
  obtain ⟨rfl, R2, P2, hs2⟩ := h2
  refine zX_lc rfl (fun e => absurd e (Int.lt_irrefl _)) (fun _ => ?_) (fun e => absurd e (Int.lt_irrefl _))
  exact zX_i0 rfl (fun _ => hQ s2 ⟨R2, P2, hs2⟩) (fun e => absurd rfl e)
set_option maxRecDepth 40000 in
theorem lc_29 {d i L : Nat} {x : Int} {f : Nat → Nat → Int} {σ : zS} {Q : Option zV → zS → Prop} (hl : (f 0 1000000).toNat = L) (hL : L ≤ 3584) (hx : x = (i : Int)) (hi : i + 6 < L) (hv : ∀ j, -2147483648 ≤ f 0 j ∧ f 0 j ≤ 2147483647) (H : lwS f σ) (hQ : ∀ s, lwS f s → zX (d + 61) 191 1275 [some (.inr (.inr (108, 0))), some (.inr (.inr (9, 0))), some (.inr (.inr (10, 0))), some (.inl x)] [] s Q) : zX (d + 61) 191 1006 [some (.inr (.inr (108, 0))), some (.inr (.inr (9, 0))), some (.inr (.inr (10, 0))), some (.inl x)] [] σ Q := by
  obtain ⟨R, P, hs⟩ := H
  refine zX_run (n' := 1007) (ls' := [some (.inr (.inr (108, 0))), some (.inr (.inr (9, 0))), some (.inr (.inr (10, 0))), some (.inl x)]) (st' := [.inr (.inr (9, 0))]) (σ' := σ) 1 rfl ?_
  refine zX_run (n' := 1011) (ls' := [some (.inr (.inr (108, 0))), some (.inr (.inr (9, 0))), some (.inr (.inr (10, 0))), some (.inl x)]) (st' := [.inl (zW (x + 1)), .inr (.inr (108, 0)), .inr (.inr (9, 0))]) (σ' := σ) 4 rfl ?_
  refine lw_ld (k := i + 1) rfl hs hl (by unfold zW; omega) (by omega) ?_
  refine zX_run (n' := 1016) (ls' := [some (.inr (.inr (108, 0))), some (.inr (.inr (9, 0))), some (.inr (.inr (10, 0))), some (.inl x)]) (st' := [.inl (zW (x + 2)), .inr (.inr (108, 0)), .inl (f 0 (i + 1)), .inr (.inr (9, 0))]) (σ' := σ) 4 rfl ?_
  refine lw_ld (k := i + 2) rfl hs hl (by unfold zW; omega) (by omega) ?_
  refine zX_call rfl rfl ?_
  refine zM_mono (yPi_b (by decide) (by decide) (yp_dry (d := d) R (f 0 (i + 1)) (f 0 (i + 2))) P hs) (fun a s h => ?_)
  obtain ⟨⟨v, rfl, h⟩, hs⟩ := h
  refine zX_run (n' := 1019) (ls' := [some (.inr (.inr (108, 0))), some (.inr (.inr (9, 0))), some (.inr (.inr (10, 0))), some (.inl x)]) (st' := [.inr (.inr (10, 0)), .inl v]) (σ' := s) 1 rfl ?_
  refine zX_run (n' := 1023) (ls' := [some (.inr (.inr (108, 0))), some (.inr (.inr (9, 0))), some (.inr (.inr (10, 0))), some (.inl x)]) (st' := [.inl (zW (x + 1)), .inr (.inr (108, 0)), .inr (.inr (10, 0)), .inl v]) (σ' := s) 4 rfl ?_
  refine lw_ld (k := i + 1) rfl hs hl (by unfold zW; omega) (by omega) ?_
  refine zX_run (n' := 1028) (ls' := [some (.inr (.inr (108, 0))), some (.inr (.inr (9, 0))), some (.inr (.inr (10, 0))), some (.inl x)]) (st' := [.inl (zW (x + 2)), .inr (.inr (108, 0)), .inl (f 0 (i + 1)), .inr (.inr (10, 0)), .inl v]) (σ' := s) 4 rfl ?_
  refine lw_ld (k := i + 2) rfl hs hl (by unfold zW; omega) (by omega) ?_
  refine zX_call rfl rfl ?_
  refine zM_mono h (fun b s2 h2 => ?_)
  obtain ⟨rfl, R2, P2, hs2⟩ := h2
  exact zX_c0 rfl (fun _ => hQ s2 ⟨R2, P2, hs2⟩) (fun e => absurd rfl e)
set_option maxRecDepth 40000 in
theorem lc_30 {d i L : Nat} {x : Int} {f : Nat → Nat → Int} {σ : zS} {Q : Option zV → zS → Prop} (hl : (f 0 1000000).toNat = L) (hL : L ≤ 3584) (hx : x = (i : Int)) (hi : i + 6 < L) (hv : ∀ j, -2147483648 ≤ f 0 j ∧ f 0 j ≤ 2147483647) (H : lwS f σ) (hQ : ∀ s, lwS f s → zX (d + 61) 191 1275 [some (.inr (.inr (108, 0))), some (.inr (.inr (9, 0))), some (.inr (.inr (10, 0))), some (.inl x)] [] s Q) : zX (d + 61) 191 1033 [some (.inr (.inr (108, 0))), some (.inr (.inr (9, 0))), some (.inr (.inr (10, 0))), some (.inl x)] [] σ Q := by
  obtain ⟨R, P, hs⟩ := H
  refine zX_run (n' := 1034) (ls' := [some (.inr (.inr (108, 0))), some (.inr (.inr (9, 0))), some (.inr (.inr (10, 0))), some (.inl x)]) (st' := [.inr (.inr (9, 0))]) (σ' := σ) 1 rfl ?_
  refine zX_run (n' := 1038) (ls' := [some (.inr (.inr (108, 0))), some (.inr (.inr (9, 0))), some (.inr (.inr (10, 0))), some (.inl x)]) (st' := [.inl (zW (x + 1)), .inr (.inr (108, 0)), .inr (.inr (9, 0))]) (σ' := σ) 4 rfl ?_
  refine lw_ld (k := i + 1) rfl hs hl (by unfold zW; omega) (by omega) ?_
  refine zX_call rfl rfl ?_
  refine zM_mono (yPi_b (by decide) (by decide) (yp_count (d := d) R (f 0 (i + 1)) (hv _)) P hs) (fun a s h => ?_)
  obtain ⟨⟨v, rfl, h⟩, hs⟩ := h
  refine zX_run (n' := 1041) (ls' := [some (.inr (.inr (108, 0))), some (.inr (.inr (9, 0))), some (.inr (.inr (10, 0))), some (.inl x)]) (st' := [.inr (.inr (10, 0)), .inl v]) (σ' := s) 1 rfl ?_
  refine zX_run (n' := 1045) (ls' := [some (.inr (.inr (108, 0))), some (.inr (.inr (9, 0))), some (.inr (.inr (10, 0))), some (.inl x)]) (st' := [.inl (zW (x + 1)), .inr (.inr (108, 0)), .inr (.inr (10, 0)), .inl v]) (σ' := s) 4 rfl ?_
  refine lw_ld (k := i + 1) rfl hs hl (by unfold zW; omega) (by omega) ?_
  refine zX_call rfl rfl ?_
  refine zM_mono h (fun b s2 h2 => ?_)
  obtain ⟨rfl, R2, P2, hs2⟩ := h2
  exact zX_c0 rfl (fun _ => hQ s2 ⟨R2, P2, hs2⟩) (fun e => absurd rfl e)
set_option maxRecDepth 40000 in
theorem lc_31 {d i L : Nat} {x : Int} {f : Nat → Nat → Int} {σ : zS} {Q : Option zV → zS → Prop} (hl : (f 0 1000000).toNat = L) (hL : L ≤ 3584) (hx : x = (i : Int)) (hi : i + 6 < L) (hv : ∀ j, -2147483648 ≤ f 0 j ∧ f 0 j ≤ 2147483647) (H : lwS f σ) (hQ : ∀ s, lwS f s → zX (d + 61) 191 1275 [some (.inr (.inr (108, 0))), some (.inr (.inr (9, 0))), some (.inr (.inr (10, 0))), some (.inl x)] [] s Q) : zX (d + 61) 191 1050 [some (.inr (.inr (108, 0))), some (.inr (.inr (9, 0))), some (.inr (.inr (10, 0))), some (.inl x)] [] σ Q := by
  obtain ⟨R, P, hs⟩ := H
  refine zX_run (n' := 1051) (ls' := [some (.inr (.inr (108, 0))), some (.inr (.inr (9, 0))), some (.inr (.inr (10, 0))), some (.inl x)]) (st' := [.inr (.inr (9, 0))]) (σ' := σ) 1 rfl ?_
  refine zX_run (n' := 1055) (ls' := [some (.inr (.inr (108, 0))), some (.inr (.inr (9, 0))), some (.inr (.inr (10, 0))), some (.inl x)]) (st' := [.inl (zW (x + 1)), .inr (.inr (108, 0)), .inr (.inr (9, 0))]) (σ' := σ) 4 rfl ?_
  refine lw_ld (k := i + 1) rfl hs hl (by unfold zW; omega) (by omega) ?_
  refine zX_run (n' := 1060) (ls' := [some (.inr (.inr (108, 0))), some (.inr (.inr (9, 0))), some (.inr (.inr (10, 0))), some (.inl x)]) (st' := [.inl (zW (x + 2)), .inr (.inr (108, 0)), .inl (f 0 (i + 1)), .inr (.inr (9, 0))]) (σ' := σ) 4 rfl ?_
  refine lw_ld (k := i + 2) rfl hs hl (by unfold zW; omega) (by omega) ?_
  refine zX_run (n' := 1065) (ls' := [some (.inr (.inr (108, 0))), some (.inr (.inr (9, 0))), some (.inr (.inr (10, 0))), some (.inl x)]) (st' := [.inl (zW (x + 3)), .inr (.inr (108, 0)), .inl (f 0 (i + 2)), .inl (f 0 (i + 1)), .inr (.inr (9, 0))]) (σ' := σ) 4 rfl ?_
  refine lw_ld (k := i + 3) rfl hs hl (by unfold zW; omega) (by omega) ?_
  refine zX_call rfl rfl ?_
  refine zM_mono (yPi_b (by decide) (by decide) (yp_sheet (d := d) R (f 0 (i + 1)) (f 0 (i + 2)) (f 0 (i + 3))) P hs) (fun a s h => ?_)
  obtain ⟨⟨v, rfl, h⟩, hs⟩ := h
  refine zX_run (n' := 1068) (ls' := [some (.inr (.inr (108, 0))), some (.inr (.inr (9, 0))), some (.inr (.inr (10, 0))), some (.inl x)]) (st' := [.inr (.inr (10, 0)), .inl v]) (σ' := s) 1 rfl ?_
  refine zX_run (n' := 1072) (ls' := [some (.inr (.inr (108, 0))), some (.inr (.inr (9, 0))), some (.inr (.inr (10, 0))), some (.inl x)]) (st' := [.inl (zW (x + 1)), .inr (.inr (108, 0)), .inr (.inr (10, 0)), .inl v]) (σ' := s) 4 rfl ?_
  refine lw_ld (k := i + 1) rfl hs hl (by unfold zW; omega) (by omega) ?_
  refine zX_run (n' := 1077) (ls' := [some (.inr (.inr (108, 0))), some (.inr (.inr (9, 0))), some (.inr (.inr (10, 0))), some (.inl x)]) (st' := [.inl (zW (x + 2)), .inr (.inr (108, 0)), .inl (f 0 (i + 1)), .inr (.inr (10, 0)), .inl v]) (σ' := s) 4 rfl ?_
  refine lw_ld (k := i + 2) rfl hs hl (by unfold zW; omega) (by omega) ?_
  refine zX_run (n' := 1082) (ls' := [some (.inr (.inr (108, 0))), some (.inr (.inr (9, 0))), some (.inr (.inr (10, 0))), some (.inl x)]) (st' := [.inl (zW (x + 3)), .inr (.inr (108, 0)), .inl (f 0 (i + 2)), .inl (f 0 (i + 1)), .inr (.inr (10, 0)), .inl v]) (σ' := s) 4 rfl ?_
  refine lw_ld (k := i + 3) rfl hs hl (by unfold zW; omega) (by omega) ?_
  refine zX_call rfl rfl ?_
  refine zM_mono h (fun b s2 h2 => ?_)
  obtain ⟨rfl, R2, P2, hs2⟩ := h2
  exact zX_c0 rfl (fun _ => hQ s2 ⟨R2, P2, hs2⟩) (fun e => absurd rfl e)
set_option maxRecDepth 40000 in
theorem lc_32 {d i L : Nat} {x : Int} {f : Nat → Nat → Int} {σ : zS} {Q : Option zV → zS → Prop} (hl : (f 0 1000000).toNat = L) (hL : L ≤ 3584) (hx : x = (i : Int)) (hi : i + 6 < L) (hv : ∀ j, -2147483648 ≤ f 0 j ∧ f 0 j ≤ 2147483647) (H : lwS f σ) (hQ : ∀ s, lwS f s → zX (d + 61) 191 1275 [some (.inr (.inr (108, 0))), some (.inr (.inr (9, 0))), some (.inr (.inr (10, 0))), some (.inl x)] [] s Q) : zX (d + 61) 191 1087 [some (.inr (.inr (108, 0))), some (.inr (.inr (9, 0))), some (.inr (.inr (10, 0))), some (.inl x)] [] σ Q := by
  obtain ⟨R, P, hs⟩ := H
  refine zX_run (n' := 1088) (ls' := [some (.inr (.inr (108, 0))), some (.inr (.inr (9, 0))), some (.inr (.inr (10, 0))), some (.inl x)]) (st' := [.inr (.inr (9, 0))]) (σ' := σ) 1 rfl ?_
  refine zX_run (n' := 1092) (ls' := [some (.inr (.inr (108, 0))), some (.inr (.inr (9, 0))), some (.inr (.inr (10, 0))), some (.inl x)]) (st' := [.inl (zW (x + 1)), .inr (.inr (108, 0)), .inr (.inr (9, 0))]) (σ' := σ) 4 rfl ?_
  refine lw_ld (k := i + 1) rfl hs hl (by unfold zW; omega) (by omega) ?_
  refine zX_run (n' := 1097) (ls' := [some (.inr (.inr (108, 0))), some (.inr (.inr (9, 0))), some (.inr (.inr (10, 0))), some (.inl x)]) (st' := [.inl (zW (x + 2)), .inr (.inr (108, 0)), .inl (f 0 (i + 1)), .inr (.inr (9, 0))]) (σ' := σ) 4 rfl ?_
  refine lw_ld (k := i + 2) rfl hs hl (by unfold zW; omega) (by omega) ?_
  refine zX_run (n' := 1102) (ls' := [some (.inr (.inr (108, 0))), some (.inr (.inr (9, 0))), some (.inr (.inr (10, 0))), some (.inl x)]) (st' := [.inl (zW (x + 3)), .inr (.inr (108, 0)), .inl (f 0 (i + 2)), .inl (f 0 (i + 1)), .inr (.inr (9, 0))]) (σ' := σ) 4 rfl ?_
  refine lw_ld (k := i + 3) rfl hs hl (by unfold zW; omega) (by omega) ?_
  refine zX_call rfl rfl ?_
  refine zM_mono (yPi_b (by decide) (by decide) (yp_cell (d := d) R (f 0 (i + 1)) (f 0 (i + 2)) (f 0 (i + 3))) P hs) (fun a s h => ?_)
  obtain ⟨⟨v, rfl, h⟩, hs⟩ := h
  refine zX_run (n' := 1105) (ls' := [some (.inr (.inr (108, 0))), some (.inr (.inr (9, 0))), some (.inr (.inr (10, 0))), some (.inl x)]) (st' := [.inr (.inr (10, 0)), .inl v]) (σ' := s) 1 rfl ?_
  refine zX_run (n' := 1109) (ls' := [some (.inr (.inr (108, 0))), some (.inr (.inr (9, 0))), some (.inr (.inr (10, 0))), some (.inl x)]) (st' := [.inl (zW (x + 1)), .inr (.inr (108, 0)), .inr (.inr (10, 0)), .inl v]) (σ' := s) 4 rfl ?_
  refine lw_ld (k := i + 1) rfl hs hl (by unfold zW; omega) (by omega) ?_
  refine zX_run (n' := 1114) (ls' := [some (.inr (.inr (108, 0))), some (.inr (.inr (9, 0))), some (.inr (.inr (10, 0))), some (.inl x)]) (st' := [.inl (zW (x + 2)), .inr (.inr (108, 0)), .inl (f 0 (i + 1)), .inr (.inr (10, 0)), .inl v]) (σ' := s) 4 rfl ?_
  refine lw_ld (k := i + 2) rfl hs hl (by unfold zW; omega) (by omega) ?_
  refine zX_run (n' := 1119) (ls' := [some (.inr (.inr (108, 0))), some (.inr (.inr (9, 0))), some (.inr (.inr (10, 0))), some (.inl x)]) (st' := [.inl (zW (x + 3)), .inr (.inr (108, 0)), .inl (f 0 (i + 2)), .inl (f 0 (i + 1)), .inr (.inr (10, 0)), .inl v]) (σ' := s) 4 rfl ?_
  refine lw_ld (k := i + 3) rfl hs hl (by unfold zW; omega) (by omega) ?_
  refine zX_call rfl rfl ?_
  refine zM_mono h (fun b s2 h2 => ?_)
  obtain ⟨rfl, R2, P2, hs2⟩ := h2
  exact zX_c0 rfl (fun _ => hQ s2 ⟨R2, P2, hs2⟩) (fun e => absurd rfl e)
set_option maxRecDepth 40000 in
theorem lc_33 {d i L : Nat} {x : Int} {f : Nat → Nat → Int} {σ : zS} {Q : Option zV → zS → Prop} (hl : (f 0 1000000).toNat = L) (hL : L ≤ 3584) (hx : x = (i : Int)) (hi : i + 6 < L) (hv : ∀ j, -2147483648 ≤ f 0 j ∧ f 0 j ≤ 2147483647) (H : lwS f σ) (hQ : ∀ s, lwS f s → zX (d + 61) 191 1275 [some (.inr (.inr (108, 0))), some (.inr (.inr (9, 0))), some (.inr (.inr (10, 0))), some (.inl x)] [] s Q) : zX (d + 61) 191 1124 [some (.inr (.inr (108, 0))), some (.inr (.inr (9, 0))), some (.inr (.inr (10, 0))), some (.inl x)] [] σ Q := by
  obtain ⟨R, P, hs⟩ := H
  refine zX_run (n' := 1125) (ls' := [some (.inr (.inr (108, 0))), some (.inr (.inr (9, 0))), some (.inr (.inr (10, 0))), some (.inl x)]) (st' := [.inr (.inr (9, 0))]) (σ' := σ) 1 rfl ?_
  refine zX_run (n' := 1129) (ls' := [some (.inr (.inr (108, 0))), some (.inr (.inr (9, 0))), some (.inr (.inr (10, 0))), some (.inl x)]) (st' := [.inl (zW (x + 1)), .inr (.inr (108, 0)), .inr (.inr (9, 0))]) (σ' := σ) 4 rfl ?_
  refine lw_ld (k := i + 1) rfl hs hl (by unfold zW; omega) (by omega) ?_
  refine zX_run (n' := 1134) (ls' := [some (.inr (.inr (108, 0))), some (.inr (.inr (9, 0))), some (.inr (.inr (10, 0))), some (.inl x)]) (st' := [.inl (zW (x + 2)), .inr (.inr (108, 0)), .inl (f 0 (i + 1)), .inr (.inr (9, 0))]) (σ' := σ) 4 rfl ?_
  refine lw_ld (k := i + 2) rfl hs hl (by unfold zW; omega) (by omega) ?_
  refine zX_run (n' := 1139) (ls' := [some (.inr (.inr (108, 0))), some (.inr (.inr (9, 0))), some (.inr (.inr (10, 0))), some (.inl x)]) (st' := [.inl (zW (x + 3)), .inr (.inr (108, 0)), .inl (f 0 (i + 2)), .inl (f 0 (i + 1)), .inr (.inr (9, 0))]) (σ' := σ) 4 rfl ?_
  refine lw_ld (k := i + 3) rfl hs hl (by unfold zW; omega) (by omega) ?_
  refine zX_run (n' := 1144) (ls' := [some (.inr (.inr (108, 0))), some (.inr (.inr (9, 0))), some (.inr (.inr (10, 0))), some (.inl x)]) (st' := [.inl (zW (x + 4)), .inr (.inr (108, 0)), .inl (f 0 (i + 3)), .inl (f 0 (i + 2)), .inl (f 0 (i + 1)), .inr (.inr (9, 0))]) (σ' := σ) 4 rfl ?_
  refine lw_ld (k := i + 4) rfl hs hl (by unfold zW; omega) (by omega) ?_
  refine zX_run (n' := 1149) (ls' := [some (.inr (.inr (108, 0))), some (.inr (.inr (9, 0))), some (.inr (.inr (10, 0))), some (.inl x)]) (st' := [.inl (zW (x + 5)), .inr (.inr (108, 0)), .inl (f 0 (i + 4)), .inl (f 0 (i + 3)), .inl (f 0 (i + 2)), .inl (f 0 (i + 1)), .inr (.inr (9, 0))]) (σ' := σ) 4 rfl ?_
  refine lw_ld (k := i + 5) rfl hs hl (by unfold zW; omega) (by omega) ?_
  refine zX_call rfl rfl ?_
  refine zM_mono (yPi_b (by decide) (by decide) (yp_copy (d := d) R (f 0 (i + 1)) (f 0 (i + 2)) (f 0 (i + 3)) (f 0 (i + 4)) (f 0 (i + 5)) (hv _) (hv _) (hv _)) P hs) (fun a s h => ?_)
  obtain ⟨⟨v, rfl, h⟩, hs⟩ := h
  refine zX_run (n' := 1152) (ls' := [some (.inr (.inr (108, 0))), some (.inr (.inr (9, 0))), some (.inr (.inr (10, 0))), some (.inl x)]) (st' := [.inr (.inr (10, 0)), .inl v]) (σ' := s) 1 rfl ?_
  refine zX_run (n' := 1156) (ls' := [some (.inr (.inr (108, 0))), some (.inr (.inr (9, 0))), some (.inr (.inr (10, 0))), some (.inl x)]) (st' := [.inl (zW (x + 1)), .inr (.inr (108, 0)), .inr (.inr (10, 0)), .inl v]) (σ' := s) 4 rfl ?_
  refine lw_ld (k := i + 1) rfl hs hl (by unfold zW; omega) (by omega) ?_
  refine zX_run (n' := 1161) (ls' := [some (.inr (.inr (108, 0))), some (.inr (.inr (9, 0))), some (.inr (.inr (10, 0))), some (.inl x)]) (st' := [.inl (zW (x + 2)), .inr (.inr (108, 0)), .inl (f 0 (i + 1)), .inr (.inr (10, 0)), .inl v]) (σ' := s) 4 rfl ?_
  refine lw_ld (k := i + 2) rfl hs hl (by unfold zW; omega) (by omega) ?_
  refine zX_run (n' := 1166) (ls' := [some (.inr (.inr (108, 0))), some (.inr (.inr (9, 0))), some (.inr (.inr (10, 0))), some (.inl x)]) (st' := [.inl (zW (x + 3)), .inr (.inr (108, 0)), .inl (f 0 (i + 2)), .inl (f 0 (i + 1)), .inr (.inr (10, 0)), .inl v]) (σ' := s) 4 rfl ?_
  refine lw_ld (k := i + 3) rfl hs hl (by unfold zW; omega) (by omega) ?_
  refine zX_run (n' := 1171) (ls' := [some (.inr (.inr (108, 0))), some (.inr (.inr (9, 0))), some (.inr (.inr (10, 0))), some (.inl x)]) (st' := [.inl (zW (x + 4)), .inr (.inr (108, 0)), .inl (f 0 (i + 3)), .inl (f 0 (i + 2)), .inl (f 0 (i + 1)), .inr (.inr (10, 0)), .inl v]) (σ' := s) 4 rfl ?_
  refine lw_ld (k := i + 4) rfl hs hl (by unfold zW; omega) (by omega) ?_
  refine zX_run (n' := 1176) (ls' := [some (.inr (.inr (108, 0))), some (.inr (.inr (9, 0))), some (.inr (.inr (10, 0))), some (.inl x)]) (st' := [.inl (zW (x + 5)), .inr (.inr (108, 0)), .inl (f 0 (i + 4)), .inl (f 0 (i + 3)), .inl (f 0 (i + 2)), .inl (f 0 (i + 1)), .inr (.inr (10, 0)), .inl v]) (σ' := s) 4 rfl ?_
  refine lw_ld (k := i + 5) rfl hs hl (by unfold zW; omega) (by omega) ?_
  refine zX_call rfl rfl ?_
  refine zM_mono h (fun b s2 h2 => ?_)
  obtain ⟨rfl, R2, P2, hs2⟩ := h2
  exact zX_c0 rfl (fun _ => hQ s2 ⟨R2, P2, hs2⟩) (fun e => absurd rfl e)
set_option maxRecDepth 40000 in
theorem lc_34 {d i L : Nat} {x : Int} {f : Nat → Nat → Int} {σ : zS} {Q : Option zV → zS → Prop} (hl : (f 0 1000000).toNat = L) (hL : L ≤ 3584) (hx : x = (i : Int)) (hi : i + 6 < L) (hv : ∀ j, -2147483648 ≤ f 0 j ∧ f 0 j ≤ 2147483647) (H : lwS f σ) (hQ : ∀ s, lwS f s → zX (d + 61) 191 1275 [some (.inr (.inr (108, 0))), some (.inr (.inr (9, 0))), some (.inr (.inr (10, 0))), some (.inl x)] [] s Q) : zX (d + 61) 191 1181 [some (.inr (.inr (108, 0))), some (.inr (.inr (9, 0))), some (.inr (.inr (10, 0))), some (.inl x)] [] σ Q := by
  obtain ⟨R, P, hs⟩ := H
  refine zX_run (n' := 1182) (ls' := [some (.inr (.inr (108, 0))), some (.inr (.inr (9, 0))), some (.inr (.inr (10, 0))), some (.inl x)]) (st' := [.inr (.inr (9, 0))]) (σ' := σ) 1 rfl ?_
  refine zX_run (n' := 1186) (ls' := [some (.inr (.inr (108, 0))), some (.inr (.inr (9, 0))), some (.inr (.inr (10, 0))), some (.inl x)]) (st' := [.inl (zW (x + 1)), .inr (.inr (108, 0)), .inr (.inr (9, 0))]) (σ' := σ) 4 rfl ?_
  refine lw_ld (k := i + 1) rfl hs hl (by unfold zW; omega) (by omega) ?_
  refine zX_run (n' := 1191) (ls' := [some (.inr (.inr (108, 0))), some (.inr (.inr (9, 0))), some (.inr (.inr (10, 0))), some (.inl x)]) (st' := [.inl (zW (x + 2)), .inr (.inr (108, 0)), .inl (f 0 (i + 1)), .inr (.inr (9, 0))]) (σ' := σ) 4 rfl ?_
  refine lw_ld (k := i + 2) rfl hs hl (by unfold zW; omega) (by omega) ?_
  refine zX_run (n' := 1196) (ls' := [some (.inr (.inr (108, 0))), some (.inr (.inr (9, 0))), some (.inr (.inr (10, 0))), some (.inl x)]) (st' := [.inl (zW (x + 3)), .inr (.inr (108, 0)), .inl (f 0 (i + 2)), .inl (f 0 (i + 1)), .inr (.inr (9, 0))]) (σ' := σ) 4 rfl ?_
  refine lw_ld (k := i + 3) rfl hs hl (by unfold zW; omega) (by omega) ?_
  refine zX_run (n' := 1201) (ls' := [some (.inr (.inr (108, 0))), some (.inr (.inr (9, 0))), some (.inr (.inr (10, 0))), some (.inl x)]) (st' := [.inl (zW (x + 4)), .inr (.inr (108, 0)), .inl (f 0 (i + 3)), .inl (f 0 (i + 2)), .inl (f 0 (i + 1)), .inr (.inr (9, 0))]) (σ' := σ) 4 rfl ?_
  refine lw_ld (k := i + 4) rfl hs hl (by unfold zW; omega) (by omega) ?_
  refine zX_run (n' := 1206) (ls' := [some (.inr (.inr (108, 0))), some (.inr (.inr (9, 0))), some (.inr (.inr (10, 0))), some (.inl x)]) (st' := [.inl (zW (x + 5)), .inr (.inr (108, 0)), .inl (f 0 (i + 4)), .inl (f 0 (i + 3)), .inl (f 0 (i + 2)), .inl (f 0 (i + 1)), .inr (.inr (9, 0))]) (σ' := σ) 4 rfl ?_
  refine lw_ld (k := i + 5) rfl hs hl (by unfold zW; omega) (by omega) ?_
  refine zX_run (n' := 1211) (ls' := [some (.inr (.inr (108, 0))), some (.inr (.inr (9, 0))), some (.inr (.inr (10, 0))), some (.inl x)]) (st' := [.inl (zW (x + 6)), .inr (.inr (108, 0)), .inl (f 0 (i + 5)), .inl (f 0 (i + 4)), .inl (f 0 (i + 3)), .inl (f 0 (i + 2)), .inl (f 0 (i + 1)), .inr (.inr (9, 0))]) (σ' := σ) 4 rfl ?_
  refine lw_ld (k := i + 6) rfl hs hl (by unfold zW; omega) (by omega) ?_
  refine zX_call rfl rfl ?_
  refine zM_mono (yPi_b (by decide) (by decide) (yp_gauges (d := d) R (f 0 (i + 1)) (f 0 (i + 2)) (f 0 (i + 3)) (f 0 (i + 4)) (f 0 (i + 5)) (f 0 (i + 6)) (hv _)) P hs) (fun a s h => ?_)
  obtain ⟨⟨v, rfl, h⟩, hs⟩ := h
  refine zX_run (n' := 1214) (ls' := [some (.inr (.inr (108, 0))), some (.inr (.inr (9, 0))), some (.inr (.inr (10, 0))), some (.inl x)]) (st' := [.inr (.inr (10, 0)), .inl v]) (σ' := s) 1 rfl ?_
  refine zX_run (n' := 1218) (ls' := [some (.inr (.inr (108, 0))), some (.inr (.inr (9, 0))), some (.inr (.inr (10, 0))), some (.inl x)]) (st' := [.inl (zW (x + 1)), .inr (.inr (108, 0)), .inr (.inr (10, 0)), .inl v]) (σ' := s) 4 rfl ?_
  refine lw_ld (k := i + 1) rfl hs hl (by unfold zW; omega) (by omega) ?_
  refine zX_run (n' := 1223) (ls' := [some (.inr (.inr (108, 0))), some (.inr (.inr (9, 0))), some (.inr (.inr (10, 0))), some (.inl x)]) (st' := [.inl (zW (x + 2)), .inr (.inr (108, 0)), .inl (f 0 (i + 1)), .inr (.inr (10, 0)), .inl v]) (σ' := s) 4 rfl ?_
  refine lw_ld (k := i + 2) rfl hs hl (by unfold zW; omega) (by omega) ?_
  refine zX_run (n' := 1228) (ls' := [some (.inr (.inr (108, 0))), some (.inr (.inr (9, 0))), some (.inr (.inr (10, 0))), some (.inl x)]) (st' := [.inl (zW (x + 3)), .inr (.inr (108, 0)), .inl (f 0 (i + 2)), .inl (f 0 (i + 1)), .inr (.inr (10, 0)), .inl v]) (σ' := s) 4 rfl ?_
  refine lw_ld (k := i + 3) rfl hs hl (by unfold zW; omega) (by omega) ?_
  refine zX_run (n' := 1233) (ls' := [some (.inr (.inr (108, 0))), some (.inr (.inr (9, 0))), some (.inr (.inr (10, 0))), some (.inl x)]) (st' := [.inl (zW (x + 4)), .inr (.inr (108, 0)), .inl (f 0 (i + 3)), .inl (f 0 (i + 2)), .inl (f 0 (i + 1)), .inr (.inr (10, 0)), .inl v]) (σ' := s) 4 rfl ?_
  refine lw_ld (k := i + 4) rfl hs hl (by unfold zW; omega) (by omega) ?_
  refine zX_run (n' := 1238) (ls' := [some (.inr (.inr (108, 0))), some (.inr (.inr (9, 0))), some (.inr (.inr (10, 0))), some (.inl x)]) (st' := [.inl (zW (x + 5)), .inr (.inr (108, 0)), .inl (f 0 (i + 4)), .inl (f 0 (i + 3)), .inl (f 0 (i + 2)), .inl (f 0 (i + 1)), .inr (.inr (10, 0)), .inl v]) (σ' := s) 4 rfl ?_
  refine lw_ld (k := i + 5) rfl hs hl (by unfold zW; omega) (by omega) ?_
  refine zX_run (n' := 1243) (ls' := [some (.inr (.inr (108, 0))), some (.inr (.inr (9, 0))), some (.inr (.inr (10, 0))), some (.inl x)]) (st' := [.inl (zW (x + 6)), .inr (.inr (108, 0)), .inl (f 0 (i + 5)), .inl (f 0 (i + 4)), .inl (f 0 (i + 3)), .inl (f 0 (i + 2)), .inl (f 0 (i + 1)), .inr (.inr (10, 0)), .inl v]) (σ' := s) 4 rfl ?_
  refine lw_ld (k := i + 6) rfl hs hl (by unfold zW; omega) (by omega) ?_
  refine zX_call rfl rfl ?_
  refine zM_mono h (fun b s2 h2 => ?_)
  obtain ⟨rfl, R2, P2, hs2⟩ := h2
  exact zX_c0 rfl (fun _ => hQ s2 ⟨R2, P2, hs2⟩) (fun e => absurd rfl e)
set_option maxRecDepth 40000 in
theorem lc_35 {d i L : Nat} {x : Int} {f : Nat → Nat → Int} {σ : zS} {Q : Option zV → zS → Prop} (hl : (f 0 1000000).toNat = L) (hL : L ≤ 3584) (hx : x = (i : Int)) (hi : i + 6 < L) (hv : ∀ j, -2147483648 ≤ f 0 j ∧ f 0 j ≤ 2147483647) (H : lwS f σ) (hQ : ∀ s, lwS f s → zX (d + 61) 191 1275 [some (.inr (.inr (108, 0))), some (.inr (.inr (9, 0))), some (.inr (.inr (10, 0))), some (.inl x)] [] s Q) : zX (d + 61) 191 1248 [some (.inr (.inr (108, 0))), some (.inr (.inr (9, 0))), some (.inr (.inr (10, 0))), some (.inl x)] [] σ Q := by
  obtain ⟨R, P, hs⟩ := H
  refine zX_run (n' := 1249) (ls' := [some (.inr (.inr (108, 0))), some (.inr (.inr (9, 0))), some (.inr (.inr (10, 0))), some (.inl x)]) (st' := [.inr (.inr (9, 0))]) (σ' := σ) 1 rfl ?_
  refine zX_run (n' := 1253) (ls' := [some (.inr (.inr (108, 0))), some (.inr (.inr (9, 0))), some (.inr (.inr (10, 0))), some (.inl x)]) (st' := [.inl (zW (x + 1)), .inr (.inr (108, 0)), .inr (.inr (9, 0))]) (σ' := σ) 4 rfl ?_
  refine lw_ld (k := i + 1) rfl hs hl (by unfold zW; omega) (by omega) ?_
  refine zX_run (n' := 1258) (ls' := [some (.inr (.inr (108, 0))), some (.inr (.inr (9, 0))), some (.inr (.inr (10, 0))), some (.inl x)]) (st' := [.inl (zW (x + 2)), .inr (.inr (108, 0)), .inl (f 0 (i + 1)), .inr (.inr (9, 0))]) (σ' := σ) 4 rfl ?_
  refine lw_ld (k := i + 2) rfl hs hl (by unfold zW; omega) (by omega) ?_
  refine zX_call rfl rfl ?_
  refine zM_mono (yPi_b (by decide) (by decide) (yp_taken (d := d) R (f 0 (i + 1)) (f 0 (i + 2))) P hs) (fun a s h => ?_)
  obtain ⟨⟨v, rfl, h⟩, hs⟩ := h
  refine zX_run (n' := 1261) (ls' := [some (.inr (.inr (108, 0))), some (.inr (.inr (9, 0))), some (.inr (.inr (10, 0))), some (.inl x)]) (st' := [.inr (.inr (10, 0)), .inl v]) (σ' := s) 1 rfl ?_
  refine zX_run (n' := 1265) (ls' := [some (.inr (.inr (108, 0))), some (.inr (.inr (9, 0))), some (.inr (.inr (10, 0))), some (.inl x)]) (st' := [.inl (zW (x + 1)), .inr (.inr (108, 0)), .inr (.inr (10, 0)), .inl v]) (σ' := s) 4 rfl ?_
  refine lw_ld (k := i + 1) rfl hs hl (by unfold zW; omega) (by omega) ?_
  refine zX_run (n' := 1270) (ls' := [some (.inr (.inr (108, 0))), some (.inr (.inr (9, 0))), some (.inr (.inr (10, 0))), some (.inl x)]) (st' := [.inl (zW (x + 2)), .inr (.inr (108, 0)), .inl (f 0 (i + 1)), .inr (.inr (10, 0)), .inl v]) (σ' := s) 4 rfl ?_
  refine lw_ld (k := i + 2) rfl hs hl (by unfold zW; omega) (by omega) ?_
  refine zX_call rfl rfl ?_
  refine zM_mono h (fun b s2 h2 => ?_)
  obtain ⟨rfl, R2, P2, hs2⟩ := h2
  exact zX_c0 rfl (fun _ => hQ s2 ⟨R2, P2, hs2⟩) (fun e => absurd rfl e)
set_option maxRecDepth 40000 in
theorem lw_loop {d L : Nat} {f : Nat → Nat → Int} {Q : Option zV → zS → Prop} (hl : (f 0 1000000).toNat = L) (hL : L ≤ 3584) (hv : ∀ j, -2147483648 ≤ f 0 j ∧ f 0 j ≤ 2147483647) (hQ : ∀ s, lwS f s → Q (some (.inl 1)) s) : ∀ (k i : Nat) (x : Int) (σ : zS), x = (i : Int) → L ≤ i + k → i ≤ L + 7 → lwS f σ → zX (d + 61) 191 10 [some (.inr (.inr (108, 0))), some (.inr (.inr (9, 0))), some (.inr (.inr (10, 0))), some (.inl x)] [] σ Q := by
  intro k
  have ex : ∀ (i : Nat) (x : Int) (σ : zS), x = (i : Int) → i ≤ L + 7 → lwS f σ → (¬ i + 7 ≤ L ∨ (i + 6 < L ∧ zX (d + 61) 191 16 [some (.inr (.inr (108, 0))), some (.inr (.inr (9, 0))), some (.inr (.inr (10, 0))), some (.inl x)] [] σ Q)) → zX (d + 61) 191 10 [some (.inr (.inr (108, 0))), some (.inr (.inr (9, 0))), some (.inr (.inr (10, 0))), some (.inl x)] [] σ Q := by
    intro i x σ hx i7 H h
    have hs := H.2.2
    refine zX_run (n' := 12) (ls' := [some (.inr (.inr (108, 0))), some (.inr (.inr (9, 0))), some (.inr (.inr (10, 0))), some (.inl x)]) (st' := [.inr (.inr (108, 0)), .inl x]) (σ' := σ) 2 rfl ?_
    have e : zLen σ 108 0 = L := by show (σ.1 108 0 1000000).toNat = L; rw [hs]; exact hl
    have e2 : zW (L : Int) = (L : Int) := zW_id (by omega)
    have z : zW ((L : Int) - 7) = (L : Int) - 7 := zW_id (by omega)
    generalize hLi : (L : Int) = Li at e2 z
    refine zX_len (L := L) (v := Li) rfl (by decide) e (by rw [hLi]; exact e2) ?_
    refine zX_run (n' := 15) (ls' := [some (.inr (.inr (108, 0))), some (.inr (.inr (9, 0))), some (.inr (.inr (10, 0))), some (.inl x)]) (st' := [.inl (zW (Li - 7)), .inl x]) (σ' := σ) 2 rfl ?_
    rw [z]
    refine zX_c4 rfl (fun a => ?_) (fun a => ?_)
    · refine zX_run (n' := 1278) (ls' := [some (.inr (.inr (108, 0))), some (.inr (.inr (9, 0))), some (.inr (.inr (10, 0))), some (.inl x)]) (st' := [.inl 1]) (σ' := σ) 1 rfl ?_
      exact zX_ret rfl rfl (hQ σ H)
    · rcases h with h | h
      · exact absurd a (by omega)
      · exact h.2
  induction k with
  | zero => exact fun i x σ hx h i7 H => ex i x σ hx i7 H (.inl (by omega))
  | succ k ih =>
    intro i x σ hx h i7 H
    refine ex i x σ hx i7 H ?_
    by_cases c : i + 7 ≤ L
    · refine .inr ⟨by omega, ?_⟩
      have hs := H.2.2
      have nx : ∀ s, lwS f s → zX (d + 61) 191 1275 [some (.inr (.inr (108, 0))), some (.inr (.inr (9, 0))), some (.inr (.inr (10, 0))), some (.inl x)] [] s Q := fun s Hs => by
        refine zX_run (n' := 10) (ls' := [some (.inr (.inr (108, 0))), some (.inr (.inr (9, 0))), some (.inr (.inr (10, 0))), some (.inl (zW (x + 7)))]) (st' := []) (σ' := s) 2 rfl ?_
        exact ih (i + 7) _ s (by unfold zW; omega) (by omega) (by omega) Hs
      refine zX_run (n' := 18) (ls' := [some (.inr (.inr (108, 0))), some (.inr (.inr (9, 0))), some (.inr (.inr (10, 0))), some (.inl x)]) (st' := [.inl x, .inr (.inr (108, 0))]) (σ' := σ) 2 rfl ?_
      refine lw_ld (k := i) rfl hs hl hx (by omega) ?_
      generalize f 0 i = y
      refine zX_run (n' := 21) (ls' := [some (.inr (.inr (108, 0))), some (.inr (.inr (9, 0))), some (.inr (.inr (10, 0))), some (.inl x)]) (st' := [.inl (zBin 3 y 63)]) (σ' := σ) 2 rfl ?_
      generalize zBin 3 y 63 = v
      refine zX_sw rfl (fun _ => nx σ H) ⟨fun _ => lc_0 hl hL hx (by omega) hv H nx, fun _ => lc_1 hl hL hx (by omega) hv H nx, fun _ => lc_2 hl hL hx (by omega) hv H nx, fun _ => lc_3 hl hL hx (by omega) hv H nx, fun _ => lc_4 hl hL hx (by omega) hv H nx, fun _ => lc_5 hl hL hx (by omega) hv H nx, fun _ => lc_6 hl hL hx (by omega) hv H nx, fun _ => lc_7 hl hL hx (by omega) hv H nx, fun _ => lc_8 hl hL hx (by omega) hv H nx, fun _ => lc_9 hl hL hx (by omega) hv H nx, fun _ => lc_10 hl hL hx (by omega) hv H nx, fun _ => lc_11 hl hL hx (by omega) hv H nx, fun _ => lc_12 hl hL hx (by omega) hv H nx, fun _ => lc_13 hl hL hx (by omega) hv H nx, fun _ => lc_14 hl hL hx (by omega) hv H nx, fun _ => lc_15 hl hL hx (by omega) hv H nx, fun _ => lc_16 hl hL hx (by omega) hv H nx, fun _ => lc_17 hl hL hx (by omega) hv H nx, fun _ => lc_18 hl hL hx (by omega) hv H nx, fun _ => lc_19 hl hL hx (by omega) hv H nx, fun _ => lc_20 hl hL hx (by omega) hv H nx, fun _ => lc_21 hl hL hx (by omega) hv H nx, fun _ => lc_22 hl hL hx (by omega) hv H nx, fun _ => lc_23 hl hL hx (by omega) hv H nx, fun _ => lc_24 hl hL hx (by omega) hv H nx, fun _ => lc_25 hl hL hx (by omega) hv H nx, fun _ => lc_26 hl hL hx (by omega) hv H nx, fun _ => lc_27 hl hL hx (by omega) hv H nx, fun _ => lc_28 hl hL hx (by omega) hv H nx, fun _ => lc_29 hl hL hx (by omega) hv H nx, fun _ => lc_30 hl hL hx (by omega) hv H nx, fun _ => lc_31 hl hL hx (by omega) hv H nx, fun _ => lc_32 hl hL hx (by omega) hv H nx, fun _ => lc_33 hl hL hx (by omega) hv H nx, fun _ => lc_34 hl hL hx (by omega) hv H nx, fun _ => lc_35 hl hL hx (by omega) hv H nx, trivial⟩
    · exact .inl c
