-- the trial flow; helps (wip/whole/gen/laws51.py)
/-- the other flow stands when one works -/
theorem cFl_oth {s : zS} {G : Nat → Nat → Nat → Int} {D : uT} {k rd : Nat} (N : uN D ≤ 16) (O : cOth s G 1) (F : cFl s 0 D k rd) : cFl (zG s G) 0 D k rd := by
  obtain ⟨⟨w1, w2, w3, w4, w5, w6⟩, ⟨h1, h2, h3, h4, h5⟩, od, ⟨a1, a2, a3, a4⟩, rm, l0, mn⟩ := F
  obtain ⟨o1, o2, o3⟩ := O
  have e0 : ∀ j, (zG s G).1 0 0 j = s.1 0 0 j := fun j => (o1 0 j (by decide)).1
  have e13 : ∀ j, (zG s G).1 13 0 j = s.1 13 0 j := fun j => (o1 0 j (by decide)).2.1
  have e14 : ∀ j, (zG s G).1 14 0 j = s.1 14 0 j := fun j => (o1 0 j (by decide)).2.2.1
  have e15 : ∀ j, (zG s G).1 15 0 j = s.1 15 0 j := fun j => (o1 0 j (by decide)).2.2.2
  have n16 : ∀ h, h < 16 → ¬ (16 * 1 ≤ 16 * 0 + h ∧ 16 * 0 + h < 16 * 1 + 16) := fun h hh => by omega
  have n7 : ∀ r, r < 7 → ¬ (7 * 1 ≤ 7 * 0 + r ∧ 7 * 0 + r < 7 * 1 + 7) := fun r hr => by omega
  have e16 : ∀ h j, h < 16 → (zG s G).1 16 (16 * 0 + h) j = s.1 16 (16 * 0 + h) j := fun h j hh => o2 16 (by decide) (by decide) _ j (n16 h hh)
  have e17 : ∀ h j, h < 16 → (zG s G).1 17 (16 * 0 + h) j = s.1 17 (16 * 0 + h) j := fun h j hh => o2 17 (by decide) (by decide) _ j (n16 h hh)
  have e18 : ∀ h j, h < 16 → (zG s G).1 18 (16 * 0 + h) j = s.1 18 (16 * 0 + h) j := fun h j hh => o2 18 (by decide) (by decide) _ j (n16 h hh)
  have eK : ∀ k r j, 19 ≤ k → k ≤ 27 → r < 7 → G k (7 * 0 + r) j = s.1 k (7 * 0 + r) j := fun k r j h1 h2 hr => o3 k h1 h2 _ j (n7 r hr)
  have tx : ∀ h, cTx (zG s G) 0 h = cTx s 0 h := fun h => by
    unfold cTx
    rw [e0]; rfl
  have txr : ∀ h, cTxr s 0 h → cTxr (zG s G) 0 h := fun h t => by
    unfold cTxr at t ⊢
    rw [e0]; exact t
  refine ⟨⟨w1, w2, fun r hr ht => ⟨(w3 r hr ht).1, (w3 r hr ht).2.1, (e15 r).trans (w3 r hr ht).2.2⟩, w4, w5, w6⟩, ⟨h1, fun h hh => ?_, ⟨(e0 9).trans h3.1, h3.2⟩, h4, fun h m hh hm => ?_⟩, fun i hi => (e14 i).trans (od i hi), ⟨(e0 11).trans a1, (e0 10).trans a2, (e0 4).trans a3, a4⟩, fun m hm => ?_, fun r hr ht => ?_, fun m hm => ?_⟩
  · have t := h2 h hh
    rw [tx]
    exact ⟨txr h t.1, t.2⟩
  · rw [e0]; exact h5 h m hh hm
  · have t := rm m hm
    refine ⟨?_, fun h hh => ?_⟩
    · rw [e13, e0]; exact t.1
    · have u := t.2 h hh
      rw [e16 h m (Nat.lt_of_lt_of_le hh N), u]
      unfold cRdv
      rw [tx]; rfl
  · have t := l0 r hr ht
    exact ⟨(eK 26 r 0 (by decide) (by decide) hr).trans t.1, (eK 27 r 0 (by decide) (by decide) hr).trans t.2⟩
  · have t := mn m hm
    refine ⟨fun r hr => ?_, fun h hh => ?_⟩
    · obtain ⟨t1, t2, t3, t4, t5, t6, t7, t8⟩ := t.1 r hr
      exact ⟨(eK 19 r m (by decide) (by decide) hr).trans t1, (eK 20 r m (by decide) (by decide) hr).trans t2, (eK 21 r m (by decide) (by decide) hr).trans t3, (eK 22 r m (by decide) (by decide) hr).trans t4, (eK 23 r m (by decide) (by decide) hr).trans t5, (eK 24 r m (by decide) (by decide) hr).trans t6, (eK 25 r m (by decide) (by decide) hr).trans t7, fun ht => ⟨(eK 26 r (m + 1) (by decide) (by decide) hr).trans (t8 ht).1, (eK 27 r (m + 1) (by decide) (by decide) hr).trans (t8 ht).2⟩⟩
    · have u := t.2 h hh
      exact ⟨(e17 h m (Nat.lt_of_lt_of_le hh N)).trans u.1, (e18 h m (Nat.lt_of_lt_of_le hh N)).trans u.2⟩
theorem yr_oth {s : zS} {G : Nat → Nat → Nat → Int} (R : yRel s) (O : cOth s G 1) : yRel (zG s G) := by
  have N := (rN (yHol R)).1
  obtain ⟨S, Ga, L, H, C, Tx, Ru, K, Tp, Sh, B⟩ := R
  have e4 : (zG s G).1 0 0 4 = s.1 0 0 4 := (O.1 0 4 (by decide)).1
  refine ⟨S, Ga, L, H, C, Tx, Ru, K, Tp, Sh, by rw [e4]; exact B.1, fun q => ?_⟩
  rw [e4] at q
  obtain ⟨k, rd, h, F⟩ := B.2 q
  exact ⟨k, rd, h, cFl_oth N O F⟩
theorem cWk_oth {s : zS} {G : Nat → Nat → Nat → Int} {D : uT} {M : Int} (N : uN D ≤ 16) (O : cOth s G 1) (W : cWk s 0 D M) : cWk (zG s G) 0 D M := by
  obtain ⟨k, rd, h1, h2, F⟩ := W
  exact ⟨k, rd, h1, h2, cFl_oth N O F⟩
theorem ys_0 {d : Nat} {s : zS} {Q : Option zV → zS → Prop} {u v : Int} {D : uT} (O : uOk D) (T : cTd s D u v) (h : ∀ G : Nat → Nat → Nat → Int, cFl (zG s G) 1 D 0 0 → cOth s G 1 → Q none (zG s G)) : zM (d + 12) 0 [.inr (.inr (0, 1)), .inl u, .inl v] s Q := by
  have T1 := T.1
  refine zs_0 T1.2.2.2.2.2 ?_ O.2.2.2.2.1 (fun G hO B => h G (cBeg_fl T hO B) (cOth_beg B))
  rw [T1.2.2.2.1]
  have := T1.2.2.2.2.1
  unfold uN
  omega
theorem ys_2t {d : Nat} {s : zS} {Q : Option zV → zS → Prop} {M : Int} {D : uT} {k rd : Nat} (O : uOk D) (hM : 0 ≤ M ∧ M ≤ 96) (hk : k ≤ rd) (F : cFl s 1 D k rd) (h : ∀ G : Nat → Nat → Nat → Int, cWk (zG s G) 1 D M → cOth s G 1 → Q none (zG s G)) : zM (d + 14) 2 [.inr (.inr (0, 1)), .inl M] s Q :=
  zs_2 O (by decide) hM (.inr ⟨k, rd, hk, F⟩) (fun G k rd h1 h2 F O => h G ⟨k, rd, h1, h2, F⟩ O)
-- X9_helps
theorem zb_81 {d : Nat} {σ : zS} {Q : Option zV → zS → Prop} {c : Int}
    (o1 : 0 ≤ c ∧ c ≤ (zW ((σ.1 8 0 11) - 1)) → (0 : Int) ≤ c ∧ c < (16 : Int))
    (o2 : 0 ≤ c ∧ c ≤ (zW ((σ.1 8 0 11) - 1)) → (0 : Int) ≤ (zW ((σ.1 41 0 (c.toNat)) + 1)) ∧ (zW ((σ.1 41 0 (c.toNat)) + 1)) ≤ (96 : Int))
    (o3 : 0 ≤ c ∧ c ≤ (zW ((σ.1 8 0 11) - 1)) → yRel σ)
    (h1 : 0 ≤ c ∧ c ≤ (zW ((σ.1 8 0 11) - 1)) → ∀ G1 : Nat → Nat → Nat → Int, cWk (zG σ G1) 0 (mD σ) (zW ((σ.1 41 0 (c.toNat)) + 1)) → yRel (zG σ G1) → cOth σ G1 0 → zX (d + 15) 81 33 [some (.inr (.inr (9, 0))), some (.inl c), some (.inl (σ.1 40 0 (c.toNat))), some (.inl (σ.1 41 0 (c.toNat)))] [.inl (-1), .inl c, .inr (.inr (0, 1))] (zG σ G1) Q)
    (h2 : ¬ (0 ≤ c ∧ c ≤ (zW ((σ.1 8 0 11) - 1))) → Q (some (.inl (-2))) σ) :
    zM (d + 15) 81 [.inr (.inr (9, 0)), .inl c] σ Q := by
  refine zX_run (n' := 7) (ls' := [some (.inr (.inr (9, 0))), some (.inl c), none, none]) (st' := [.inl (zW ((σ.1 8 0 11) - 1)), .inl 0, .inl c]) (σ' := σ) 7 rfl ?_
  refine zX_call rfl rfl ?_
  refine zs_104 (fun a1 => ?_) (fun a2 => ?_)
  · skip
    refine zX_run (n' := 15) (ls' := [some (.inr (.inr (9, 0))), some (.inl c), none, none]) (st' := [.inl c, .inr (.inr (40, 0))]) (σ' := σ) 5 rfl ?_
    refine zX_ald1 (L := 16) rfl (by decide) rfl (o1 a1) ?_
    refine zX_run (n' := 21) (ls' := [some (.inr (.inr (9, 0))), some (.inl c), some (.inl (σ.1 40 0 (c.toNat))), none]) (st' := [.inl c, .inr (.inr (41, 0))]) (σ' := σ) 5 rfl ?_
    refine zX_ald1 (L := 16) rfl (by decide) rfl (o1 a1) ?_
    refine zX_run (n' := 28) (ls' := [some (.inr (.inr (9, 0))), some (.inl c), some (.inl (σ.1 40 0 (c.toNat))), some (.inl (σ.1 41 0 (c.toNat)))]) (st' := [.inl (zW ((σ.1 41 0 (c.toNat)) + 1)), .inr (.inr (0, 0))]) (σ' := σ) 6 rfl ?_
    refine zX_call rfl rfl ?_
    refine ys_2 (o2 a1) (o3 a1) (fun G1 a3 a4 a5 => ?_)
    · skip
      refine zX_run (n' := 33) (ls' := [some (.inr (.inr (9, 0))), some (.inl c), some (.inl (σ.1 40 0 (c.toNat))), some (.inl (σ.1 41 0 (c.toNat)))]) (st' := [.inl (-1), .inl c, .inr (.inr (0, 1))]) (σ' := (zG σ G1)) 4 rfl ?_
      exact h1 a1 G1 a3 a4 a5
  · skip
    refine zX_run (n' := 10) (ls' := [some (.inr (.inr (9, 0))), some (.inl c), none, none]) (st' := [.inl (-2)]) (σ' := σ) 2 rfl ?_
    exact zX_ret rfl rfl (h2 a2)
-- X9_helps
theorem zb_81b {d : Nat} {σ : zS} {Q : Option zV → zS → Prop} {c h m : Int}
    (h1 : zX (d + 15) 81 39 [some (.inr (.inr (9, 0))), some (.inl c), some (.inl h), some (.inl m)] [.inl (zW (m + 1)), .inr (.inr (0, 1))] σ Q) :
    zX (d + 15) 81 34 [some (.inr (.inr (9, 0))), some (.inl c), some (.inl h), some (.inl m)] [] σ Q := by
  refine zX_run (n' := 39) (ls' := [some (.inr (.inr (9, 0))), some (.inl c), some (.inl h), some (.inl m)]) (st' := [.inl (zW (m + 1)), .inr (.inr (0, 1))]) (σ' := σ) 5 rfl ?_
  exact h1
-- X9_helps
theorem zb_81c {d : Nat} {σ : zS} {Q : Option zV → zS → Prop} {c h m : Int}
    (o1 : (0 : Int) ≤ h ∧ h < (16 : Int))
    (o2 : (0 : Int) ≤ m ∧ m < (96 : Int))
    (h1 : Q (some (.inl (zW ((σ.1 18 (16 * 0 + h.toNat) (m.toNat)) - (σ.1 18 (16 * 1 + h.toNat) (m.toNat)))))) σ) :
    zX (d + 15) 81 40 [some (.inr (.inr (9, 0))), some (.inl c), some (.inl h), some (.inl m)] [] σ Q := by
  refine zX_run (n' := 44) (ls' := [some (.inr (.inr (9, 0))), some (.inl c), some (.inl h), some (.inl m)]) (st' := [.inl h, .inr (.inr (12, 0))]) (σ' := σ) 4 rfl ?_
  refine zX_ald5 (L := 16) rfl (by decide) rfl o1 ?_
  refine zX_run (n' := 47) (ls' := [some (.inr (.inr (9, 0))), some (.inl c), some (.inl h), some (.inl m)]) (st' := [.inl m, .inr (.inr (18, 16 * 0 + h.toNat))]) (σ' := σ) 2 rfl ?_
  refine zX_ald1 (L := 96) rfl (by decide) rfl o2 ?_
  refine zX_run (n' := 52) (ls' := [some (.inr (.inr (9, 0))), some (.inl c), some (.inl h), some (.inl m)]) (st' := [.inl h, .inr (.inr (12, 1)), .inl (σ.1 18 (16 * 0 + h.toNat) (m.toNat))]) (σ' := σ) 4 rfl ?_
  refine zX_ald5 (L := 16) rfl (by decide) rfl o1 ?_
  refine zX_run (n' := 55) (ls' := [some (.inr (.inr (9, 0))), some (.inl c), some (.inl h), some (.inl m)]) (st' := [.inl m, .inr (.inr (18, 16 * 1 + h.toNat)), .inl (σ.1 18 (16 * 0 + h.toNat) (m.toNat))]) (σ' := σ) 2 rfl ?_
  refine zX_ald1 (L := 96) rfl (by decide) rfl o2 ?_
  refine zX_run (n' := 57) (ls' := [some (.inr (.inr (9, 0))), some (.inl c), some (.inl h), some (.inl m)]) (st' := [.inl (zW ((σ.1 18 (16 * 0 + h.toNat) (m.toNat)) - (σ.1 18 (16 * 1 + h.toNat) (m.toNat))))]) (σ' := σ) 1 rfl ?_
  exact zX_ret rfl rfl h1
-- X10_helps
theorem zb_163 {d : Nat} {σ : zS} {Q : Option zV → zS → Prop} {c : Int}
    (o1 : ¬ c < 0 → c < σ.1 10 0 5 → (0 : Int) ≤ c ∧ c < (16 : Int))
    (o2 : ¬ c < 0 → c < σ.1 10 0 5 → yRel σ)
    (o3 : ¬ c < 0 → c < σ.1 10 0 5 → ∀ G1 : zS, mRun σ G1 96 0 → yRel (yR σ G1) → (0 : Int) ≤ zW ((zW (17 * (σ.1 68 0 (c.toNat)))) + (σ.1 67 0 (c.toNat))) ∧ zW ((zW (17 * (σ.1 68 0 (c.toNat)))) + (σ.1 67 0 (c.toNat))) < (1632 : Int))
    (h1 : c < 0 → Q (some (.inl (-2))) σ)
    (h2 : ¬ c < 0 → c < σ.1 10 0 5 → ∀ G1 : zS, mRun σ G1 96 0 → yRel (yR σ G1) → zX (d + 7) 163 31 [some (.inr (.inr (10, 0))), some (.inl c), some (.inl (zW ((zW (17 * (σ.1 68 0 (c.toNat)))) + (σ.1 67 0 (c.toNat))))), some (.inl ((yR σ G1).1 92 0 ((zW ((zW (17 * (σ.1 68 0 (c.toNat)))) + (σ.1 67 0 (c.toNat)))).toNat)))] [.inr (.inr (10, 0))] (zU (yR σ G1) 10 0 54 c) Q)
    (h3 : ¬ c < 0 → ¬ c < σ.1 10 0 5 → Q (some (.inl (-2))) σ) :
    zM (d + 7) 163 [.inr (.inr (10, 0)), .inl c] σ Q := by
  refine zX_run (n' := 1) (ls' := [some (.inr (.inr (10, 0))), some (.inl c), none, none]) (st' := [.inl c]) (σ' := σ) 1 rfl ?_
  refine zX_i2 rfl (fun a1 => ?_) (fun a1 => ?_)
  · skip
    refine zX_run (n' := 7) (ls' := [some (.inr (.inr (10, 0))), some (.inl c), none, none]) (st' := [.inl (-2)]) (σ' := σ) 1 rfl ?_
    exact zX_ret rfl rfl (h1 a1)
  · skip
    refine zX_run (n' := 5) (ls' := [some (.inr (.inr (10, 0))), some (.inl c), none, none]) (st' := [.inl (σ.1 10 0 5), .inl c]) (σ' := σ) 3 rfl ?_
    refine zX_c2 rfl (fun a2 => ?_) (fun a2 => ?_)
    · skip
      refine zX_run (n' := 12) (ls' := [some (.inr (.inr (10, 0))), some (.inl c), none, none]) (st' := [.inl c, .inr (.inr (68, 0)), .inl 17]) (σ' := σ) 4 rfl ?_
      refine zX_ald1 (L := 16) rfl (by decide) rfl (o1 a1 a2) ?_
      refine zX_run (n' := 17) (ls' := [some (.inr (.inr (10, 0))), some (.inl c), none, none]) (st' := [.inl c, .inr (.inr (67, 0)), .inl (zW (17 * (σ.1 68 0 (c.toNat))))]) (σ' := σ) 4 rfl ?_
      refine zX_ald1 (L := 16) rfl (by decide) rfl (o1 a1 a2) ?_
      refine zX_run (n' := 21) (ls' := [some (.inr (.inr (10, 0))), some (.inl c), some (.inl (zW ((zW (17 * (σ.1 68 0 (c.toNat)))) + (σ.1 67 0 (c.toNat))))), none]) (st' := [.inr (.inr (10, 0))]) (σ' := σ) 3 rfl ?_
      refine zX_call rfl rfl ?_
      refine ys_158 (o2 a1 a2) (fun G1 a3 a4 => ?_)
      · skip
        refine zX_run (n' := 25) (ls' := [some (.inr (.inr (10, 0))), some (.inl c), some (.inl (zW ((zW (17 * (σ.1 68 0 (c.toNat)))) + (σ.1 67 0 (c.toNat))))), none]) (st' := [.inl (zW ((zW (17 * (σ.1 68 0 (c.toNat)))) + (σ.1 67 0 (c.toNat)))), .inr (.inr (92, 0))]) (σ' := (yR σ G1)) 3 rfl ?_
        refine zX_ald1 (L := 1632) rfl (by decide) rfl (o3 a1 a2 G1 a3 a4) ?_
        refine zX_run (n' := 31) (ls' := [some (.inr (.inr (10, 0))), some (.inl c), some (.inl (zW ((zW (17 * (σ.1 68 0 (c.toNat)))) + (σ.1 67 0 (c.toNat))))), some (.inl ((yR σ G1).1 92 0 ((zW ((zW (17 * (σ.1 68 0 (c.toNat)))) + (σ.1 67 0 (c.toNat)))).toNat)))]) (st' := [.inr (.inr (10, 0))]) (σ' := (zU (yR σ G1) 10 0 54 c)) 5 rfl ?_
        exact h2 a1 a2 G1 a3 a4
    · skip
      refine zX_run (n' := 7) (ls' := [some (.inr (.inr (10, 0))), some (.inl c), none, none]) (st' := [.inl (-2)]) (σ' := σ) 1 rfl ?_
      exact zX_ret rfl rfl (h3 a1 a2)
-- X10_helps
theorem zb_163b {d : Nat} {σ : zS} {Q : Option zV → zS → Prop} {c k v : Int}
    (o1 : (0 : Int) ≤ k ∧ k < (1632 : Int))
    (h1 : Q (some (.inl (zW (v - (σ.1 92 0 (k.toNat)))))) (zU σ 10 0 54 (-1))) :
    zX (d + 7) 163 32 [some (.inr (.inr (10, 0))), some (.inl c), some (.inl k), some (.inl v)] [] σ Q := by
  refine zX_run (n' := 39) (ls' := [some (.inr (.inr (10, 0))), some (.inl c), some (.inl k), some (.inl v)]) (st' := [.inl k, .inr (.inr (92, 0)), .inl v]) (σ' := (zU σ 10 0 54 (-1))) 7 rfl ?_
  refine zX_ald1 (L := 1632) rfl (by decide) rfl o1 ?_
  refine zX_run (n' := 41) (ls' := [some (.inr (.inr (10, 0))), some (.inl c), some (.inl k), some (.inl v)]) (st' := [.inl (zW (v - (σ.1 92 0 (k.toNat))))]) (σ' := (zU σ 10 0 54 (-1))) 1 rfl ?_
  exact zX_ret rfl rfl h1
theorem yTd_l {s : zS} (R : yRel s) (c : Int) : cTd s (mD (zU s 10 0 54 c)) c (-1) ∧ mOk (zU s 10 0 54 c) := by
  obtain ⟨S, G, L, H, C, Tx, Ru, K, Tp, Sh, B⟩ := R
  exact ⟨rTd (σ := zU s 10 0 54 c) S G L H C (rRul_1 H Tx Ru) K.2, rMok (σ := zU s 10 0 54 c) (v := -1) S G L H C (rRul_1 H Tx Ru) (by rw [show (zU s 10 0 54 c).1 10 0 66 = 0 from K.2]; decide)⟩
theorem zU_U {s : zS} {k n j : Nat} {a b : Int} : zU (zU s k n j a) k n j b = zU s k n j b := by
  refine Prod.ext (funext fun x => funext fun m => funext fun i => ?_) rfl
  show (if x = k ∧ i = j ∧ m = n then b else if x = k ∧ i = j ∧ m = n then a else s.1 x m i) = if x = k ∧ i = j ∧ m = n then b else s.1 x m i
  by_cases p : x = k ∧ i = j ∧ m = n
  · rw [if_pos p, if_pos p]
  · rw [if_neg p, if_neg p, if_neg p]
theorem yR_Un {s τ : zS} {k n j : Nat} {a : Int} (h : ¬ fm k = true) : yR (zU s k n j a) τ = zU (yR s τ) k n j a := by
  refine Prod.ext (funext fun x => funext fun m => funext fun i => ?_) rfl
  show (if fm x = true then τ.1 x else (zU s k n j a).1 x) m i = if x = k ∧ i = j ∧ m = n then a else (if fm x = true then τ.1 x else s.1 x) m i
  by_cases e : fm x = true
  · rw [if_pos e, if_pos e, if_neg (c := x = k ∧ i = j ∧ m = n) (fun p => h (p.1 ▸ e))]
  · rw [if_neg e, if_neg e]; rfl
def rPrt (s : zS) : zS := (fun k => if k = 10 ∨ 46 ≤ k then s.1 k else fun _ _ => 0, fun _ _ _ => 0)
theorem yE_mD {s σ : zS} (h : ∀ k, k = 10 ∨ 46 ≤ k → s.1 k = σ.1 k) : mD s = mD σ := by
  have e : rPrt s = rPrt σ := Prod.ext (funext fun k => by
    show (if k = 10 ∨ 46 ≤ k then s.1 k else fun _ _ => 0) = if k = 10 ∨ 46 ≤ k then σ.1 k else fun _ _ => 0
    by_cases c : k = 10 ∨ 46 ≤ k
    · rw [if_pos c, if_pos c, h k c]
    · rw [if_neg c, if_neg c]) rfl
  have a : mD s = mD (rPrt s) := rfl
  have b : mD (rPrt σ) = mD σ := rfl
  rw [a, e, b]
def vHelp (σ : zS) (c : Int) : Int := if 0 ≤ c ∧ c < σ.1 10 0 5 then zW (uV (mD σ) ((σ.1 68 0 c.toNat).toNat + 1) 2 (σ.1 67 0 c.toNat).toNat - uV (mD (zU σ 10 0 54 c)) ((σ.1 68 0 c.toNat).toNat + 1) 2 (σ.1 67 0 c.toNat).toNat) else -2
theorem yc_81 {d : Nat} (c : Int) : yC (d + 60) 81 [.inl c] (fun s => .inl (vHelp s c)) := fun σ Q R q => by
  have q : ∀ s, yE σ s → yRel s → Q (some (.inl (vHelp σ c))) s := q
  have C := R.2.2.2.2.1
  have n11 := C.1.1
  have n0 := C.1.2
  have e : zW (σ.1 8 0 11 - 1) = σ.1 10 0 5 - 1 := by rw [n11]; clear q; unfold zW; omega
  by_cases P : 0 ≤ c ∧ c < σ.1 10 0 5
  case neg =>
    have q := q _ yE_r R
    rw [show vHelp σ c = -2 from if_neg P] at q
    have nb : ¬ (0 ≤ c ∧ c ≤ zW (σ.1 8 0 11 - 1)) := by rw [e]; omega
    exact zb_81 (d := d + 45) (fun a => absurd a nb) (fun a => absurd a nb) (fun a => absurd a nb) (fun a => absurd a nb) (fun _ => q)
  obtain ⟨c, rfl⟩ := Int.eq_ofNat_of_zero_le P.1
  obtain ⟨⟨c40, c41⟩, c67, c68⟩ := C.2 c P.2
  obtain ⟨h, hh⟩ := Int.eq_ofNat_of_zero_le c67.1
  obtain ⟨m, hm⟩ := Int.eq_ofNat_of_zero_le c68.1
  have m96 : m < 96 := by omega
  have hn : (h : Int) < σ.1 10 0 4 := by rw [← hh]; exact c67.2
  have hu : h < uN (mD σ) := (yuN R).mpr hn
  have h16 := (yOk R).2.2.2.2.1
  have ih : (0 : Int) ≤ (h : Int) ∧ (h : Int) < 16 := by omega
  have im : (0 : Int) ≤ (m : Int) ∧ (m : Int) < 96 := by omega
  have ic : (0 : Int) ≤ (c : Int) ∧ (c : Int) < 16 := by omega
  have iM : (0 : Int) ≤ ((m + 1 : Nat) : Int) ∧ ((m + 1 : Nat) : Int) ≤ 96 := by omega
  have lt : (m : Int) < ((m + 1 : Nat) : Int) := by omega
  have g40 : σ.1 40 0 (c : Int).toNat = (h : Int) := c40.trans hh
  have g41 : σ.1 41 0 (c : Int).toNat = (m : Int) := c41.trans hm
  have F : vHelp σ (c : Int) = zW (uV (mD σ) (m + 1) 2 h - uV (mD (zU σ 10 0 54 (c : Int))) (m + 1) 2 h) := by
    unfold vHelp
    rw [if_pos P, Int.toNat_natCast, hh, hm, Int.toNat_natCast, Int.toNat_natCast]
  have nb : ¬ ¬ (0 ≤ (c : Int) ∧ (c : Int) ≤ zW (σ.1 8 0 11 - 1)) := by rw [e]; exact fun k => k ⟨P.1, Int.le_sub_one_of_lt P.2⟩
  have z1 : zW ((m : Int) + 1) = ((m + 1 : Nat) : Int) := zWs (by omega)
  refine zb_81 (d := d + 45) (fun _ => ic) (fun _ => by rw [g41, z1]; exact iM) (fun _ => R) (fun _ G1 W1 R1 O1 => ?_) (fun a => absurd a nb)
  rw [g41, z1] at W1
  rw [g40, g41]
  obtain ⟨T, K⟩ := yTd_l R1 (c : Int)
  refine zX_call rfl rfl ?_
  refine ys_0 (d := d + 47) K.1 T (fun G2 F2 O2 => ?_)
  have R2 := yr_oth R1 O2
  have W2 := cWk_oth h16 O2 W1
  refine zb_81b (d := d + 45) ?_
  refine zX_call rfl rfl ?_
  refine ys_2t (d := d + 45) (D := mD (zU (zG σ G1) 10 0 54 (c : Int))) K.1 (by rw [z1]; exact iM) (Nat.le_refl 0) F2 (fun G3 W3 O3 => ?_)
  have R3 := yr_oth R2 O3
  have W4 := cWk_oth h16 O3 W2
  rw [z1] at W3
  have x1 := (cw_w W4 lt hu).2
  have x2 := (cw_w W3 lt (h := h) hu).2
  refine zb_81c (d := d + 45) ih im ?_
  refine yA ?_ (q _ (yE_t yE_G (yE_t yE_G yE_G)) R3)
  rw [F]
  exact congrArg zW (congr (congrArg HSub.hSub x1.symm) x2.symm)
theorem ym_163 {d : Nat} (c : Int) : yM (d + 60) 163 [.inl c] (fun s => .inl (vHelp s c)) := fun σ Q R q => by
  have q : ∀ s, yRel s → Q (some (.inl (vHelp σ c))) s := q
  have C := R.2.2.2.2.1
  by_cases P : 0 ≤ c ∧ c < σ.1 10 0 5
  case neg =>
    have q := q _ R
    rw [show vHelp σ c = -2 from if_neg P] at q
    have nb : ¬ (0 ≤ c ∧ c < σ.1 10 0 5) := P
    clear P
    refine zb_163 (fun a0 a1 => (absurd (by omega) nb))
      (fun a0 a1 => (absurd (by omega) nb))
      (fun a0 a1 G1 a3 a4 => (absurd (by omega) nb))
      (fun a0 => q)
      (fun a0 a1 G1 a3 a4 => (absurd (by omega) nb))
      (fun a0 a1 => q)
  obtain ⟨c, rfl⟩ := Int.eq_ofNat_of_zero_le P.1
  obtain ⟨-, c67, c68⟩ := C.2 c P.2
  have C1 := C.1.2
  obtain ⟨h, hh⟩ := Int.eq_ofNat_of_zero_le c67.1
  obtain ⟨m, hm⟩ := Int.eq_ofNat_of_zero_le c68.1
  have m96 : m < 96 := by omega
  have hn : (h : Int) < σ.1 10 0 4 := by rw [← hh]; exact c67.2
  have hu : h < uN (mD σ) := (yuN R).mpr hn
  have h16 := (yOk R).2.2.2.2.1
  have ic : (0 : Int) ≤ (c : Int) ∧ (c : Int) < 16 := by omega
  have ix : (0 : Int) ≤ ((17 * m + h : Nat) : Int) ∧ ((17 * m + h : Nat) : Int) < 1632 := by omega
  have g67 : σ.1 67 0 (c : Int).toNat = (h : Int) := hh
  have g68 : σ.1 68 0 (c : Int).toNat = (m : Int) := hm
  have F : vHelp σ (c : Int) = zW (uV (mD σ) (m + 1) 2 h - uV (mD (zU σ 10 0 54 (c : Int))) (m + 1) 2 h) := by
    unfold vHelp
    rw [if_pos P, Int.toNat_natCast, hh, hm, Int.toNat_natCast, Int.toNat_natCast]
  have P' : 0 ≤ (c : Int) ∧ (c : Int) < σ.1 10 0 5 := P
  have zx : zW ((zW (17 * (m : Int))) + (h : Int)) = ((17 * m + h : Nat) : Int) := by
    have h16' : h < 16 := Nat.lt_of_lt_of_le hu h16
    clear q F g67 g68 hh hm c67 c68 hn hu h16 C R P P' ix ic C1
    unfold zW; omega
  have fin : ∀ τ : zS, mRun σ τ 96 0 → yRel (yR σ τ) → zX (d + 53 + 7) 163 31 [some (.inr (.inr (10, 0))), some (.inl (c : Int)), some (.inl ((17 * m + h : Nat) : Int)), some (.inl ((yR σ τ).1 92 0 (17 * m + h)))] [.inr (.inr (10, 0))] (zU (yR σ τ) 10 0 54 (c : Int)) Q := fun τ M R1 => by
    obtain ⟨T, K⟩ := yTd_l R1 (c : Int)
    refine zX_call rfl rfl ?_
    refine zs_158 (d := d + 53) K (fun τ2 M2 => ?_)
    refine zb_163b (d := d + 53) ix ?_
    have e2 : zU (yR (zU (yR σ τ) 10 0 54 (c : Int)) τ2) 10 0 54 (-1) = yR (yR σ τ) τ2 := by
      rw [yR_Un (by decide), zU_U, zU_self (show (yR (yR σ τ) τ2).1 10 0 54 = -1 from R.2.2.2.2.2.2.2.1.1)]
    have x1 : (yR σ τ).1 92 0 (17 * m + h) = uV (mD σ) (m + 1) 2 h := (M.2.2.2.2 m h m96 hu (.inl m96)).2.1
    have x2 : τ2.1 92 0 (17 * m + h) = uV (mD (zU σ 10 0 54 (c : Int))) (m + 1) 2 h := (M2.2.2.2.2 m h m96 hu (.inl m96)).2.1
    rw [e2]
    refine yA ?_ (q _ (yr_yR R1))
    rw [F]
    exact congrArg zW (congr (congrArg HSub.hSub x1.symm) x2.symm)
  refine zb_163 (fun a0 a1 => ic)
      (fun a0 a1 => R)
      (fun a0 a1 G1 a3 a4 => (by rw [g68, g67, zx]; exact ix))
      (fun a0 => (by exfalso; omega))
      (fun a0 a1 G1 a3 a4 => (by rw [g68, g67, zx]; exact fin _ a3 a4))
      (fun a0 a1 => (by exfalso; omega))
theorem yp_helps {d : Nat} {σ : zS} (R : yRel σ) (c : Int) : yPi d 81 163 [.inl c] σ :=
  yp_of (f := fun s => vHelp s c) (yc_81 c) (ym_163 c) (fun σ s e => by
    show vHelp s c = vHelp σ c
    have e1 := e.1
    have e10 := e.2 10 (.inl rfl)
    have e67 := e.2 67 (.inr (by decide))
    have e68 := e.2 68 (.inr (by decide))
    have eL : mD (zU s 10 0 54 c) = mD (zU σ 10 0 54 c) := yE_mD (fun k hk => by
      show (fun n j => if k = 10 ∧ j = 54 ∧ n = 0 then c else s.1 k n j) = fun n j => if k = 10 ∧ j = 54 ∧ n = 0 then c else σ.1 k n j
      rw [e.2 k hk])
    unfold vHelp
    rw [e1, e10, e67, e68, eL]) R
