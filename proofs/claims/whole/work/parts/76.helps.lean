-- the trial flow; helps (wip/whole/gen/laws51.py)
/-- the other flow stands when one works -/
theorem cFl_oth {s : zS} {G : Nat → Nat → Nat → Int} {D : uT} {k rd : Nat} (N : uN D ≤ 16) (O : cOth s G 1) (F : cFl s 0 D k rd) : cFl (zG s G) 0 D k rd := by
  obtain ⟨⟨w1, w2, w3, w4, w5, w6⟩, ⟨h1, h2, h3, h4, h5⟩, od, ⟨a1, a2, a3, a4⟩, rm, l0, mn⟩ := F
  obtain ⟨o1, o2, o3⟩ := O
  have e0 : ∀ j, (zG s G).1 0 0 j = s.1 0 0 j := fun j => (o1 0 j (by decide)).1
  have e13 : ∀ j, (zG s G).1 13 0 j = s.1 13 0 j := fun j => (o1 0 j (by decide)).2.1
  have e14 : ∀ j, (zG s G).1 14 0 j = s.1 14 0 j := fun j => (o1 0 j (by decide)).2.2.1
  have e15 : ∀ j, (zG s G).1 15 0 j = s.1 15 0 j := fun j => (o1 0 j (by decide)).2.2.2
  have n16 : ∀ h, h < 16 → ¬ (16 * 1 ≤ 16 * 0 + h ∧ 16 * 0 + h < 16 * 1 + 16) := fun h hh => by omega
  have n7 : ∀ r, r < 7 → ¬ (7 * 1 ≤ 7 * 0 + r ∧ 7 * 0 + r < 7 * 1 + 7) := fun r hr => by omega
  have e16 : ∀ h j, h < 16 → (zG s G).1 16 (16 * 0 + h) j = s.1 16 (16 * 0 + h) j := fun h j hh => o2 16 (by decide) (by decide) _ j (n16 h hh)
  have e17 : ∀ h j, h < 16 → (zG s G).1 17 (16 * 0 + h) j = s.1 17 (16 * 0 + h) j := fun h j hh => o2 17 (by decide) (by decide) _ j (n16 h hh)
  have e18 : ∀ h j, h < 16 → (zG s G).1 18 (16 * 0 + h) j = s.1 18 (16 * 0 + h) j := fun h j hh => o2 18 (by decide) (by decide) _ j (n16 h hh)
  have eK : ∀ k r j, 19 ≤ k → k ≤ 27 → r < 7 → G k (7 * 0 + r) j = s.1 k (7 * 0 + r) j := fun k r j h1 h2 hr => o3 k h1 h2 _ j (n7 r hr)
  have tx : ∀ h, cTx (zG s G) 0 h = cTx s 0 h := fun h => by
    unfold cTx
    rw [e0]; rfl
  have txr : ∀ h, cTxr s 0 h → cTxr (zG s G) 0 h := fun h t => by
    unfold cTxr at t ⊢
    rw [e0]; exact t
  refine ⟨⟨w1, w2, fun r hr ht => ⟨(w3 r hr ht).1, (w3 r hr ht).2.1, (e15 r).trans (w3 r hr ht).2.2⟩, w4, w5, w6⟩, ⟨h1, fun h hh => ?_, ⟨(e0 9).trans h3.1, h3.2⟩, h4, fun h m hh hm => ?_⟩, fun i hi => (e14 i).trans (od i hi), ⟨(e0 11).trans a1, (e0 10).trans a2, (e0 4).trans a3, a4⟩, fun m hm => ?_, fun r hr ht => ?_, fun m hm => ?_⟩
  · have t := h2 h hh
    rw [tx]
    exact ⟨txr h t.1, t.2⟩
  · rw [e0]; exact h5 h m hh hm
  · have t := rm m hm
    refine ⟨?_, fun h hh => ?_⟩
    · rw [e13, e0]; exact t.1
    · have u := t.2 h hh
      rw [e16 h m (Nat.lt_of_lt_of_le hh N), u]
      unfold cRdv
      rw [tx]; rfl
  · have t := l0 r hr ht
    exact ⟨(eK 26 r 0 (by decide) (by decide) hr).trans t.1, (eK 27 r 0 (by decide) (by decide) hr).trans t.2⟩
  · have t := mn m hm
    refine ⟨fun r hr => ?_, fun h hh => ?_⟩
    · obtain ⟨t1, t2, t3, t4, t5, t6, t7, t8⟩ := t.1 r hr
      exact ⟨(eK 19 r m (by decide) (by decide) hr).trans t1, (eK 20 r m (by decide) (by decide) hr).trans t2, (eK 21 r m (by decide) (by decide) hr).trans t3, (eK 22 r m (by decide) (by decide) hr).trans t4, (eK 23 r m (by decide) (by decide) hr).trans t5, (eK 24 r m (by decide) (by decide) hr).trans t6, (eK 25 r m (by decide) (by decide) hr).trans t7, fun ht => ⟨(eK 26 r (m + 1) (by decide) (by decide) hr).trans (t8 ht).1, (eK 27 r (m + 1) (by decide) (by decide) hr).trans (t8 ht).2⟩⟩
    · have u := t.2 h hh
      exact ⟨(e17 h m (Nat.lt_of_lt_of_le hh N)).trans u.1, (e18 h m (Nat.lt_of_lt_of_le hh N)).trans u.2⟩
theorem yr_oth {s : zS} {G : Nat → Nat → Nat → Int} (R : yRel s) (O : cOth s G 1) : yRel (zG s G) := by
  have N := (rN (yHol R)).1
  obtain ⟨S, Ga, L, H, C, Tx, Ru, K, Tp, Sh, B⟩ := R
  have e4 : (zG s G).1 0 0 4 = s.1 0 0 4 := (O.1 0 4 (by decide)).1
  refine ⟨S, Ga, L, H, C, Tx, Ru, K, Tp, Sh, by rw [e4]; exact B.1, fun q => ?_⟩
  rw [e4] at q
  obtain ⟨k, rd, h, F⟩ := B.2 q
  exact ⟨k, rd, h, cFl_oth N O F⟩
theorem cWk_oth {s : zS} {G : Nat → Nat → Nat → Int} {D : uT} {M : Int} (N : uN D ≤ 16) (O : cOth s G 1) (W : cWk s 0 D M) : cWk (zG s G) 0 D M := by
  obtain ⟨k, rd, h1, h2, F⟩ := W
  exact ⟨k, rd, h1, h2, cFl_oth N O F⟩
theorem ys_0 {d : Nat} {s : zS} {Q : Option zV → zS → Prop} {u v : Int} {D : uT} (O : uOk D) (T : cTd s D u v) (h : ∀ G : Nat → Nat → Nat → Int, cFl (zG s G) 1 D 0 0 → cOth s G 1 → Q none (zG s G)) : zM (d + 12) 0 [.inr (.inr (0, 1)), .inl u, .inl v] s Q := by
  have T1 := T.1
  refine zs_0 T1.2.2.2.2.2 ?_ O.2.2.2.2.1 (fun G hO B => h G (cBeg_fl T hO B) (cOth_beg B))
  rw [T1.2.2.2.1]
  have := T1.2.2.2.2.1
  unfold uN
  omega
theorem ys_2t {d : Nat} {s : zS} {Q : Option zV → zS → Prop} {M : Int} {D : uT} {k rd : Nat} (O : uOk D) (hM : 0 ≤ M ∧ M ≤ 96) (hk : k ≤ rd) (F : cFl s 1 D k rd) (h : ∀ G : Nat → Nat → Nat → Int, cWk (zG s G) 1 D M → cOth s G 1 → Q none (zG s G)) : zM (d + 14) 2 [.inr (.inr (0, 1)), .inl M] s Q :=
  zs_2 O (by decide) hM (.inr ⟨k, rd, hk, F⟩) (fun G k rd h1 h2 F O => h G ⟨k, rd, h1, h2, F⟩ O)
-- X9_helps
theorem zb_81 {d : Nat} {σ : zS} {Q : Option zV → zS → Prop} {c : Int}
    (o1 : 0 ≤ c ∧ c ≤ (zW ((σ.1 8 0 11) - 1)) → (0 : Int) ≤ c ∧ c < (16 : Int))
    (o2 : 0 ≤ c ∧ c ≤ (zW ((σ.1 8 0 11) - 1)) → (0 : Int) ≤ (zW ((σ.1 41 0 (c.toNat)) + 1)) ∧ (zW ((σ.1 41 0 (c.toNat)) + 1)) ≤ (96 : Int))
    (o3 : 0 ≤ c ∧ c ≤ (zW ((σ.1 8 0 11) - 1)) → yRel σ)
    (h1 : 0 ≤ c ∧ c ≤ (zW ((σ.1 8 0 11) - 1)) → ∀ G1 : Nat → Nat → Nat → Int, cWk (zG σ G1) 0 (mD σ) (zW ((σ.1 41 0 (c.toNat)) + 1)) → yRel (zG σ G1) → cOth σ G1 0 → zX (d + 15) 81 33 [some (.inr (.inr (9, 0))), some (.inl c), some (.inl (σ.1 40 0 (c.toNat))), some (.inl (σ.1 41 0 (c.toNat)))] [.inl (-1), .inl c, .inr (.inr (0, 1))] (zG σ G1) Q)
    (h2 : ¬ (0 ≤ c ∧ c ≤ (zW ((σ.1 8 0 11) - 1))) → Q (some (.inl (-2))) σ) :
    zM (d + 15) 81 [.inr (.inr (9, 0)), .inl c] σ Q := by
  refine zX_run (n' := 7) (ls' := [some (.inr (.inr (9, 0))), some (.inl c), none, none]) (st' := [.inl (zW ((σ.1 8 0 11) - 1)), .inl 0, .inl c]) (σ' := σ) 7 rfl ?_
  refine zX_call rfl rfl ?_
  refine zs_104 (fun a1 => ?_) (fun a2 => ?_)
  · skip
    refine zX_run (n' := 15) (ls' := [some (.inr (.inr (9, 0))), some (.inl c), none, none]) (st' := [.inl c, .inr (.inr (40, 0))]) (σ' := σ) 5 rfl ?_
    refine zX_ald1 (L := 16) rfl (by decide) rfl (o1 a1) ?_
    refine zX_run (n' := 21) (ls' := [some (.inr (.inr (9, 0))), some (.inl c), some (.inl (σ.1 40 0 (c.toNat))), none]) (st' := [.inl c, .inr (.inr (41, 0))]) (σ' := σ) 5 rfl ?_
    refine zX_ald1 (L := 16) rfl (by decide) rfl (o1 a1) ?_
    refine zX_run (n' := 28) (ls' := [some (.inr (.inr (9, 0))), some (.inl c), some (.inl (σ.1 40 0 (c.toNat))), some (.inl (σ.1 41 0 (c.toNat)))]) (st' := [.inl (zW ((σ.1 41 0 (c.toNat)) + 1)), .inr (.inr (0, 0))]) (σ' := σ) 6 rfl ?_
    refine zX_call rfl rfl ?_
    refine ys_2 (o2 a1) (o3 a1) (fun G1 a3 a4 a5 => ?_)
    · skip
      refine zX_run (n' := 33) (ls' := [some (.inr (.inr (9, 0))), some (.inl c), some (.inl (σ.1 40 0 (c.toNat))), some (.inl (σ.1 41 0 (c.toNat)))]) (st' := [.inl (-1), .inl c, .inr (.inr (0, 1))]) (σ' := (zG σ G1)) 4 rfl ?_
      exact h1 a1 G1 a3 a4 a5
  · skip
    refine zX_run (n' := 10) (ls' := [some (.inr (.inr (9, 0))), some (.inl c), none, none]) (st' := [.inl (-2)]) (σ' := σ) 2 rfl ?_
    exact zX_ret rfl rfl (h2 a2)
