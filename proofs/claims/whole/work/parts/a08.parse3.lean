-- the class reads a text whole (wip/whole/gen/laws79.py)
-- X5_parse
theorem zg_32_20 {d : Nat} {σ : zS} {Q : Option zV → zS → Prop} 
    (o1 : ¬ σ.1 5 0 2 = -1)
    (o2 : ¬ (-22) = (-20 : Int))
    (o3 : ¬ (zU σ 5 0 9 (σ.1 5 0 8)).1 5 0 2 = -1)
    (o4 : ¬ (-22) = (-17 : Int))
    (o5 : ¬ (-22) = (-21 : Int))
    (h1 : Q (none) (zU σ 5 0 9 (σ.1 5 0 8))) :
    zX (d + 40) 32 20 [some (.inr (.inr (5, 0)))] [] σ Q := by
  refine zX_run (n' := 21) (ls' := [some (.inr (.inr (5, 0)))]) (st' := [.inr (.inr (5, 0))]) (σ' := σ) 1 rfl ?_
  refine zX_call rfl rfl ?_
  refine zf_48 o1 ?_
  · skip
    refine zX_run (n' := 24) (ls' := [some (.inr (.inr (5, 0)))]) (st' := [.inl (-20), .inr (.inr (5, 0))]) (σ' := σ) 2 rfl ?_
    refine zX_call rfl rfl ?_
    refine zf_44 o1 o2 ?_
    · skip
      refine zX_run (n' := 31) (ls' := [some (.inr (.inr (5, 0)))]) (st' := [.inl (-17), .inr (.inr (5, 0))]) (σ' := (zU σ 5 0 9 (σ.1 5 0 8))) 6 rfl ?_
      refine zX_call rfl rfl ?_
      refine zf_44 o3 o4 ?_
      · skip
        refine zX_run (n' := 33) (ls' := [some (.inr (.inr (5, 0)))]) (st' := [.inr (.inr (5, 0))]) (σ' := (zU σ 5 0 9 (σ.1 5 0 8))) 1 rfl ?_
        refine zX_call rfl rfl ?_
        refine zf_48 o3 ?_
        · skip
          refine zX_run (n' := 36) (ls' := [some (.inr (.inr (5, 0)))]) (st' := [.inl (-20), .inr (.inr (5, 0))]) (σ' := (zU σ 5 0 9 (σ.1 5 0 8))) 2 rfl ?_
          refine zX_call rfl rfl ?_
          refine zf_44 o3 o2 ?_
          · skip
            refine zX_run (n' := 39) (ls' := [some (.inr (.inr (5, 0)))]) (st' := [.inl (-21), .inr (.inr (5, 0))]) (σ' := (zU σ 5 0 9 (σ.1 5 0 8))) 2 rfl ?_
            refine zX_call rfl rfl ?_
            refine zf_44 o3 o5 ?_
            · skip
              exact zX_ret0 rfl rfl h1
theorem zt_32_20 {d : Nat} {σ : zS} {Q : Option zV → zS → Prop} (q : ¬ σ.1 5 0 2 = -1) (h : Q none (zU σ 5 0 9 (σ.1 5 0 8))) : zX (d + 40) 32 20 [some (.inr (.inr (5, 0)))] [] σ Q := zg_32_20 q (by decide) q (by decide) (by decide) h
-- X5_parse
theorem zg_32_22 {d : Nat} {σ : zS} {Q : Option zV → zS → Prop} 
    (o1 : ¬ σ.1 5 0 2 = -1)
    (o2 : ¬ (-22) = (-20 : Int))
    (o3 : ¬ (zU σ 5 0 9 (σ.1 5 0 8)).1 5 0 2 = -1)
    (o4 : ¬ (-22) = (-17 : Int))
    (o5 : ¬ (-22) = (-21 : Int))
    (h1 : Q (none) (zU σ 5 0 9 (σ.1 5 0 8))) :
    zX (d + 40) 32 22 [some (.inr (.inr (5, 0)))] [] σ Q := by
  refine zX_run (n' := 24) (ls' := [some (.inr (.inr (5, 0)))]) (st' := [.inl (-20), .inr (.inr (5, 0))]) (σ' := σ) 2 rfl ?_
  refine zX_call rfl rfl ?_
  refine zf_44 o1 o2 ?_
  · skip
    refine zX_run (n' := 31) (ls' := [some (.inr (.inr (5, 0)))]) (st' := [.inl (-17), .inr (.inr (5, 0))]) (σ' := (zU σ 5 0 9 (σ.1 5 0 8))) 6 rfl ?_
    refine zX_call rfl rfl ?_
    refine zf_44 o3 o4 ?_
    · skip
      refine zX_run (n' := 33) (ls' := [some (.inr (.inr (5, 0)))]) (st' := [.inr (.inr (5, 0))]) (σ' := (zU σ 5 0 9 (σ.1 5 0 8))) 1 rfl ?_
      refine zX_call rfl rfl ?_
      refine zf_48 o3 ?_
      · skip
        refine zX_run (n' := 36) (ls' := [some (.inr (.inr (5, 0)))]) (st' := [.inl (-20), .inr (.inr (5, 0))]) (σ' := (zU σ 5 0 9 (σ.1 5 0 8))) 2 rfl ?_
        refine zX_call rfl rfl ?_
        refine zf_44 o3 o2 ?_
        · skip
          refine zX_run (n' := 39) (ls' := [some (.inr (.inr (5, 0)))]) (st' := [.inl (-21), .inr (.inr (5, 0))]) (σ' := (zU σ 5 0 9 (σ.1 5 0 8))) 2 rfl ?_
          refine zX_call rfl rfl ?_
          refine zf_44 o3 o5 ?_
          · skip
            exact zX_ret0 rfl rfl h1
theorem zt_32_22 {d : Nat} {σ : zS} {Q : Option zV → zS → Prop} (q : ¬ σ.1 5 0 2 = -1) (h : Q none (zU σ 5 0 9 (σ.1 5 0 8))) : zX (d + 40) 32 22 [some (.inr (.inr (5, 0)))] [] σ Q := zg_32_22 q (by decide) q (by decide) (by decide) h
-- X5_parse
theorem zg_32_25 {d : Nat} {σ : zS} {Q : Option zV → zS → Prop} 
    (o1 : ¬ (zU σ 5 0 9 (σ.1 5 0 8)).1 5 0 2 = -1)
    (o2 : ¬ (-22) = (-17 : Int))
    (o3 : ¬ (-22) = (-20 : Int))
    (o4 : ¬ (-22) = (-21 : Int))
    (h1 : Q (none) (zU σ 5 0 9 (σ.1 5 0 8))) :
    zX (d + 40) 32 25 [some (.inr (.inr (5, 0)))] [] σ Q := by
  refine zX_run (n' := 31) (ls' := [some (.inr (.inr (5, 0)))]) (st' := [.inl (-17), .inr (.inr (5, 0))]) (σ' := (zU σ 5 0 9 (σ.1 5 0 8))) 6 rfl ?_
  refine zX_call rfl rfl ?_
  refine zf_44 o1 o2 ?_
  · skip
    refine zX_run (n' := 33) (ls' := [some (.inr (.inr (5, 0)))]) (st' := [.inr (.inr (5, 0))]) (σ' := (zU σ 5 0 9 (σ.1 5 0 8))) 1 rfl ?_
    refine zX_call rfl rfl ?_
    refine zf_48 o1 ?_
    · skip
      refine zX_run (n' := 36) (ls' := [some (.inr (.inr (5, 0)))]) (st' := [.inl (-20), .inr (.inr (5, 0))]) (σ' := (zU σ 5 0 9 (σ.1 5 0 8))) 2 rfl ?_
      refine zX_call rfl rfl ?_
      refine zf_44 o1 o3 ?_
      · skip
        refine zX_run (n' := 39) (ls' := [some (.inr (.inr (5, 0)))]) (st' := [.inl (-21), .inr (.inr (5, 0))]) (σ' := (zU σ 5 0 9 (σ.1 5 0 8))) 2 rfl ?_
        refine zX_call rfl rfl ?_
        refine zf_44 o1 o4 ?_
        · skip
          exact zX_ret0 rfl rfl h1
theorem zt_32_25 {d : Nat} {σ : zS} {Q : Option zV → zS → Prop} (q : ¬ σ.1 5 0 2 = -1) (h : Q none (zU σ 5 0 9 (σ.1 5 0 8))) : zX (d + 40) 32 25 [some (.inr (.inr (5, 0)))] [] σ Q := zg_32_25 q (by decide) (by decide) (by decide) h
-- X5_parse
theorem zg_32_32 {d : Nat} {σ : zS} {Q : Option zV → zS → Prop} 
    (o1 : ¬ σ.1 5 0 2 = -1)
    (o2 : ¬ (-22) = (-20 : Int))
    (o3 : ¬ (-22) = (-21 : Int))
    (h1 : Q (none) σ) :
    zX (d + 40) 32 32 [some (.inr (.inr (5, 0)))] [] σ Q := by
  refine zX_run (n' := 33) (ls' := [some (.inr (.inr (5, 0)))]) (st' := [.inr (.inr (5, 0))]) (σ' := σ) 1 rfl ?_
  refine zX_call rfl rfl ?_
  refine zf_48 o1 ?_
  · skip
    refine zX_run (n' := 36) (ls' := [some (.inr (.inr (5, 0)))]) (st' := [.inl (-20), .inr (.inr (5, 0))]) (σ' := σ) 2 rfl ?_
    refine zX_call rfl rfl ?_
    refine zf_44 o1 o2 ?_
    · skip
      refine zX_run (n' := 39) (ls' := [some (.inr (.inr (5, 0)))]) (st' := [.inl (-21), .inr (.inr (5, 0))]) (σ' := σ) 2 rfl ?_
      refine zX_call rfl rfl ?_
      refine zf_44 o1 o3 ?_
      · skip
        exact zX_ret0 rfl rfl h1
theorem zt_32_32 {d : Nat} {σ : zS} {Q : Option zV → zS → Prop} (q : ¬ σ.1 5 0 2 = -1) (h : Q none σ) : zX (d + 40) 32 32 [some (.inr (.inr (5, 0)))] [] σ Q := zg_32_32 q (by decide) (by decide) h
-- X5_parse
theorem zg_32_34 {d : Nat} {σ : zS} {Q : Option zV → zS → Prop} 
    (o1 : ¬ σ.1 5 0 2 = -1)
    (o2 : ¬ (-22) = (-20 : Int))
    (o3 : ¬ (-22) = (-21 : Int))
    (h1 : Q (none) σ) :
    zX (d + 40) 32 34 [some (.inr (.inr (5, 0)))] [] σ Q := by
  refine zX_run (n' := 36) (ls' := [some (.inr (.inr (5, 0)))]) (st' := [.inl (-20), .inr (.inr (5, 0))]) (σ' := σ) 2 rfl ?_
  refine zX_call rfl rfl ?_
  refine zf_44 o1 o2 ?_
  · skip
    refine zX_run (n' := 39) (ls' := [some (.inr (.inr (5, 0)))]) (st' := [.inl (-21), .inr (.inr (5, 0))]) (σ' := σ) 2 rfl ?_
    refine zX_call rfl rfl ?_
    refine zf_44 o1 o3 ?_
    · skip
      exact zX_ret0 rfl rfl h1
theorem zt_32_34 {d : Nat} {σ : zS} {Q : Option zV → zS → Prop} (q : ¬ σ.1 5 0 2 = -1) (h : Q none σ) : zX (d + 40) 32 34 [some (.inr (.inr (5, 0)))] [] σ Q := zg_32_34 q (by decide) (by decide) h
-- X5_parse
theorem zg_32_37 {d : Nat} {σ : zS} {Q : Option zV → zS → Prop} 
    (o1 : ¬ σ.1 5 0 2 = -1)
    (o2 : ¬ (-22) = (-21 : Int))
    (h1 : Q (none) σ) :
    zX (d + 40) 32 37 [some (.inr (.inr (5, 0)))] [] σ Q := by
  refine zX_run (n' := 39) (ls' := [some (.inr (.inr (5, 0)))]) (st' := [.inl (-21), .inr (.inr (5, 0))]) (σ' := σ) 2 rfl ?_
  refine zX_call rfl rfl ?_
  refine zf_44 o1 o2 ?_
  · skip
    exact zX_ret0 rfl rfl h1
theorem zt_32_37 {d : Nat} {σ : zS} {Q : Option zV → zS → Prop} (q : ¬ σ.1 5 0 2 = -1) (h : Q none σ) : zX (d + 40) 32 37 [some (.inr (.inr (5, 0)))] [] σ Q := zg_32_37 q (by decide) h
/-- the reading of a text by the reference's rules: a fault at the j-th token; a text with its steps, newest first -/
abbrev qS0 (c : List Int) : qS := ⟨true, true, [], [0], c⟩
def qTxB (K : Nat → Int) (j : Nat) : Prop := (¬ K 0 = 22 ∧ j = 0) ∨ (K 0 = 22 ∧ (qRun K 1 (qS0 []) j none ∨ ∃ k1 c1, qRun K 1 (qS0 []) k1 (some c1) ∧ ((¬ K (k1 + 1) = 23 ∧ j = k1 + 1) ∨ (K (k1 + 1) = 23 ∧ (qRun K (k1 + 2) (qS0 c1) j none ∨ ∃ k2 c2, qRun K (k1 + 2) (qS0 c1) k2 (some c2) ∧ ¬ K (k2 + 1) = 25 ∧ j = k2 + 1)))))
def qTxG (K : Nat → Int) (c1 c2 : List Int) : Prop := K 0 = 22 ∧ ∃ k1 k2, qRun K 1 (qS0 []) k1 (some c1) ∧ K (k1 + 1) = 23 ∧ qRun K (k1 + 2) (qS0 c1) k2 (some c2) ∧ K (k2 + 1) = 25
theorem cPs_me {T : Nat → Int} {N J : Nat} {me m2 : Int} {G : Nat → Nat → Nat → Int} {k o : Nat} {c : List Int} (C : cPs T N J me G k o c) : cPs T N J m2 (uG G 5 0 9 m2) k o c := by
  obtain ⟨⟨c1, c2, c3, c4, c5⟩, ⟨c6, c7, c8⟩, c9, c10, c11⟩ := C
  exact ⟨⟨c1, c2, c3, c4, rfl⟩, ⟨c6, c7, c8⟩, c9, c10, c11⟩
theorem zp_or {σ : zS} {T : Nat → Int} {N J : Nat} {me : Int} (W : qJ T N J) (d : Nat) (G : Nat → Nat → Nat → Int) (k : Nat) (c : List Int) (Q : Option zV → zS → Prop) (C : cPs T N J me G k 0 c)
    (hbad : ∀ j G2, qBad (qK T N) 1 0 k c j → cFt T N J G2 j → Q none (zQ σ G2))
    (hok : ∀ k1 D e1 G2, qOk (qK T N) 1 0 k c k1 (D.reverse ++ c) e1 → pPost 1 (qK T N k1) e1 → qHs D → (∀ x, x ∈ D → qCv x) → k < k1 → D.length + k ≤ k1 → cPs T N J me G2 k1 0 (D.reverse ++ c) → Q none (zQ σ G2)) :
    zM (d + 38) 48 [.inr (.inr (5, 0))] (zQ σ G) Q := (zp_all W 5).1 d 0 G k c Q rfl C hbad hok
theorem zs_32 {d : Nat} {σ : zS} {Q : Option zV → zS → Prop} {T : Nat → Int} {N : Nat} (hT : cTp σ T N)
    (hbad : ∀ G j, qTxB (qK T N) j → G 5 0 2 = (qP T N j : Int) → Q none (zQ σ G))
    (hok : ∀ G D1 D2, qTxG (qK T N) (D1.reverse ++ []) (D2.reverse ++ (D1.reverse ++ [])) → qHs D1 → qHs D2 → (∀ x, x ∈ D1 → qCv x) → (∀ x, x ∈ D2 → qCv x) → (G 5 0 2 = -1 ∧ G 5 0 8 = ((D2.reverse ++ (D1.reverse ++ [])).length : Int) ∧ G 5 0 9 = ((D1.reverse ++ []).length : Int)) →
      (D2.reverse ++ (D1.reverse ++ [])).length ≤ N → (∀ i, i < (D2.reverse ++ (D1.reverse ++ [])).length → G 31 0 i = qRC (qCl (D2.reverse ++ (D1.reverse ++ [])) i)) → ((G 5 0 10 = 0 ∨ G 5 0 10 = 1) ∧ (G 5 0 10 = 0 → ∀ x, x ∈ (D2.reverse ++ (D1.reverse ++ [])) → ¬ x = 3)) → Q none (zQ σ G)) :
    zM (d + 40) 32 [.inr (.inr (5, 0))] σ Q := by
  refine zX_run (n' := 1) (ls' := [some (.inr (.inr (5, 0)))]) (st' := [.inr (.inr (5, 0))]) (σ' := σ) 1 rfl ?_
  refine zX_call rfl rfl ?_
  refine zs_34 hT (fun G J hJ hPJ hi tk g5 g31 => ?_)
  have W : qJ T N J := ⟨hT.2.1, hJ, hPJ, hi⟩
  refine zX_run (n' := 19) (ls' := [some (.inr (.inr (5, 0)))]) (st' := [.inl (-16), .inr (.inr (5, 0))]) (σ' := zU (zU (zU (zU (zU (zQ σ G) 5 0 5 0) 5 0 6 0) 5 0 8 0) 5 0 10 0) 5 0 2 (-1)) 17 rfl ?_
  rw [zQ_5, zQ_5, zQ_5, zQ_5, zQ_5]
  have C0 : cPs T N J (G 5 0 9) (uG (uG (uG (uG (uG G 5 0 5 0) 5 0 6 0) 5 0 8 0) 5 0 10 0) 5 0 2 (-1)) 0 0 [] := ⟨⟨rfl, rfl, rfl, rfl, rfl⟩, ⟨Nat.zero_le _, Nat.le_refl _, by decide⟩, fun i hi => absurd hi (Nat.not_lt_zero _), ⟨.inl rfl, fun _ x hx => (by cases hx)⟩, tk⟩
  refine zX_call rfl rfl ?_
  refine zq_44 (t := 22) W C0 (by unfold qTv; omega) (by decide) (fun e0 _ lt G1 C1 => ?_) (fun _ e => absurd e (by decide)) (fun ne G1 F => ?_)
  rotate_left
  · refine zt_32_20 (cFt_nf F) ?_
    rw [zQ_5]
    exact hbad _ 0 (.inl ⟨ne, rfl⟩) F.2
  refine zX_run (n' := 21) (ls' := [some (.inr (.inr (5, 0)))]) (st' := [.inr (.inr (5, 0))]) (σ' := zQ σ G1) 1 rfl ?_
  refine zX_call rfl rfl ?_
  refine zp_or W _ G1 1 [] _ C1 (fun j G2 B F => ?_) (fun k1 D1 e1 G2 A P Hs Cv hk hl C2 => ?_)
  · refine zt_32_22 (cFt_nf F) ?_
    rw [zQ_5]
    exact hbad _ j (.inr ⟨e0, .inl (qE_bad B)⟩) F.2
  refine zX_run (n' := 24) (ls' := [some (.inr (.inr (5, 0)))]) (st' := [.inl (-20), .inr (.inr (5, 0))]) (σ' := zQ σ G2) 2 rfl ?_
  refine zX_call rfl rfl ?_
  refine zq_44 (t := 21) W C2 (by unfold qTv; omega) (by decide) (fun e1 _ lt2 G3 C3 => ?_) (fun _ e => absurd e (by decide)) (fun ne G3 F => ?_)
  rotate_left
  · refine zt_32_25 (cFt_nf F) ?_
    rw [zQ_5]
    exact hbad _ k1 (.inr ⟨e0, .inl (qE_no A P ne)⟩) F.2
  have R1 := qE_ok A e1
  refine zX_run (n' := 31) (ls' := [some (.inr (.inr (5, 0)))]) (st' := [.inl (-17), .inr (.inr (5, 0))]) (σ' := zU (zQ σ G3) 5 0 9 ((zQ σ G3).1 5 0 8)) 6 rfl ?_
  have us : (zQ σ G3).1 5 0 8 = ((D1.reverse ++ []).length : Int) := C3.1.2.2.2.1
  rw [us, zQ_5]
  refine zX_call rfl rfl ?_
  refine zq_44 (t := 23) W (cPs_me C3) (by unfold qTv; omega) (by decide) (fun e2 _ lt3 G5 C5 => ?_) (fun _ e => absurd e (by decide)) (fun ne G5 F => ?_)
  rotate_left
  · exact zt_32_32 (cFt_nf F) (hbad _ (k1 + 1) (.inr ⟨e0, .inr ⟨k1, _, R1, .inl ⟨ne, rfl⟩⟩⟩) F.2)
  refine zX_run (n' := 33) (ls' := [some (.inr (.inr (5, 0)))]) (st' := [.inr (.inr (5, 0))]) (σ' := zQ σ G5) 1 rfl ?_
  refine zX_call rfl rfl ?_
  refine zp_or W _ G5 (k1 + 2) (D1.reverse ++ []) _ C5 (fun j G2 B F => ?_) (fun k2 D2 e3 G6 A2 P2 Hs2 Cv2 hk2 hl2 C6 => ?_)
  · exact zt_32_34 (cFt_nf F) (hbad _ j (.inr ⟨e0, .inr ⟨k1, _, R1, .inr ⟨e2, .inl (qE_bad B)⟩⟩⟩) F.2)
  refine zX_run (n' := 36) (ls' := [some (.inr (.inr (5, 0)))]) (st' := [.inl (-20), .inr (.inr (5, 0))]) (σ' := zQ σ G6) 2 rfl ?_
  refine zX_call rfl rfl ?_
  refine zq_44 (t := 21) W C6 (by unfold qTv; omega) (by decide) (fun e4 _ lt4 G7 C7 => ?_) (fun _ e => absurd e (by decide)) (fun ne G7 F => ?_)
  rotate_left
  · exact zt_32_37 (cFt_nf F) (hbad _ k2 (.inr ⟨e0, .inr ⟨k1, _, R1, .inr ⟨e2, .inl (qE_no A2 P2 ne)⟩⟩⟩) F.2)
  have R2 := qE_ok A2 e4
  refine zX_run (n' := 39) (ls' := [some (.inr (.inr (5, 0)))]) (st' := [.inl (-21), .inr (.inr (5, 0))]) (σ' := zQ σ G7) 2 rfl ?_
  refine zX_call rfl rfl ?_
  refine zq_44 (t := 25) W C7 (by unfold qTv; omega) (by decide) (fun _ n25 => absurd rfl n25) (fun e5 _ => ?_) (fun ne G8 F => ?_)
  · obtain ⟨⟨x1, x2, x3, x4, x5⟩, ⟨x6, x7, x8⟩, x9, x10, x11⟩ := C7
    exact zX_ret0 rfl rfl (hok G7 D1 D2 ⟨e0, k1, k2, R1, e2, R2, e5⟩ Hs Hs2 Cv Cv2 ⟨x1, x4, x5⟩ (by omega) x9 x10)
  · exact zX_ret0 rfl rfl (hbad _ (k2 + 1) (.inr ⟨e0, .inr ⟨k1, _, R1, .inr ⟨e2, .inr ⟨k2, _, R2, ne, rfl⟩⟩⟩⟩) F.2)
-- X5_handOver
theorem zb_33 {d : Nat} {σ : zS} {Q : Option zV → zS → Prop} {t : Nat}
    (o1 : (0 : Int) ≤ 0 ∧ (0 : Int) ≤ 0 ∧ 0 ≤ σ.1 5 0 8 ∧ 0 + σ.1 5 0 8 ≤ (160 : Int) ∧ 0 + σ.1 5 0 8 ≤ (160 : Int))
    (o2 : ((zCp σ 31 0 0 33 t 0 ((σ.1 5 0 8).toNat)).1 5 0 10 : Int) = 0 ∨ ((zCp σ 31 0 0 33 t 0 ((σ.1 5 0 8).toNat)).1 5 0 10 : Int) = 1)
    (h1 : Q (none) (zU (zU (zU (zCp σ 31 0 0 33 t 0 ((σ.1 5 0 8).toNat)) 7 t 1 ((zCp σ 31 0 0 33 t 0 ((σ.1 5 0 8).toNat)).1 5 0 9)) 7 t 2 ((zCp σ 31 0 0 33 t 0 ((σ.1 5 0 8).toNat)).1 5 0 8)) 7 t 3 ((zCp σ 31 0 0 33 t 0 ((σ.1 5 0 8).toNat)).1 5 0 10))) :
    zM (d + 11) 33 [.inr (.inr (5, 0)), .inr (.inr (7, t))] σ Q := by
  refine zX_run (n' := 8) (ls' := [some (.inr (.inr (5, 0))), some (.inr (.inr (7, t)))]) (st' := [.inl (σ.1 5 0 8), .inl 0, .inr (.inr (33, t)), .inl 0, .inr (.inr (31, 0))]) (σ' := σ) 8 rfl ?_
  refine zX_cpy rfl (by omega) rfl ⟨rfl, rfl⟩ (L := 160) (L2 := 160) rfl rfl o1 ?_
  refine zX_run (n' := 20) (ls' := [some (.inr (.inr (5, 0))), some (.inr (.inr (7, t)))]) (st' := [.inl ((zCp σ 31 0 0 33 t 0 ((σ.1 5 0 8).toNat)).1 5 0 10), .inr (.inr (7, t))]) (σ' := (zU (zU (zCp σ 31 0 0 33 t 0 ((σ.1 5 0 8).toNat)) 7 t 1 ((zCp σ 31 0 0 33 t 0 ((σ.1 5 0 8).toNat)).1 5 0 9)) 7 t 2 ((zCp σ 31 0 0 33 t 0 ((σ.1 5 0 8).toNat)).1 5 0 8))) 11 rfl ?_
  refine zX_putb rfl rfl o2 ?_
  exact zX_ret0 rfl rfl h1
-- X9_text
theorem zb_83 {d : Nat} {σ : zS} {Q : Option zV → zS → Prop} 
    (h1 : σ.1 8 0 13 < 6 → zX (d + 50) 83 9 [some (.inr (.inr (9, 0)))] [.inr (.inr (5, 0))] σ Q)
    (h2 : ¬ σ.1 8 0 13 < 6 → Q (some (.inl (-4))) σ) :
    zM (d + 50) 83 [.inr (.inr (9, 0))] σ Q := by
  refine zX_run (n' := 4) (ls' := [some (.inr (.inr (9, 0)))]) (st' := [.inl 6, .inl (σ.1 8 0 13)]) (σ' := σ) 4 rfl ?_
  refine zX_c2 rfl (fun a1 => ?_) (fun a1 => ?_)
  · skip
    refine zX_run (n' := 9) (ls' := [some (.inr (.inr (9, 0)))]) (st' := [.inr (.inr (5, 0))]) (σ' := σ) 2 rfl ?_
    exact h1 a1
  · skip
    refine zX_run (n' := 6) (ls' := [some (.inr (.inr (9, 0)))]) (st' := [.inl (-4)]) (σ' := σ) 1 rfl ?_
    exact zX_ret rfl rfl (h2 a1)
-- X9_text
theorem zb_83b {d : Nat} {σ : zS} {Q : Option zV → zS → Prop} 
    (o1 : σ.1 5 0 2 = (-1) → (0 : Int) ≤ σ.1 8 0 13 ∧ σ.1 8 0 13 < (6 : Int))
    (h1 : σ.1 5 0 2 = (-1) → zX (d + 50) 83 34 [some (.inr (.inr (9, 0)))] [.inr (.inr (7, 6 * 0 + (σ.1 8 0 13).toNat)), .inr (.inr (5, 0))] (zU σ 5 0 1 0) Q)
    (h2 : ¬ σ.1 5 0 2 = (-1) → Q (some (.inl (zW ((-100) - (σ.1 5 0 2))))) (zU σ 5 0 1 0)) :
    zX (d + 50) 83 10 [some (.inr (.inr (9, 0)))] [] σ Q := by
  refine zX_run (n' := 18) (ls' := [some (.inr (.inr (9, 0)))]) (st' := [.inl (-1), .inl (σ.1 5 0 2)]) (σ' := (zU σ 5 0 1 0)) 8 rfl ?_
  refine zX_c0 rfl (fun a1 => ?_) (fun a1 => ?_)
  · skip
    refine zX_run (n' := 33) (ls' := [some (.inr (.inr (9, 0)))]) (st' := [.inl (σ.1 8 0 13), .inr (.inr (42, 0)), .inr (.inr (5, 0))]) (σ' := (zU σ 5 0 1 0)) 8 rfl ?_
    refine zX_ald5 (L := 6) rfl (by decide) rfl (o1 a1) ?_
    exact h1 a1
  · skip
    refine zX_run (n' := 24) (ls' := [some (.inr (.inr (9, 0)))]) (st' := [.inl (zW ((-100) - (σ.1 5 0 2)))]) (σ' := (zU σ 5 0 1 0)) 5 rfl ?_
    exact zX_ret rfl rfl (h2 a1)
-- X9_text
theorem zb_83c {d : Nat} {σ : zS} {Q : Option zV → zS → Prop} 
    (h1 : Q (some (.inl (σ.1 8 0 13))) (zU σ 8 0 13 (zW ((σ.1 8 0 13) + 1)))) :
    zX (d + 50) 83 35 [some (.inr (.inr (9, 0)))] [] σ Q := by
  refine zX_run (n' := 43) (ls' := [some (.inr (.inr (9, 0)))]) (st' := [.inl (σ.1 8 0 13)]) (σ' := (zU σ 8 0 13 (zW ((σ.1 8 0 13) + 1)))) 8 rfl ?_
  exact zX_ret rfl rfl h1
