-- the class reads the parts of a text (wip/whole/gen/a07.py)
/-- the method i reads a part of level lv -/
def cPx (σ : zS) (T : Nat → Int) (N J : Nat) (me : Int) (i : Nat) (lv : Int) (m b : Nat) : Prop := ∀ (d o : Nat) (G : Nat → Nat → Nat → Int) (k : Nat) (c : List Int) (Q : Option zV → zS → Prop), o + b = 5 → cPs T N J me G k o c →
  (∀ j G2, qBad (qK T N) lv o k c j → cFt T N J G2 j → Q none (zQ σ G2)) →
  (∀ k1 D e1 G2, qOk (qK T N) lv o k c k1 (D.reverse ++ c) e1 → pPost lv (qK T N k1) e1 → qHs D → (∀ x, x ∈ D → qCv x) → k < k1 → D.length + k ≤ k1 → cPs T N J me G2 k1 o (D.reverse ++ c) → Q none (zQ σ G2)) →
  zM (d + 6 * b + m) i [.inr (.inr (5, 0))] (zQ σ G) Q
theorem qUp_ok {K : Nat → Int} {t lv lc : Int} {o k k1 : Nat} {c c1 : List Int} {e1 : Int} (T : qTri t lv lc) (A : qOk K lc o k c k1 c1 e1) : qOk K lv o k c k1 c1 e1 := fun mn O e f j r p h => by
  obtain ⟨q1, q2, q3, q4, q5, q6, q7, q8, q9, q10⟩ := qTri_f T
  have p2 := p.2.1
  refine A mn O e f j r ⟨p.1, by omega, fun x => p.2.2.1 (q6.mpr x), fun x => p.2.2.2 (by omega)⟩ ?_
  by_cases hl : lv ≤ 4
  · rw [if_pos hl] at h; rw [if_pos (q6.mp hl)]; exact h
  · rw [if_neg hl] at h; rw [if_neg (fun x => hl (q6.mpr x))]; exact h
theorem qUp_bad {K : Nat → Int} {t lv lc : Int} {o k j : Nat} {c : List Int} (T : qTri t lv lc) (A : qBad K lc o k c j) : qBad K lv o k c j := fun mn O e f p => by
  obtain ⟨q1, q2, q3, q4, q5, q6, q7, q8, q9, q10⟩ := qTri_f T
  have p2 := p.2.1
  exact A mn O e f ⟨p.1, by omega, fun x => p.2.2.1 (q6.mpr x), fun x => p.2.2.2 (by omega)⟩
theorem pPost_8 {s e : Int} : pPost 8 s e := ⟨fun x => absurd x (by decide), fun x => absurd x (by decide), fun x => absurd x (by decide), fun x => absurd x (by decide), fun x => absurd x (by decide)⟩
theorem pPost_dn {t lv lc s e : Int} (T : qTri t lv lc) (p : pPost lc s e) (h : ∀ t', qTri t' lv lc → ¬ s = t') : pPost lv s e := by
  obtain ⟨p1, p2, p3, p4, p5⟩ := p
  rcases T with ⟨rfl, rfl, rfl⟩ | ⟨rfl | rfl, rfl, rfl⟩ | ⟨rfl, rfl, rfl⟩ | ⟨rfl, rfl, rfl⟩
  · exact ⟨fun _ => h 17 (.inl ⟨rfl, rfl, rfl⟩), fun x => absurd x (by decide), fun x => absurd x (by decide), fun x => absurd x (by decide), fun x => absurd x (by decide)⟩
  · exact ⟨fun _ => p1 (by decide), fun _ => ⟨h 15 (.inr (.inl ⟨.inl rfl, rfl, rfl⟩)), h 16 (.inr (.inl ⟨.inr rfl, rfl, rfl⟩))⟩, fun x => absurd x (by decide), fun x => absurd x (by decide), fun x => absurd x (by decide)⟩
  · exact ⟨fun _ => p1 (by decide), fun _ => ⟨h 15 (.inr (.inl ⟨.inl rfl, rfl, rfl⟩)), h 16 (.inr (.inl ⟨.inr rfl, rfl, rfl⟩))⟩, fun x => absurd x (by decide), fun x => absurd x (by decide), fun x => absurd x (by decide)⟩
  · exact ⟨fun _ => p1 (by decide), fun _ => p2 (by decide), fun _ => p3 (by decide), fun _ => h 11 (.inr (.inr (.inl ⟨rfl, rfl, rfl⟩))), fun x => absurd x (by decide)⟩
  · exact ⟨fun _ => p1 (by decide), fun _ => p2 (by decide), fun _ => p3 (by decide), fun _ => p4 (by decide), fun _ => h 10 (.inr (.inr (.inr ⟨rfl, rfl, rfl⟩)))⟩
theorem qCv_app {A B : List Int} {t : Int} (ha : ∀ x, x ∈ A → qCv x) (hb : ∀ x, x ∈ B → qCv x) (ht : qCv t) : ∀ x, x ∈ A ++ B ++ [t] → qCv x := fun x hx => by
  rcases List.mem_append.mp hx with h | h
  · rcases List.mem_append.mp h with h | h
    · exact ha x h
    · exact hb x h
  · rw [List.mem_singleton.mp h]; exact ht
theorem qRev {A B c : List Int} {t : Int} : (A ++ B ++ [t]).reverse ++ c = t :: (B.reverse ++ (A.reverse ++ c)) := by simp
theorem qLn {A c : List Int} : (A.reverse ++ c).length = A.length + c.length := by simp
theorem qLn3 {A B : List Int} {t : Int} : (A ++ B ++ [t]).length = A.length + B.length + 1 := by simp; omega
theorem qCv_1 {A : List Int} {t : Int} (ha : ∀ x, x ∈ A → qCv x) (ht : qCv t) : ∀ x, x ∈ A ++ [t] → qCv x := fun x hx => by
  rcases List.mem_append.mp hx with h | h
  · exact ha x h
  · rw [List.mem_singleton.mp h]; exact ht
theorem zl_52 {σ : zS} {T : Nat → Int} {N J : Nat} {me : Int} {d b o : Nat} (W : qJ T N J) (IH : cPx σ T N J me 53 8 3 b) (hb : o + b = 5) {k : Nat} {c : List Int} {Q : Option zV → zS → Prop}
    (hbad : ∀ j G2, qBad (qK T N) 6 o k c j → cFt T N J G2 j → Q none (zQ σ G2)) (hok : ∀ k1 D e1 G2, qOk (qK T N) 6 o k c k1 (D.reverse ++ c) e1 → pPost 6 (qK T N k1) e1 → qHs D → (∀ x, x ∈ D → qCv x) → k < k1 → D.length + k ≤ k1 → cPs T N J me G2 k1 o (D.reverse ++ c) → Q none (zQ σ G2)) :
    ∀ (f i k1 : Nat) (D : List Int) (e1 : Int) (G : Nat → Nat → Nat → Int), i + f = 160 → i ≤ k1 → qOk (qK T N) 6 o k c k1 (D.reverse ++ c) e1 → pPost 8 (qK T N k1) e1 → qHs D → (∀ x, x ∈ D → qCv x) → k < k1 → D.length + k ≤ k1 → cPs T N J me G k1 o (D.reverse ++ c) →
    zX (d + 6 * b + 4) 52 4 [some (.inr (.inr (5, 0))), some (.inl (i : Int))] [] (zQ σ G) Q := by
  have T0 : qTri 17 6 8 := .inl ⟨rfl, rfl, rfl⟩
  have w1 := W.1
  have w2 := W.2.1
  intro f
  induction f with
  | zero =>
    intro i k1 D e1 G hf hi A P Hs Cv hk hl C
    have kJ := C.2.1.1
    have n : qK T N k1 = 25 := (qJ_end W kJ).mpr (by omega)
    refine zX_run (n' := 6) (ls' := [some (.inr (.inr (5, 0))), some (.inl (i : Int))]) (st' := [.inl 160, .inl (i : Int)]) (σ' := zQ σ G) 2 rfl ?_
    refine zX_c3 rfl (fun _ => ?_) (fun a => absurd (by omega) a)
    exact zX_ret0 rfl rfl (hok k1 D e1 G A (pPost_dn T0 P (fun t2 h2 => by rcases h2 with ⟨rfl, q, _⟩ | ⟨rfl | rfl, q, _⟩ | ⟨rfl, q, _⟩ | ⟨rfl, q, _⟩ <;> first | exact (by rw [n]; decide) | (exact absurd q (by decide)))) Hs Cv hk hl C)
  | succ f ih =>
    intro i k1 D e1 G hf hi A P Hs Cv hk hl C
    have kJ := C.2.1.1
    have hC := C.2.1.2.1
    rw [qLn] at hC
    refine zX_run (n' := 6) (ls' := [some (.inr (.inr (5, 0))), some (.inl (i : Int))]) (st' := [.inl 160, .inl (i : Int)]) (σ' := zQ σ G) 2 rfl ?_
    refine zX_c3 rfl (fun a => absurd a (by omega)) (fun _ => ?_)
    refine zX_run (n' := 9) (ls' := [some (.inr (.inr (5, 0))), some (.inl (i : Int))]) (st' := [.inl (-14), .inr (.inr (5, 0))]) (σ' := zQ σ G) 2 rfl ?_
    refine zX_call rfl rfl ?_
    refine zq_43 (t := 17) W C (by unfold qTv; omega) (by decide) (by decide) (fun hK lt G1 C1 => ?_) (fun hK => ?_)
    · refine zX_i0 rfl (fun a => absurd a (by decide)) (fun _ => ?_)
      refine zX_run (n' := 12) (ls' := [some (.inr (.inr (5, 0))), some (.inl (i : Int))]) (st' := [.inr (.inr (5, 0))]) (σ' := zQ σ G1) 1 rfl ?_
      refine zX_call rfl rfl ?_
      refine IH d o G1 (k1 + 1) (D.reverse ++ c) _ hb C1 (fun j G2 B F => ?_) (fun k2 D2 e2 G2 A2 P2 Hs2 Cv2 hk2 hl2 C2 => ?_)
      · refine zX_run (n' := 15) (ls' := [some (.inr (.inr (5, 0))), some (.inl (i : Int))]) (st' := [.inl (-14), .inr (.inr (5, 0))]) (σ' := zQ σ G2) 2 rfl ?_
        refine zX_call rfl rfl ?_
        refine zf_46 (cFt_nf F) ?_
        refine zX_run (n' := 6) (ls' := [some (.inr (.inr (5, 0))), some (.inl (zW ((i : Int) + 1)))]) (st' := [.inl 160, .inl (zW ((i : Int) + 1))]) (σ' := zQ σ G2) 4 rfl ?_
        have fin : Q none (zQ σ G2) := hbad j G2 (qBin_bad T0 A hK B) F
        refine zX_c3 rfl (fun _ => zX_ret0 rfl rfl fin) (fun _ => ?_)
        refine zX_run (n' := 9) (ls' := [some (.inr (.inr (5, 0))), some (.inl (zW ((i : Int) + 1)))]) (st' := [.inl (-14), .inr (.inr (5, 0))]) (σ' := zQ σ G2) 2 rfl ?_
        refine zX_call rfl rfl ?_
        refine zf_43 (cFt_nf F) (by decide) ?_
        exact zX_i0 rfl (fun _ => zX_ret0 rfl rfl fin) (fun a => absurd rfl a)
      · refine zX_run (n' := 15) (ls' := [some (.inr (.inr (5, 0))), some (.inl (i : Int))]) (st' := [.inl (-14), .inr (.inr (5, 0))]) (σ' := zQ σ G2) 2 rfl ?_
        refine zX_call rfl rfl ?_
        refine zq_46 (t := 17) W C2 (by rw [qLn, qLn]; omega) (by unfold qCv; omega) (by decide) (fun G3 C3 => ?_)
        refine zX_run (n' := 4) (ls' := [some (.inr (.inr (5, 0))), some (.inl (zW ((i : Int) + 1)))]) (st' := []) (σ' := zQ σ G3) 2 rfl ?_
        rw [qW1 (by omega)]
        rw [← qRev] at C3
        refine ih (i + 1) k2 (D ++ D2 ++ [17]) e2 G3 (by omega) (by omega) ?_ P2 (qHs_bin Hs Hs2 (by omega)) (qCv_app Cv Cv2 (by unfold qCv; omega)) (by omega) (by rw [qLn3]; omega) C3
        rw [qRev]; exact qBin_ok T0 A hK A2 P2
    · exact zX_i0 rfl (fun _ => zX_ret0 rfl rfl (hok k1 D e1 G A (pPost_dn T0 P (fun t2 h2 => by rcases h2 with ⟨rfl, q, _⟩ | ⟨rfl | rfl, q, _⟩ | ⟨rfl, q, _⟩ | ⟨rfl, q, _⟩ <;> first | exact hK | (exact absurd q (by decide)))) Hs Cv hk hl C)) (fun a => absurd rfl a)
theorem zp_52 {σ : zS} {T : Nat → Int} {N J : Nat} {me : Int} {b : Nat} (W : qJ T N J) (IH : cPx σ T N J me 53 8 3 b) : cPx σ T N J me 52 6 4 b := by
  intro d o G k c Q hb C hbad hok
  have T0 : qTri 17 6 8 := .inl ⟨rfl, rfl, rfl⟩
  refine zX_run (n' := 1) (ls' := [some (.inr (.inr (5, 0))), none]) (st' := [.inr (.inr (5, 0))]) (σ' := zQ σ G) 1 rfl ?_
  refine zX_call rfl rfl ?_
  refine IH d o G k c _ hb C (fun j G2 B F => ?_) (fun k1 D e1 G1 A P Hs Cv hk hl C1 => ?_)
  · refine zX_run (n' := 9) (ls' := [some (.inr (.inr (5, 0))), some (.inl 0)]) (st' := [.inl (-14), .inr (.inr (5, 0))]) (σ' := zQ σ G2) 7 rfl ?_
    refine zX_call rfl rfl ?_
    refine zf_43 (cFt_nf F) (by decide) ?_
    exact zX_i0 rfl (fun _ => zX_ret0 rfl rfl (hbad j G2 (qUp_bad T0 B) F)) (fun a => absurd rfl a)
  · refine zX_run (n' := 4) (ls' := [some (.inr (.inr (5, 0))), some (.inl 0)]) (st' := []) (σ' := zQ σ G1) 2 rfl ?_
    exact zl_52 W IH hb hbad hok 160 0 k1 D e1 G1 rfl (Nat.zero_le _) (qUp_ok T0 A) P Hs Cv hk hl C1
theorem zl_51 {σ : zS} {T : Nat → Int} {N J : Nat} {me : Int} {d b o : Nat} (W : qJ T N J) (IH : cPx σ T N J me 52 6 4 b) (hb : o + b = 5) {k : Nat} {c : List Int} {Q : Option zV → zS → Prop}
    (hbad : ∀ j G2, qBad (qK T N) 5 o k c j → cFt T N J G2 j → Q none (zQ σ G2)) (hok : ∀ k1 D e1 G2, qOk (qK T N) 5 o k c k1 (D.reverse ++ c) e1 → pPost 5 (qK T N k1) e1 → qHs D → (∀ x, x ∈ D → qCv x) → k < k1 → D.length + k ≤ k1 → cPs T N J me G2 k1 o (D.reverse ++ c) → Q none (zQ σ G2)) :
    ∀ (f i k1 : Nat) (D : List Int) (e1 : Int) (G : Nat → Nat → Nat → Int), i + f = 160 → i ≤ k1 → qOk (qK T N) 5 o k c k1 (D.reverse ++ c) e1 → pPost 6 (qK T N k1) e1 → qHs D → (∀ x, x ∈ D → qCv x) → k < k1 → D.length + k ≤ k1 → cPs T N J me G k1 o (D.reverse ++ c) →
    zX (d + 6 * b + 5) 51 7 [some (.inr (.inr (5, 0))), some (.inl (qRC (qK T N k1))), some (.inl (i : Int))] [] (zQ σ G) Q := by
  have T0 : qTri 15 5 6 := .inr (.inl ⟨.inl rfl, rfl, rfl⟩)
  have w1 := W.1
  have w2 := W.2.1
  intro f
  induction f with
  | zero =>
    intro i k1 D e1 G hf hi A P Hs Cv hk hl C
    have kJ := C.2.1.1
    have n : qK T N k1 = 25 := (qJ_end W kJ).mpr (by omega)
    refine zX_run (n' := 9) (ls' := [some (.inr (.inr (5, 0))), some (.inl (qRC (qK T N k1))), some (.inl (i : Int))]) (st' := [.inl 160, .inl (i : Int)]) (σ' := zQ σ G) 2 rfl ?_
    refine zX_c3 rfl (fun _ => ?_) (fun a => absurd (by omega) a)
    refine zX_ret0 rfl rfl (hok k1 D e1 G A (pPost_dn T0 P (fun t2 h2 => ?_)) Hs Cv hk hl C)
    rcases h2 with ⟨rfl, q, _⟩ | ⟨rfl | rfl, q, _⟩ | ⟨rfl, q, _⟩ | ⟨rfl, q, _⟩ <;> rw [n] <;> decide
  | succ f ih =>
    intro i k1 D e1 G hf hi A P Hs Cv hk hl C
    have kJ := C.2.1.1
    have hC := C.2.1.2.1
    rw [qLn] at hC
    have body : ∀ t, (t = 15 ∨ t = 16) → qK T N k1 = t → zX (d + 6 * b + 5) 51 16 [some (.inr (.inr (5, 0))), some (.inl (qRC (qK T N k1))), some (.inl (i : Int))] [] (zQ σ G) Q := fun t ht hK => by
      have T1 : qTri t 5 6 := .inr (.inl ⟨ht, rfl, rfl⟩)
      have cv : qCv (qK T N k1) := by unfold qCv; omega
      refine zX_run (n' := 18) (ls' := [some (.inr (.inr (5, 0))), some (.inl (qRC (qK T N k1))), some (.inl (i : Int))]) (st' := [.inl (qRC (qK T N k1)), .inr (.inr (5, 0))]) (σ' := zQ σ G) 2 rfl ?_
      refine zX_call rfl rfl ?_
      refine zq_43 (t := qK T N k1) W C qK_tv.1 (by omega) rfl (fun _ lt G1 C1 => ?_) (fun e => absurd rfl e)
      refine zX_run (n' := 21) (ls' := [some (.inr (.inr (5, 0))), some (.inl (qRC (qK T N k1))), some (.inl (i : Int))]) (st' := [.inr (.inr (5, 0))]) (σ' := zQ σ G1) 2 rfl ?_
      refine zX_call rfl rfl ?_
      refine IH d o G1 (k1 + 1) (D.reverse ++ c) _ hb C1 (fun j G2 B F => ?_) (fun k2 D2 e2 G2 A2 P2 Hs2 Cv2 hk2 hl2 C2 => ?_)
      · have fin : Q none (zQ σ G2) := hbad j G2 (qBin_bad T1 A hK B) F
        refine zX_run (n' := 24) (ls' := [some (.inr (.inr (5, 0))), some (.inl (qRC (qK T N k1))), some (.inl (i : Int))]) (st' := [.inl (qRC (qK T N k1)), .inr (.inr (5, 0))]) (σ' := zQ σ G2) 2 rfl ?_
        refine zX_call rfl rfl ?_
        refine zf_46 (cFt_nf F) ?_
        refine zX_run (n' := 26) (ls' := [some (.inr (.inr (5, 0))), some (.inl (qRC (qK T N k1))), some (.inl (i : Int))]) (st' := [.inr (.inr (5, 0))]) (σ' := zQ σ G2) 1 rfl ?_
        refine zX_call rfl rfl ?_
        refine zf_42 (cFt_nf F) ?_
        refine zX_run (n' := 9) (ls' := [some (.inr (.inr (5, 0))), some (.inl (-22)), some (.inl (zW ((i : Int) + 1)))]) (st' := [.inl 160, .inl (zW ((i : Int) + 1))]) (σ' := zQ σ G2) 5 rfl ?_
        refine zX_c3 rfl (fun _ => zX_ret0 rfl rfl fin) (fun _ => ?_)
        refine zX_run (n' := 30) (ls' := [some (.inr (.inr (5, 0))), some (.inl (-22)), some (.inl (zW ((i : Int) + 1)))]) (st' := []) (σ' := zQ σ G2) 6 rfl ?_
        exact zX_ret0 rfl rfl fin
      · refine zX_run (n' := 24) (ls' := [some (.inr (.inr (5, 0))), some (.inl (qRC (qK T N k1))), some (.inl (i : Int))]) (st' := [.inl (qRC (qK T N k1)), .inr (.inr (5, 0))]) (σ' := zQ σ G2) 2 rfl ?_
        refine zX_call rfl rfl ?_
        refine zq_46 (t := qK T N k1) W C2 (by rw [qLn, qLn]; omega) cv rfl (fun G3 C3 => ?_)
        refine zX_run (n' := 26) (ls' := [some (.inr (.inr (5, 0))), some (.inl (qRC (qK T N k1))), some (.inl (i : Int))]) (st' := [.inr (.inr (5, 0))]) (σ' := zQ σ G3) 1 rfl ?_
        refine zX_call rfl rfl ?_
        refine zq_42 W C3 ?_
        refine zX_run (n' := 7) (ls' := [some (.inr (.inr (5, 0))), some (.inl (qRC (qK T N k2))), some (.inl (zW ((i : Int) + 1)))]) (st' := []) (σ' := zQ σ G3) 3 rfl ?_
        rw [qW1 (by omega)]
        rw [← qRev] at C3
        refine ih (i + 1) k2 (D ++ D2 ++ [qK T N k1]) e2 G3 (by omega) (by omega) ?_ P2 (qHs_bin Hs Hs2 (by omega)) (qCv_app Cv Cv2 cv) (by omega) (by rw [qLn3]; omega) C3
        rw [qRev, hK]; exact qBin_ok T1 A hK A2 P2
    have tv := (qK_tv (T := T) (N := N) (k := k1)).1
    refine zX_run (n' := 9) (ls' := [some (.inr (.inr (5, 0))), some (.inl (qRC (qK T N k1))), some (.inl (i : Int))]) (st' := [.inl 160, .inl (i : Int)]) (σ' := zQ σ G) 2 rfl ?_
    refine zX_c3 rfl (fun a => absurd a (by omega)) (fun _ => ?_)
    refine zX_run (n' := 12) (ls' := [some (.inr (.inr (5, 0))), some (.inl (qRC (qK T N k1))), some (.inl (i : Int))]) (st' := [.inl (-12), .inl (qRC (qK T N k1))]) (σ' := zQ σ G) 2 rfl ?_
    refine zX_c0 rfl (fun a => body 15 (.inl rfl) ((qRC_inj tv 15 (by unfold qTv; omega)).mp a)) (fun a => ?_)
    refine zX_run (n' := 15) (ls' := [some (.inr (.inr (5, 0))), some (.inl (qRC (qK T N k1))), some (.inl (i : Int))]) (st' := [.inl (-13), .inl (qRC (qK T N k1))]) (σ' := zQ σ G) 2 rfl ?_
    refine zX_c1 rfl (fun a2 => ?_) (fun a2 => body 16 (.inr rfl) ((qRC_inj tv 16 (by unfold qTv; omega)).mp a2))
    refine zX_ret0 rfl rfl (hok k1 D e1 G A (pPost_dn T0 P (fun t2 h2 => ?_)) Hs Cv hk hl C)
    rcases h2 with ⟨rfl, q, _⟩ | ⟨rfl | rfl, q, _⟩ | ⟨rfl, q, _⟩ | ⟨rfl, q, _⟩
    · exact absurd q (by decide)
    · exact fun e => a ((qRC_inj tv 15 (by unfold qTv; omega)).mpr e)
    · exact fun e => a2 ((qRC_inj tv 16 (by unfold qTv; omega)).mpr e)
    · exact absurd q (by decide)
    · exact absurd q (by decide)
theorem zp_51 {σ : zS} {T : Nat → Int} {N J : Nat} {me : Int} {b : Nat} (W : qJ T N J) (IH : cPx σ T N J me 52 6 4 b) : cPx σ T N J me 51 5 5 b := by
  intro d o G k c Q hb C hbad hok
  have T0 : qTri 15 5 6 := .inr (.inl ⟨.inl rfl, rfl, rfl⟩)
  refine zX_run (n' := 1) (ls' := [some (.inr (.inr (5, 0))), none, none]) (st' := [.inr (.inr (5, 0))]) (σ' := zQ σ G) 1 rfl ?_
  refine zX_call rfl rfl ?_
  refine IH d o G k c _ hb C (fun j G2 B F => ?_) (fun k1 D e1 G1 A P Hs Cv hk hl C1 => ?_)
  · refine zX_run (n' := 3) (ls' := [some (.inr (.inr (5, 0))), none, none]) (st' := [.inr (.inr (5, 0))]) (σ' := zQ σ G2) 1 rfl ?_
    refine zX_call rfl rfl ?_
    refine zf_42 (cFt_nf F) ?_
    refine zX_run (n' := 30) (ls' := [some (.inr (.inr (5, 0))), some (.inl (-22)), some (.inl 0)]) (st' := []) (σ' := zQ σ G2) 12 rfl ?_
    exact zX_ret0 rfl rfl (hbad j G2 (qUp_bad T0 B) F)
  · refine zX_run (n' := 3) (ls' := [some (.inr (.inr (5, 0))), none, none]) (st' := [.inr (.inr (5, 0))]) (σ' := zQ σ G1) 1 rfl ?_
    refine zX_call rfl rfl ?_
    refine zq_42 W C1 ?_
    refine zX_run (n' := 7) (ls' := [some (.inr (.inr (5, 0))), some (.inl (qRC (qK T N k1))), some (.inl 0)]) (st' := []) (σ' := zQ σ G1) 3 rfl ?_
    exact zl_51 W IH hb hbad hok 160 0 k1 D e1 G1 rfl (Nat.zero_le _) (qUp_ok T0 A) P Hs Cv hk hl C1
theorem zp_50 {σ : zS} {T : Nat → Int} {N J : Nat} {me : Int} {b : Nat} (W : qJ T N J) (IH : cPx σ T N J me 51 5 5 b) (IR : ∀ b2, b = b2 + 1 → cPx σ T N J me 50 4 6 b2) : cPx σ T N J me 50 4 6 b := by
  intro d o G k c Q hb C hbad hok
  have tv := (qK_tv (T := T) (N := N) (k := k)).1
  have hC0 := C.2.1.2.1
  refine zX_run (n' := 1) (ls' := [some (.inr (.inr (5, 0))), none]) (st' := [.inr (.inr (5, 0))]) (σ' := zQ σ G) 1 rfl ?_
  refine zX_call rfl rfl ?_
  refine zq_42 W C ?_
  refine zX_run (n' := 3) (ls' := [some (.inr (.inr (5, 0))), none]) (st' := [.inl (-9), .inl (qRC (qK T N k))]) (σ' := zQ σ G) 1 rfl ?_
  refine zX_c1 rfl (fun a => ?_) (fun a => ?_)
  · have hk : ¬ qK T N k = 12 := fun e => a ((qRC_inj tv 12 (by unfold qTv; omega)).mpr e)
    refine zX_run (n' := 21) (ls' := [some (.inr (.inr (5, 0))), none]) (st' := [.inr (.inr (5, 0))]) (σ' := zQ σ G) 1 rfl ?_
    refine zX_call rfl rfl ?_
    refine IH d o G k c _ hb C (fun j G2 B F => ?_) (fun k1 D e1 G1 A P Hs Cv hkk hl C1 => ?_)
    · refine zX_run (n' := 23) (ls' := [some (.inr (.inr (5, 0))), none]) (st' := [.inr (.inr (5, 0))]) (σ' := zQ σ G2) 1 rfl ?_
      refine zX_call rfl rfl ?_
      refine zf_42 (cFt_nf F) ?_
      refine zX_run (n' := 40) (ls' := [some (.inr (.inr (5, 0))), some (.inl (-22))]) (st' := []) (σ' := zQ σ G2) 7 rfl ?_
      exact zX_ret0 rfl rfl (hbad j G2 (qNot_bad hk B) F)
    · have hC := C1.2.1.2.1
      rw [qLn] at hC
      have tv1 := (qK_tv (T := T) (N := N) (k := k1)).1
      have body : (qK T N k1 = 13 ∨ qK T N k1 = 14) → zX (d + 6 * b + 6) 50 31 [some (.inr (.inr (5, 0))), some (.inl (qRC (qK T N k1)))] [] (zQ σ G1) Q := fun ht => by
        have cv : qCv (qK T N k1) := by unfold qCv; omega
        refine zX_run (n' := 33) (ls' := [some (.inr (.inr (5, 0))), some (.inl (qRC (qK T N k1)))]) (st' := [.inl (qRC (qK T N k1)), .inr (.inr (5, 0))]) (σ' := zQ σ G1) 2 rfl ?_
        refine zX_call rfl rfl ?_
        refine zq_43 (t := qK T N k1) W C1 tv1 (by omega) rfl (fun _ lt G3 C3 => ?_) (fun e => absurd rfl e)
        refine zX_run (n' := 36) (ls' := [some (.inr (.inr (5, 0))), some (.inl (qRC (qK T N k1)))]) (st' := [.inr (.inr (5, 0))]) (σ' := zQ σ G3) 2 rfl ?_
        refine zX_call rfl rfl ?_
        refine IH d o G3 (k1 + 1) (D.reverse ++ c) _ hb C3 (fun j G2 B F => ?_) (fun k2 D2 e2 G2 A2 P2 Hs2 Cv2 hk2 hl2 C2 => ?_)
        · refine zX_run (n' := 39) (ls' := [some (.inr (.inr (5, 0))), some (.inl (qRC (qK T N k1)))]) (st' := [.inl (qRC (qK T N k1)), .inr (.inr (5, 0))]) (σ' := zQ σ G2) 2 rfl ?_
          refine zX_call rfl rfl ?_
          exact zf_46 (cFt_nf F) (zX_ret0 rfl rfl (hbad j G2 (qCmp_bad hk A ht B) F))
        · refine zX_run (n' := 39) (ls' := [some (.inr (.inr (5, 0))), some (.inl (qRC (qK T N k1)))]) (st' := [.inl (qRC (qK T N k1)), .inr (.inr (5, 0))]) (σ' := zQ σ G2) 2 rfl ?_
          refine zX_call rfl rfl ?_
          refine zq_46 (t := qK T N k1) W C2 (by rw [qLn, qLn]; omega) cv rfl (fun G4 C4 => zX_ret0 rfl rfl ?_)
          rw [← qRev] at C4
          obtain ⟨A4, P4⟩ := qCmp_ok hk A ht A2 P2
          refine hok k2 (D ++ D2 ++ [qK T N k1]) 1 G4 ?_ P4 (qHs_bin Hs Hs2 (by omega)) (qCv_app Cv Cv2 cv) (by omega) (by rw [qLn3]; omega) C4
          rw [qRev]; exact A4
      refine zX_run (n' := 23) (ls' := [some (.inr (.inr (5, 0))), none]) (st' := [.inr (.inr (5, 0))]) (σ' := zQ σ G1) 1 rfl ?_
      refine zX_call rfl rfl ?_
      refine zq_42 W C1 ?_
      refine zX_run (n' := 27) (ls' := [some (.inr (.inr (5, 0))), some (.inl (qRC (qK T N k1)))]) (st' := [.inl (-10), .inl (qRC (qK T N k1))]) (σ' := zQ σ G1) 3 rfl ?_
      refine zX_c0 rfl (fun a1 => body (.inl ((qRC_inj tv1 13 (by unfold qTv; omega)).mp a1))) (fun a1 => ?_)
      refine zX_run (n' := 30) (ls' := [some (.inr (.inr (5, 0))), some (.inl (qRC (qK T N k1)))]) (st' := [.inl (-11), .inl (qRC (qK T N k1))]) (σ' := zQ σ G1) 2 rfl ?_
      refine zX_c1 rfl (fun a2 => zX_ret0 rfl rfl ?_) (fun a2 => body (.inr ((qRC_inj tv1 14 (by unfold qTv; omega)).mp a2)))
      have n1 : ¬ qK T N k1 = 13 := fun e => a1 ((qRC_inj tv1 13 (by unfold qTv; omega)).mpr e)
      have n2 : ¬ qK T N k1 = 14 := fun e => a2 ((qRC_inj tv1 14 (by unfold qTv; omega)).mpr e)
      exact hok k1 D 0 G1 (qNot_ok hk A) ⟨fun _ => P.1 (by decide), fun _ => P.2.1 (by decide), fun _ x => x.elim (fun x => absurd x n1) (fun x => absurd x n2), fun x => absurd x (by decide), fun x => absurd x (by decide)⟩ Hs Cv hkk hl C1
  · have hK : qK T N k = 12 := (qRC_inj tv 12 (by unfold qTv; omega)).mp a
    refine zX_run (n' := 6) (ls' := [some (.inr (.inr (5, 0))), none]) (st' := [.inl (-9), .inr (.inr (5, 0))]) (σ' := zQ σ G) 2 rfl ?_
    refine zX_call rfl rfl ?_
    refine zq_47 (t := 12) W C (by unfold qTv; omega) (by decide) (by decide) hK (fun ho lt G1 C1 => ?_) (fun ho G1 F => ?_)
    · refine zX_i0 rfl (fun a => absurd a (by decide)) (fun _ => ?_)
      refine zX_run (n' := 9) (ls' := [some (.inr (.inr (5, 0))), none]) (st' := [.inr (.inr (5, 0))]) (σ' := zQ σ G1) 1 rfl ?_
      obtain ⟨b2, rfl⟩ : ∃ b2, b = b2 + 1 := ⟨b - 1, by omega⟩
      have eb : d + 6 * (b2 + 1) + 6 = d + 5 + 6 * b2 + 6 + 1 := by omega
      rw [eb]
      refine zX_call rfl rfl ?_
      refine IR b2 rfl (d + 5) (o + 1) G1 (k + 1) c _ (by omega) C1 (fun j G2 B F => ?_) (fun k1 D e1 G2 A P Hs Cv hkk hl C2 => ?_)
      · refine zX_run (n' := 18) (ls' := [some (.inr (.inr (5, 0))), none]) (st' := [.inl (-9), .inr (.inr (5, 0))]) (σ' := (zU (zQ σ G2) 5 0 6 (zW (((zQ σ G2).1 5 0 6) - 1)))) 8 rfl ?_
        rw [zQ_5]
        refine zX_call rfl rfl ?_
        refine zf_46 (cFt_nf (j := j) (T := T) (N := N) (J := J) ⟨F.1, F.2⟩) (zX_ret0 rfl rfl (hbad j _ (qNo_bad ho hK B) ⟨F.1, F.2⟩))
      · have hC := C2.2.1.2.1
        rw [qLn] at hC
        have op : (zQ σ G2).1 5 0 6 = ((o + 1 : Nat) : Int) := C2.1.2.2.1
        refine zX_run (n' := 18) (ls' := [some (.inr (.inr (5, 0))), none]) (st' := [.inl (-9), .inr (.inr (5, 0))]) (σ' := (zU (zQ σ G2) 5 0 6 (zW (((zQ σ G2).1 5 0 6) - 1)))) 8 rfl ?_
        rw [op, show zW (((o + 1 : Nat) : Int) - 1) = (o : Int) from by unfold zW; omega, zQ_5]
        refine zX_call rfl rfl ?_
        refine zq_46 (t := 12) W (cPs_op C2 (by omega)) (by rw [qLn]; omega) (by unfold qCv; omega) (by decide) (fun G3 C3 => zX_ret0 rfl rfl ?_)
        have ee : (12 : Int) :: (D.reverse ++ c) = (D ++ [12]).reverse ++ c := by simp
        refine hok k1 (D ++ [12]) e1 G3 ?_ P (qHs_un Hs (.inl rfl)) (qCv_1 Cv (by unfold qCv; omega)) (by omega) (by simp; omega) (by rw [← ee]; exact C3)
        rw [← ee]; exact qNo_ok ho hK A P
    · subst ho
      exact zX_i0 rfl (fun _ => zX_ret0 rfl rfl (hbad k G1 (qIn_full (.inr ⟨rfl, hK⟩)) F)) (fun a => absurd rfl a)
theorem qRC_at {t : Int} (h : qTv t) : ¬ qRC t < -6 ↔ (t < 6 ∨ 100 ≤ t) := by
  unfold qTv at h
  unfold qRC
  (repeat' split) <;> omega
theorem zp_53 {σ : zS} {T : Nat → Int} {N J : Nat} {me : Int} {b : Nat} (W : qJ T N J) (IR : ∀ b2, b = b2 + 1 → cPx σ T N J me 48 1 8 b2 ∧ cPx σ T N J me 53 8 3 b2) : cPx σ T N J me 53 8 3 b := by
  intro d o G k c Q hb C hbad hok
  have tv := (qK_tv (T := T) (N := N) (k := k)).1
  have hC0 := C.2.1.2.1
  refine zX_run (n' := 1) (ls' := [some (.inr (.inr (5, 0))), none]) (st' := [.inr (.inr (5, 0))]) (σ' := zQ σ G) 1 rfl ?_
  refine zX_call rfl rfl ?_
  refine zq_42 W C ?_
  refine zX_run (n' := 5) (ls' := [some (.inr (.inr (5, 0))), some (.inl (qRC (qK T N k)))]) (st' := [.inl (-6), .inl (qRC (qK T N k))]) (σ' := zQ σ G) 3 rfl ?_
  refine zX_c2 rfl (fun a => ?_) (fun a => ?_)
  · have h1 : ¬ (qK T N k < 6 ∨ 100 ≤ qK T N k) := fun x => (qRC_at tv).mpr x a
    refine zX_run (n' := 16) (ls' := [some (.inr (.inr (5, 0))), some (.inl (qRC (qK T N k)))]) (st' := [.inl (-13), .inl (qRC (qK T N k))]) (σ' := zQ σ G) 2 rfl ?_
    refine zX_c1 rfl (fun a2 => ?_) (fun a2 => ?_)
    · have h2 : ¬ qK T N k = 16 := fun e => a2 ((qRC_inj tv 16 (by unfold qTv; omega)).mpr e)
      refine zX_run (n' := 35) (ls' := [some (.inr (.inr (5, 0))), some (.inl (qRC (qK T N k)))]) (st' := [.inl (-18), .inl (qRC (qK T N k))]) (σ' := zQ σ G) 2 rfl ?_
      refine zX_c1 rfl (fun a3 => ?_) (fun a3 => ?_)
      · have h3 : ¬ qK T N k = 19 := fun e => a3 ((qRC_inj tv 19 (by unfold qTv; omega)).mpr e)
        refine zX_run (n' := 53) (ls' := [some (.inr (.inr (5, 0))), some (.inl (qRC (qK T N k)))]) (st' := [.inr (.inr (5, 0))]) (σ' := zQ σ G) 1 rfl ?_
        refine zX_call rfl rfl ?_
        exact zq_45 W C (fun G1 F => zX_ret0 rfl rfl (hbad k G1 (qOne_bad h1 h2 h3) F))
      · have hK : qK T N k = 19 := (qRC_inj tv 19 (by unfold qTv; omega)).mp a3
        refine zX_run (n' := 38) (ls' := [some (.inr (.inr (5, 0))), some (.inl (qRC (qK T N k)))]) (st' := [.inl (-18), .inr (.inr (5, 0))]) (σ' := zQ σ G) 2 rfl ?_
        refine zX_call rfl rfl ?_
        refine zq_47 (t := 19) W C (by unfold qTv; omega) (by decide) (by decide) hK (fun ho lt G1 C1 => ?_) (fun ho G1 F => ?_)
        · refine zX_i0 rfl (fun a => absurd a (by decide)) (fun _ => ?_)
          refine zX_run (n' := 41) (ls' := [some (.inr (.inr (5, 0))), some (.inl (qRC (qK T N k)))]) (st' := [.inr (.inr (5, 0))]) (σ' := zQ σ G1) 1 rfl ?_
          obtain ⟨b2, rfl⟩ : ∃ b2, b = b2 + 1 := ⟨b - 1, by omega⟩
          have eb : d + 6 * (b2 + 1) + 3 = d + 6 * b2 + 8 + 1 := by omega
          rw [eb]
          refine zX_call rfl rfl ?_
          refine (IR b2 rfl).1 d (o + 1) G1 (k + 1) c _ (by omega) C1 (fun j G2 B F => ?_) (fun k1 D e1 G3 A P Hs Cv hkk hl C3 => ?_)
          · refine zX_run (n' := 44) (ls' := [some (.inr (.inr (5, 0))), some (.inl (qRC (qK T N k)))]) (st' := [.inl (-19), .inr (.inr (5, 0))]) (σ' := zQ σ G2) 2 rfl ?_
            refine zX_call rfl rfl ?_
            refine zf_44 (cFt_nf F) (by decide) ?_
            refine zX_run (n' := 54) (ls' := [some (.inr (.inr (5, 0))), some (.inl (qRC (qK T N k)))]) (st' := []) (σ' := (zU (zQ σ G2) 5 0 6 (zW (((zQ σ G2).1 5 0 6) - 1)))) 7 rfl ?_
            rw [zQ_5]
            exact zX_ret0 rfl rfl (hbad j _ (qOp_bad ho hK B) ⟨F.1, F.2⟩)
          · refine zX_run (n' := 44) (ls' := [some (.inr (.inr (5, 0))), some (.inl (qRC (qK T N k)))]) (st' := [.inl (-19), .inr (.inr (5, 0))]) (σ' := zQ σ G3) 2 rfl ?_
            refine zX_call rfl rfl ?_
            refine zq_44 (t := 20) W C3 (by unfold qTv; omega) (by decide) (fun e _ lt2 G2 C2 => ?_) (fun _ e => absurd e (by decide)) (fun ne G2 F => ?_)
            · have op : (zQ σ G2).1 5 0 6 = ((o + 1 : Nat) : Int) := C2.1.2.2.1
              refine zX_run (n' := 54) (ls' := [some (.inr (.inr (5, 0))), some (.inl (qRC (qK T N k)))]) (st' := []) (σ' := (zU (zQ σ G2) 5 0 6 (zW (((zQ σ G2).1 5 0 6) - 1)))) 7 rfl ?_
              rw [op, show zW (((o + 1 : Nat) : Int) - 1) = (o : Int) from by unfold zW; omega, zQ_5]
              exact zX_ret0 rfl rfl (hok (k1 + 1) D 0 _ (qOp_ok ho hK A e) pPost_8 Hs Cv (by omega) (by omega) (cPs_op C2 (by omega)))
            · refine zX_run (n' := 54) (ls' := [some (.inr (.inr (5, 0))), some (.inl (qRC (qK T N k)))]) (st' := []) (σ' := (zU (zQ σ G2) 5 0 6 (zW (((zQ σ G2).1 5 0 6) - 1)))) 7 rfl ?_
              rw [zQ_5]
              exact zX_ret0 rfl rfl (hbad k1 _ (qOp_no ho hK A P ne) ⟨F.1, F.2⟩)
        · subst ho
          exact zX_i0 rfl (fun _ => zX_ret0 rfl rfl (hbad k G1 (qIn_full (.inl ⟨rfl, .inr hK⟩)) F)) (fun a => absurd rfl a)
    · have hK : qK T N k = 16 := (qRC_inj tv 16 (by unfold qTv; omega)).mp a2
      refine zX_run (n' := 19) (ls' := [some (.inr (.inr (5, 0))), some (.inl (qRC (qK T N k)))]) (st' := [.inl (-13), .inr (.inr (5, 0))]) (σ' := zQ σ G) 2 rfl ?_
      refine zX_call rfl rfl ?_
      refine zq_47 (t := 16) W C (by unfold qTv; omega) (by decide) (by decide) hK (fun ho lt G1 C1 => ?_) (fun ho G1 F => ?_)
      · refine zX_i0 rfl (fun a => absurd a (by decide)) (fun _ => ?_)
        refine zX_run (n' := 22) (ls' := [some (.inr (.inr (5, 0))), some (.inl (qRC (qK T N k)))]) (st' := [.inr (.inr (5, 0))]) (σ' := zQ σ G1) 1 rfl ?_
        obtain ⟨b2, rfl⟩ : ∃ b2, b = b2 + 1 := ⟨b - 1, by omega⟩
        have eb : d + 6 * (b2 + 1) + 3 = d + 5 + 6 * b2 + 3 + 1 := by omega
        rw [eb]
        refine zX_call rfl rfl ?_
        refine (IR b2 rfl).2 (d + 5) (o + 1) G1 (k + 1) c _ (by omega) C1 (fun j G2 B F => ?_) (fun k1 D e1 G2 A P Hs Cv hkk hl C2 => ?_)
        · refine zX_run (n' := 31) (ls' := [some (.inr (.inr (5, 0))), some (.inl (qRC (qK T N k)))]) (st' := [.inl (-15), .inr (.inr (5, 0))]) (σ' := (zU (zQ σ G2) 5 0 6 (zW (((zQ σ G2).1 5 0 6) - 1)))) 8 rfl ?_
          rw [zQ_5]
          refine zX_call rfl rfl ?_
          refine zf_46 (cFt_nf (j := j) (T := T) (N := N) (J := J) ⟨F.1, F.2⟩) ?_
          refine zX_run (n' := 54) (ls' := [some (.inr (.inr (5, 0))), some (.inl (qRC (qK T N k)))]) (st' := []) (σ' := (zQ σ (uG G2 5 0 6 (zW (((zQ σ G2).1 5 0 6) - 1))))) 1 rfl ?_
          exact zX_ret0 rfl rfl (hbad j _ (qNeg_bad ho hK B) ⟨F.1, F.2⟩)
        · have hC := C2.2.1.2.1
          rw [qLn] at hC
          have op : (zQ σ G2).1 5 0 6 = ((o + 1 : Nat) : Int) := C2.1.2.2.1
          refine zX_run (n' := 31) (ls' := [some (.inr (.inr (5, 0))), some (.inl (qRC (qK T N k)))]) (st' := [.inl (-15), .inr (.inr (5, 0))]) (σ' := (zU (zQ σ G2) 5 0 6 (zW (((zQ σ G2).1 5 0 6) - 1)))) 8 rfl ?_
          rw [op, show zW (((o + 1 : Nat) : Int) - 1) = (o : Int) from by unfold zW; omega, zQ_5]
          refine zX_call rfl rfl ?_
          refine zq_46 (t := 18) W (cPs_op C2 (by omega)) (by rw [qLn]; omega) (by unfold qCv; omega) (by decide) (fun G3 C3 => ?_)
          refine zX_run (n' := 54) (ls' := [some (.inr (.inr (5, 0))), some (.inl (qRC (qK T N k)))]) (st' := []) (σ' := zQ σ G3) 1 rfl ?_
          have ee : (18 : Int) :: (D.reverse ++ c) = (D ++ [18]).reverse ++ c := by simp
          refine zX_ret0 rfl rfl (hok k1 (D ++ [18]) 0 G3 ?_ pPost_8 (qHs_un Hs (.inr rfl)) (qCv_1 Cv (by unfold qCv; omega)) (by omega) (by simp; omega) (by rw [← ee]; exact C3))
          rw [← ee]; exact qNeg_ok ho hK A
      · subst ho
        exact zX_i0 rfl (fun _ => zX_ret0 rfl rfl (hbad k G1 (qIn_full (.inl ⟨rfl, .inl hK⟩)) F)) (fun a => absurd rfl a)
  · have h := (qRC_at tv).mp a
    have cv : qCv (qK T N k) := by unfold qTv at tv; unfold qCv; omega
    refine zX_run (n' := 8) (ls' := [some (.inr (.inr (5, 0))), some (.inl (qRC (qK T N k)))]) (st' := [.inl (qRC (qK T N k)), .inr (.inr (5, 0))]) (σ' := zQ σ G) 2 rfl ?_
    refine zX_call rfl rfl ?_
    refine zq_43 (t := qK T N k) W C tv (by omega) rfl (fun _ lt G1 C1 => ?_) (fun e => absurd rfl e)
    refine zX_run (n' := 12) (ls' := [some (.inr (.inr (5, 0))), some (.inl (qRC (qK T N k)))]) (st' := [.inl (qRC (qK T N k)), .inr (.inr (5, 0))]) (σ' := zQ σ G1) 3 rfl ?_
    refine zX_call rfl rfl ?_
    refine zq_46 (t := qK T N k) W C1 (by omega) cv rfl (fun G2 C2 => ?_)
    refine zX_run (n' := 54) (ls' := [some (.inr (.inr (5, 0))), some (.inl (qRC (qK T N k)))]) (st' := []) (σ' := zQ σ G2) 1 rfl ?_
    exact zX_ret0 rfl rfl (hok (k + 1) [qK T N k] 0 G2 (qAtom_ok h) pPost_8 (qHs_one (by omega)) (fun x hx => by rw [List.mem_singleton.mp hx]; exact cv) (by omega) (by show 1 + k ≤ k + 1; omega) C2)
theorem zl_49 {σ : zS} {T : Nat → Int} {N J : Nat} {me : Int} {d b o : Nat} (W : qJ T N J) (IH : cPx σ T N J me 50 4 6 b) (hb : o + b = 5) {k : Nat} {c : List Int} {Q : Option zV → zS → Prop}
    (hbad : ∀ j G2, qBad (qK T N) 2 o k c j → cFt T N J G2 j → Q none (zQ σ G2)) (hok : ∀ k1 D e1 G2, qOk (qK T N) 2 o k c k1 (D.reverse ++ c) e1 → pPost 2 (qK T N k1) e1 → qHs D → (∀ x, x ∈ D → qCv x) → k < k1 → D.length + k ≤ k1 → cPs T N J me G2 k1 o (D.reverse ++ c) → Q none (zQ σ G2)) :
    ∀ (f i k1 : Nat) (D : List Int) (e1 : Int) (G : Nat → Nat → Nat → Int), i + f = 160 → i ≤ k1 → qOk (qK T N) 2 o k c k1 (D.reverse ++ c) e1 → pPost 4 (qK T N k1) e1 → qHs D → (∀ x, x ∈ D → qCv x) → k < k1 → D.length + k ≤ k1 → cPs T N J me G k1 o (D.reverse ++ c) →
    zX (d + 6 * b + 7) 49 4 [some (.inr (.inr (5, 0))), some (.inl (i : Int))] [] (zQ σ G) Q := by
  have T0 : qTri 11 2 4 := .inr (.inr (.inl ⟨rfl, rfl, rfl⟩))
  have w1 := W.1
  have w2 := W.2.1
  intro f
  induction f with
  | zero =>
    intro i k1 D e1 G hf hi A P Hs Cv hk hl C
    have kJ := C.2.1.1
    have n : qK T N k1 = 25 := (qJ_end W kJ).mpr (by omega)
    refine zX_run (n' := 6) (ls' := [some (.inr (.inr (5, 0))), some (.inl (i : Int))]) (st' := [.inl 160, .inl (i : Int)]) (σ' := zQ σ G) 2 rfl ?_
    refine zX_c3 rfl (fun _ => ?_) (fun a => absurd (by omega) a)
    exact zX_ret0 rfl rfl (hok k1 D e1 G A (pPost_dn T0 P (fun t2 h2 => by rcases h2 with ⟨rfl, q, _⟩ | ⟨rfl | rfl, q, _⟩ | ⟨rfl, q, _⟩ | ⟨rfl, q, _⟩ <;> first | exact (by rw [n]; decide) | (exact absurd q (by decide)))) Hs Cv hk hl C)
  | succ f ih =>
    intro i k1 D e1 G hf hi A P Hs Cv hk hl C
    have kJ := C.2.1.1
    have hC := C.2.1.2.1
    rw [qLn] at hC
    refine zX_run (n' := 6) (ls' := [some (.inr (.inr (5, 0))), some (.inl (i : Int))]) (st' := [.inl 160, .inl (i : Int)]) (σ' := zQ σ G) 2 rfl ?_
    refine zX_c3 rfl (fun a => absurd a (by omega)) (fun _ => ?_)
    refine zX_run (n' := 9) (ls' := [some (.inr (.inr (5, 0))), some (.inl (i : Int))]) (st' := [.inl (-8), .inr (.inr (5, 0))]) (σ' := zQ σ G) 2 rfl ?_
    refine zX_call rfl rfl ?_
    refine zq_43 (t := 11) W C (by unfold qTv; omega) (by decide) (by decide) (fun hK lt G1 C1 => ?_) (fun hK => ?_)
    · refine zX_i0 rfl (fun a => absurd a (by decide)) (fun _ => ?_)
      refine zX_run (n' := 12) (ls' := [some (.inr (.inr (5, 0))), some (.inl (i : Int))]) (st' := [.inr (.inr (5, 0))]) (σ' := zQ σ G1) 1 rfl ?_
      refine zX_call rfl rfl ?_
      refine IH d o G1 (k1 + 1) (D.reverse ++ c) _ hb C1 (fun j G2 B F => ?_) (fun k2 D2 e2 G2 A2 P2 Hs2 Cv2 hk2 hl2 C2 => ?_)
      · refine zX_run (n' := 15) (ls' := [some (.inr (.inr (5, 0))), some (.inl (i : Int))]) (st' := [.inl (-8), .inr (.inr (5, 0))]) (σ' := zQ σ G2) 2 rfl ?_
        refine zX_call rfl rfl ?_
        refine zf_46 (cFt_nf F) ?_
        refine zX_run (n' := 6) (ls' := [some (.inr (.inr (5, 0))), some (.inl (zW ((i : Int) + 1)))]) (st' := [.inl 160, .inl (zW ((i : Int) + 1))]) (σ' := zQ σ G2) 4 rfl ?_
        have fin : Q none (zQ σ G2) := hbad j G2 (qBin_bad T0 A hK B) F
        refine zX_c3 rfl (fun _ => zX_ret0 rfl rfl fin) (fun _ => ?_)
        refine zX_run (n' := 9) (ls' := [some (.inr (.inr (5, 0))), some (.inl (zW ((i : Int) + 1)))]) (st' := [.inl (-8), .inr (.inr (5, 0))]) (σ' := zQ σ G2) 2 rfl ?_
        refine zX_call rfl rfl ?_
        refine zf_43 (cFt_nf F) (by decide) ?_
        exact zX_i0 rfl (fun _ => zX_ret0 rfl rfl fin) (fun a => absurd rfl a)
      · refine zX_run (n' := 15) (ls' := [some (.inr (.inr (5, 0))), some (.inl (i : Int))]) (st' := [.inl (-8), .inr (.inr (5, 0))]) (σ' := zQ σ G2) 2 rfl ?_
        refine zX_call rfl rfl ?_
        refine zq_46 (t := 11) W C2 (by rw [qLn, qLn]; omega) (by unfold qCv; omega) (by decide) (fun G3 C3 => ?_)
        refine zX_run (n' := 4) (ls' := [some (.inr (.inr (5, 0))), some (.inl (zW ((i : Int) + 1)))]) (st' := []) (σ' := zQ σ G3) 2 rfl ?_
        rw [qW1 (by omega)]
        rw [← qRev] at C3
        refine ih (i + 1) k2 (D ++ D2 ++ [11]) e2 G3 (by omega) (by omega) ?_ P2 (qHs_bin Hs Hs2 (by omega)) (qCv_app Cv Cv2 (by unfold qCv; omega)) (by omega) (by rw [qLn3]; omega) C3
        rw [qRev]; exact qBin_ok T0 A hK A2 P2
    · exact zX_i0 rfl (fun _ => zX_ret0 rfl rfl (hok k1 D e1 G A (pPost_dn T0 P (fun t2 h2 => by rcases h2 with ⟨rfl, q, _⟩ | ⟨rfl | rfl, q, _⟩ | ⟨rfl, q, _⟩ | ⟨rfl, q, _⟩ <;> first | exact hK | (exact absurd q (by decide)))) Hs Cv hk hl C)) (fun a => absurd rfl a)
theorem zp_49 {σ : zS} {T : Nat → Int} {N J : Nat} {me : Int} {b : Nat} (W : qJ T N J) (IH : cPx σ T N J me 50 4 6 b) : cPx σ T N J me 49 2 7 b := by
  intro d o G k c Q hb C hbad hok
  have T0 : qTri 11 2 4 := .inr (.inr (.inl ⟨rfl, rfl, rfl⟩))
  refine zX_run (n' := 1) (ls' := [some (.inr (.inr (5, 0))), none]) (st' := [.inr (.inr (5, 0))]) (σ' := zQ σ G) 1 rfl ?_
  refine zX_call rfl rfl ?_
  refine IH d o G k c _ hb C (fun j G2 B F => ?_) (fun k1 D e1 G1 A P Hs Cv hk hl C1 => ?_)
  · refine zX_run (n' := 9) (ls' := [some (.inr (.inr (5, 0))), some (.inl 0)]) (st' := [.inl (-8), .inr (.inr (5, 0))]) (σ' := zQ σ G2) 7 rfl ?_
    refine zX_call rfl rfl ?_
    refine zf_43 (cFt_nf F) (by decide) ?_
    exact zX_i0 rfl (fun _ => zX_ret0 rfl rfl (hbad j G2 (qUp_bad T0 B) F)) (fun a => absurd rfl a)
  · refine zX_run (n' := 4) (ls' := [some (.inr (.inr (5, 0))), some (.inl 0)]) (st' := []) (σ' := zQ σ G1) 2 rfl ?_
    exact zl_49 W IH hb hbad hok 160 0 k1 D e1 G1 rfl (Nat.zero_le _) (qUp_ok T0 A) P Hs Cv hk hl C1
theorem zl_48 {σ : zS} {T : Nat → Int} {N J : Nat} {me : Int} {d b o : Nat} (W : qJ T N J) (IH : cPx σ T N J me 49 2 7 b) (hb : o + b = 5) {k : Nat} {c : List Int} {Q : Option zV → zS → Prop}
    (hbad : ∀ j G2, qBad (qK T N) 1 o k c j → cFt T N J G2 j → Q none (zQ σ G2)) (hok : ∀ k1 D e1 G2, qOk (qK T N) 1 o k c k1 (D.reverse ++ c) e1 → pPost 1 (qK T N k1) e1 → qHs D → (∀ x, x ∈ D → qCv x) → k < k1 → D.length + k ≤ k1 → cPs T N J me G2 k1 o (D.reverse ++ c) → Q none (zQ σ G2)) :
    ∀ (f i k1 : Nat) (D : List Int) (e1 : Int) (G : Nat → Nat → Nat → Int), i + f = 160 → i ≤ k1 → qOk (qK T N) 1 o k c k1 (D.reverse ++ c) e1 → pPost 2 (qK T N k1) e1 → qHs D → (∀ x, x ∈ D → qCv x) → k < k1 → D.length + k ≤ k1 → cPs T N J me G k1 o (D.reverse ++ c) →
    zX (d + 6 * b + 8) 48 4 [some (.inr (.inr (5, 0))), some (.inl (i : Int))] [] (zQ σ G) Q := by
  have T0 : qTri 10 1 2 := .inr (.inr (.inr ⟨rfl, rfl, rfl⟩))
  have w1 := W.1
  have w2 := W.2.1
  intro f
  induction f with
  | zero =>
    intro i k1 D e1 G hf hi A P Hs Cv hk hl C
    have kJ := C.2.1.1
    have n : qK T N k1 = 25 := (qJ_end W kJ).mpr (by omega)
    refine zX_run (n' := 6) (ls' := [some (.inr (.inr (5, 0))), some (.inl (i : Int))]) (st' := [.inl 160, .inl (i : Int)]) (σ' := zQ σ G) 2 rfl ?_
    refine zX_c3 rfl (fun _ => ?_) (fun a => absurd (by omega) a)
    exact zX_ret0 rfl rfl (hok k1 D e1 G A (pPost_dn T0 P (fun t2 h2 => by rcases h2 with ⟨rfl, q, _⟩ | ⟨rfl | rfl, q, _⟩ | ⟨rfl, q, _⟩ | ⟨rfl, q, _⟩ <;> first | exact (by rw [n]; decide) | (exact absurd q (by decide)))) Hs Cv hk hl C)
  | succ f ih =>
    intro i k1 D e1 G hf hi A P Hs Cv hk hl C
    have kJ := C.2.1.1
    have hC := C.2.1.2.1
    rw [qLn] at hC
    refine zX_run (n' := 6) (ls' := [some (.inr (.inr (5, 0))), some (.inl (i : Int))]) (st' := [.inl 160, .inl (i : Int)]) (σ' := zQ σ G) 2 rfl ?_
    refine zX_c3 rfl (fun a => absurd a (by omega)) (fun _ => ?_)
    refine zX_run (n' := 9) (ls' := [some (.inr (.inr (5, 0))), some (.inl (i : Int))]) (st' := [.inl (-7), .inr (.inr (5, 0))]) (σ' := zQ σ G) 2 rfl ?_
    refine zX_call rfl rfl ?_
    refine zq_43 (t := 10) W C (by unfold qTv; omega) (by decide) (by decide) (fun hK lt G1 C1 => ?_) (fun hK => ?_)
    · refine zX_i0 rfl (fun a => absurd a (by decide)) (fun _ => ?_)
      refine zX_run (n' := 12) (ls' := [some (.inr (.inr (5, 0))), some (.inl (i : Int))]) (st' := [.inr (.inr (5, 0))]) (σ' := zQ σ G1) 1 rfl ?_
      refine zX_call rfl rfl ?_
      refine IH d o G1 (k1 + 1) (D.reverse ++ c) _ hb C1 (fun j G2 B F => ?_) (fun k2 D2 e2 G2 A2 P2 Hs2 Cv2 hk2 hl2 C2 => ?_)
      · refine zX_run (n' := 15) (ls' := [some (.inr (.inr (5, 0))), some (.inl (i : Int))]) (st' := [.inl (-7), .inr (.inr (5, 0))]) (σ' := zQ σ G2) 2 rfl ?_
        refine zX_call rfl rfl ?_
        refine zf_46 (cFt_nf F) ?_
        refine zX_run (n' := 6) (ls' := [some (.inr (.inr (5, 0))), some (.inl (zW ((i : Int) + 1)))]) (st' := [.inl 160, .inl (zW ((i : Int) + 1))]) (σ' := zQ σ G2) 4 rfl ?_
        have fin : Q none (zQ σ G2) := hbad j G2 (qBin_bad T0 A hK B) F
        refine zX_c3 rfl (fun _ => zX_ret0 rfl rfl fin) (fun _ => ?_)
        refine zX_run (n' := 9) (ls' := [some (.inr (.inr (5, 0))), some (.inl (zW ((i : Int) + 1)))]) (st' := [.inl (-7), .inr (.inr (5, 0))]) (σ' := zQ σ G2) 2 rfl ?_
        refine zX_call rfl rfl ?_
        refine zf_43 (cFt_nf F) (by decide) ?_
        exact zX_i0 rfl (fun _ => zX_ret0 rfl rfl fin) (fun a => absurd rfl a)
      · refine zX_run (n' := 15) (ls' := [some (.inr (.inr (5, 0))), some (.inl (i : Int))]) (st' := [.inl (-7), .inr (.inr (5, 0))]) (σ' := zQ σ G2) 2 rfl ?_
        refine zX_call rfl rfl ?_
        refine zq_46 (t := 10) W C2 (by rw [qLn, qLn]; omega) (by unfold qCv; omega) (by decide) (fun G3 C3 => ?_)
        refine zX_run (n' := 4) (ls' := [some (.inr (.inr (5, 0))), some (.inl (zW ((i : Int) + 1)))]) (st' := []) (σ' := zQ σ G3) 2 rfl ?_
        rw [qW1 (by omega)]
        rw [← qRev] at C3
        refine ih (i + 1) k2 (D ++ D2 ++ [10]) e2 G3 (by omega) (by omega) ?_ P2 (qHs_bin Hs Hs2 (by omega)) (qCv_app Cv Cv2 (by unfold qCv; omega)) (by omega) (by rw [qLn3]; omega) C3
        rw [qRev]; exact qBin_ok T0 A hK A2 P2
    · exact zX_i0 rfl (fun _ => zX_ret0 rfl rfl (hok k1 D e1 G A (pPost_dn T0 P (fun t2 h2 => by rcases h2 with ⟨rfl, q, _⟩ | ⟨rfl | rfl, q, _⟩ | ⟨rfl, q, _⟩ | ⟨rfl, q, _⟩ <;> first | exact hK | (exact absurd q (by decide)))) Hs Cv hk hl C)) (fun a => absurd rfl a)
theorem zp_48 {σ : zS} {T : Nat → Int} {N J : Nat} {me : Int} {b : Nat} (W : qJ T N J) (IH : cPx σ T N J me 49 2 7 b) : cPx σ T N J me 48 1 8 b := by
  intro d o G k c Q hb C hbad hok
  have T0 : qTri 10 1 2 := .inr (.inr (.inr ⟨rfl, rfl, rfl⟩))
  refine zX_run (n' := 1) (ls' := [some (.inr (.inr (5, 0))), none]) (st' := [.inr (.inr (5, 0))]) (σ' := zQ σ G) 1 rfl ?_
  refine zX_call rfl rfl ?_
  refine IH d o G k c _ hb C (fun j G2 B F => ?_) (fun k1 D e1 G1 A P Hs Cv hk hl C1 => ?_)
  · refine zX_run (n' := 9) (ls' := [some (.inr (.inr (5, 0))), some (.inl 0)]) (st' := [.inl (-7), .inr (.inr (5, 0))]) (σ' := zQ σ G2) 7 rfl ?_
    refine zX_call rfl rfl ?_
    refine zf_43 (cFt_nf F) (by decide) ?_
    exact zX_i0 rfl (fun _ => zX_ret0 rfl rfl (hbad j G2 (qUp_bad T0 B) F)) (fun a => absurd rfl a)
  · refine zX_run (n' := 4) (ls' := [some (.inr (.inr (5, 0))), some (.inl 0)]) (st' := []) (σ' := zQ σ G1) 2 rfl ?_
    exact zl_48 W IH hb hbad hok 160 0 k1 D e1 G1 rfl (Nat.zero_le _) (qUp_ok T0 A) P Hs Cv hk hl C1
theorem zp_all {σ : zS} {T : Nat → Int} {N J : Nat} {me : Int} (W : qJ T N J) : ∀ b, cPx σ T N J me 48 1 8 b ∧ cPx σ T N J me 50 4 6 b ∧ cPx σ T N J me 53 8 3 b := by
  intro b
  induction b with
  | zero =>
    have a := zp_53 (σ := σ) (me := me) (b := 0) W (fun b2 e => by omega)
    have c := zp_50 W (zp_51 W (zp_52 W a)) (fun b2 e => by omega)
    exact ⟨zp_48 W (zp_49 W c), c, a⟩
  | succ b ih =>
    have a := zp_53 (σ := σ) (me := me) (b := b + 1) W (fun b2 e => by
      have e : b2 = b := by omega
      rw [e]; exact ⟨ih.1, ih.2.2⟩)
    have c := zp_50 W (zp_51 W (zp_52 W a)) (fun b2 e => by
      have e : b2 = b := by omega
      rw [e]; exact ih.2.1)
    exact ⟨zp_48 W (zp_49 W c), c, a⟩
