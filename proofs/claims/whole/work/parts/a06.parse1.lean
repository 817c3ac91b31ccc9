-- the class reads a text: the pieces, and behind a fault (wip/whole/gen/laws77.py)
/-- the i-th of the steps, which are kept newest first -/
def qCl : List Int → Nat → Int
  | [], _ => 0
  | x :: c, i => if i = c.length then x else qCl c i
/-- the tape has J tokens, and then its end -/
def qJ (T : Nat → Int) (N J : Nat) : Prop := N ≤ 160 ∧ J ≤ N ∧ qP T N J = N ∧ ∀ i, i < J → ¬ qP T N i = N
theorem qJ_end {T : Nat → Int} {N J k : Nat} (W : qJ T N J) (h : k ≤ J) : qK T N k = 25 ↔ k = J := by
  obtain ⟨w1, w2, w3, w4⟩ := W
  rw [qK_tv.2]
  constructor
  · intro e
    by_cases c : k = J
    · exact c
    · exact absurd e (w4 k (by omega))
  · intro e; rw [e]; exact w3
/-- the class reads the k-th token, o are open, the steps are c, and there is no fault -/
def cPs (T : Nat → Int) (N J : Nat) (me : Int) (G : Nat → Nat → Nat → Int) (k o : Nat) (c : List Int) : Prop :=
  (G 5 0 2 = -1 ∧ G 5 0 5 = (k : Int) ∧ G 5 0 6 = (o : Int) ∧ G 5 0 8 = (c.length : Int) ∧ G 5 0 9 = me) ∧ (k ≤ J ∧ c.length ≤ k ∧ o ≤ 5) ∧ (∀ i, i < c.length → G 31 0 i = qRC (qCl c i)) ∧ ((G 5 0 10 = 0 ∨ G 5 0 10 = 1) ∧ (G 5 0 10 = 0 → ∀ x, x ∈ c → ¬ x = 3)) ∧ cTk G T N J
/-- there is a fault at the j-th token -/
def cFt (T : Nat → Int) (N J : Nat) (G : Nat → Nat → Nat → Int) (j : Nat) : Prop := j ≤ J ∧ G 5 0 2 = (qP T N j : Int)
theorem cFt_nf {σ : zS} {T : Nat → Int} {N J j : Nat} {G : Nat → Nat → Nat → Int} (h : cFt T N J G j) : ¬ (zQ σ G).1 5 0 2 = -1 := fun e => by
  have a : G 5 0 2 = -1 := e
  have := h.2
  omega
theorem cPs_nx {T : Nat → Int} {N J : Nat} {me : Int} {G : Nat → Nat → Nat → Int} {k o : Nat} {c : List Int} (C : cPs T N J me G k o c) (h : k < J) : cPs T N J me (uG G 5 0 5 ((k + 1 : Nat) : Int)) (k + 1) o c := by
  obtain ⟨⟨c1, c2, c3, c4, c5⟩, ⟨c6, c7, c8⟩, c9, c10, c11⟩ := C
  exact ⟨⟨c1, rfl, c3, c4, c5⟩, ⟨h, by omega, c8⟩, c9, c10, c11⟩
theorem cPs_op {T : Nat → Int} {N J : Nat} {me : Int} {G : Nat → Nat → Nat → Int} {k o o2 : Nat} {c : List Int} (C : cPs T N J me G k o c) (h : o2 ≤ 5) : cPs T N J me (uG G 5 0 6 (o2 : Int)) k o2 c := by
  obtain ⟨⟨c1, c2, c3, c4, c5⟩, ⟨c6, c7, c8⟩, c9, c10, c11⟩ := C
  exact ⟨⟨c1, c2, rfl, c4, c5⟩, ⟨c6, c7, h⟩, c9, c10, c11⟩
theorem cPs_wr {T : Nat → Int} {N J : Nat} {me : Int} {G : Nat → Nat → Nat → Int} {k o : Nat} {c : List Int} {t u : Int} (C : cPs T N J me G k o c) (hc : c.length < k) (hu : u = 0 ∨ u = 1) (h0 : u = 0 → G 5 0 10 = 0 ∧ ¬ t = 3) :
    cPs T N J me (uG (uG (uG G 31 0 c.length (qRC t)) 5 0 8 ((c.length + 1 : Nat) : Int)) 5 0 10 u) k o (t :: c) := by
  obtain ⟨⟨c1, c2, c3, c4, c5⟩, ⟨c6, c7, c8⟩, c9, c10, c11⟩ := C
  refine ⟨⟨c1, c2, c3, rfl, c5⟩, ⟨c6, hc, c8⟩, fun i hi => ?_, ⟨hu, fun e x hx => ?_⟩, c11⟩
  · show (if 31 = 31 ∧ i = c.length ∧ 0 = 0 then qRC t else G 31 0 i) = qRC (if i = c.length then t else qCl c i)
    rw [ifk]
    by_cases e : i = c.length
    · rw [if_pos e, if_pos e]
    · have hi : i < c.length + 1 := hi
      rw [if_neg e, if_neg e]; exact c9 i (by omega)
  · have := h0 e
    rcases List.mem_cons.mp hx with r | r
    · rw [r]; exact this.2
    · exact c10.2 this.1 x r
theorem zq_42 {d : Nat} {σ : zS} {Q : Option zV → zS → Prop} {T : Nat → Int} {N J : Nat} {me : Int} {G : Nat → Nat → Nat → Int} {k o : Nat} {c : List Int} (W : qJ T N J) (C : cPs T N J me G k o c) (h : Q (some (.inl (qRC (qK T N k)))) (zQ σ G)) : zM d 42 [.inr (.inr (5, 0))] (zQ σ G) Q := by
  have f : (zQ σ G).1 5 0 2 = -1 := C.1.1
  have nx : (zQ σ G).1 5 0 5 = (k : Int) := C.1.2.1
  have tk : (zQ σ G).1 29 0 k = qRC (qK T N k) := (C.2.2.2.2 k C.2.1.1).1
  have kJ := C.2.1.1
  obtain ⟨w1, w2, w3, w4⟩ := W
  refine zm_42 (fun _ => by rw [nx]; omega) (fun a => absurd f a) (fun _ => zQ_i h ?_)
  rw [nx]; exact tk
theorem zf_42 {d : Nat} {σ : zS} {Q : Option zV → zS → Prop} (q : ¬ σ.1 5 0 2 = -1) (h : Q (some (.inl (-22))) σ) : zM d 42 [.inr (.inr (5, 0))] σ Q := zm_42 (fun a => absurd a q) (fun _ => h) (fun a => absurd a q)
theorem zq_43 {d : Nat} {σ : zS} {Q : Option zV → zS → Prop} {T : Nat → Int} {N J : Nat} {me : Int} {G : Nat → Nat → Nat → Int} {k o : Nat} {c : List Int} {t x : Int} (W : qJ T N J) (C : cPs T N J me G k o c) (ht : qTv t) (t25 : ¬ t = 25) (hx : qRC t = x)
    (h1 : qK T N k = t → k < J → ∀ G', cPs T N J me G' (k + 1) o c → Q (some (.inl 1)) (zQ σ G')) (h2 : ¬ qK T N k = t → Q (some (.inl 0)) (zQ σ G)) : zM (d + 1) 43 [.inr (.inr (5, 0)), .inl x] (zQ σ G) Q := by
  have f : (zQ σ G).1 5 0 2 = -1 := C.1.1
  have nx : (zQ σ G).1 5 0 5 = (k : Int) := C.1.2.1
  have tk : (zQ σ G).1 29 0 k = qRC (qK T N k) := (C.2.2.2.2 k C.2.1.1).1
  have kJ := C.2.1.1
  have E := qJ_end W kJ
  obtain ⟨w1, w2, w3, w4⟩ := W
  have i1 : qRC (qK T N k) = x ↔ qK T N k = t := by rw [← hx]; exact qRC_inj qK_tv.1 t ht
  have x21 : ¬ x = -21 := fun e => t25 ((qRC_inj ht 25 (by unfold qTv; omega)).mp (hx.trans e))
  have fst : (zQ σ G).1 29 0 (((zQ σ G).1 5 0 5).toNat) = x ↔ qK T N k = t := by rw [nx, ← i1, ← tk]; rfl
  refine zm_43 (fun _ => by rw [nx]; omega) (fun a => absurd f a) (fun a => absurd f a) (fun a => absurd f a) (fun _ _ a => absurd a x21) (fun _ a _ => ?_) (fun _ a => h2 (fun e => a (fst.mpr e)))
  have e := fst.mp a
  have lt : k < J := by
    by_cases q : k = J
    · exact absurd (e.symm.trans (E.mpr q)) t25
    · omega
  rw [nx, qW1 (by omega), zQ_5]
  exact h1 e lt _ (cPs_nx C lt)
theorem zf_43 {d : Nat} {σ : zS} {Q : Option zV → zS → Prop} {x : Int} (q : ¬ σ.1 5 0 2 = -1) (hx : ¬ (-22) = x) (h : Q (some (.inl 0)) σ) : zM (d + 1) 43 [.inr (.inr (5, 0)), .inl x] σ Q :=
  zm_43 (fun a => absurd a q) (fun _ a => absurd a hx) (fun _ a => absurd a hx) (fun _ _ => h) (fun a => absurd a q) (fun a => absurd a q) (fun a => absurd a q)
theorem zq_45 {d : Nat} {σ : zS} {Q : Option zV → zS → Prop} {T : Nat → Int} {N J : Nat} {me : Int} {G : Nat → Nat → Nat → Int} {k o : Nat} {c : List Int} (W : qJ T N J) (C : cPs T N J me G k o c) (h : ∀ G', cFt T N J G' k → Q none (zQ σ G')) : zM d 45 [.inr (.inr (5, 0))] (zQ σ G) Q := by
  have f : (zQ σ G).1 5 0 2 = -1 := C.1.1
  have nx : (zQ σ G).1 5 0 5 = (k : Int) := C.1.2.1
  have tk : (zQ σ G).1 30 0 k = (qP T N k : Int) := (C.2.2.2.2 k C.2.1.1).2
  have kJ := C.2.1.1
  obtain ⟨w1, w2, w3, w4⟩ := W
  refine zm_45 (fun _ => by rw [nx]; omega) (fun a => absurd f a) (fun _ => ?_)
  rw [zQ_5]
  refine h _ ⟨kJ, ?_⟩
  show (zQ σ G).1 30 0 (((zQ σ G).1 5 0 5).toNat) = _
  rw [nx]; exact tk
theorem zf_45 {d : Nat} {σ : zS} {Q : Option zV → zS → Prop} (q : ¬ σ.1 5 0 2 = -1) (h : Q none σ) : zM d 45 [.inr (.inr (5, 0))] σ Q := zm_45 (fun a => absurd a q) (fun _ => h) (fun a => absurd a q)
theorem zq_44 {d : Nat} {σ : zS} {Q : Option zV → zS → Prop} {T : Nat → Int} {N J : Nat} {me : Int} {G : Nat → Nat → Nat → Int} {k o : Nat} {c : List Int} {t x : Int} (W : qJ T N J) (C : cPs T N J me G k o c) (ht : qTv t) (hx : qRC t = x)
    (h1 : qK T N k = t → ¬ t = 25 → k < J → ∀ G', cPs T N J me G' (k + 1) o c → Q none (zQ σ G')) (h3 : qK T N k = t → t = 25 → Q none (zQ σ G)) (h2 : ¬ qK T N k = t → ∀ G', cFt T N J G' k → Q none (zQ σ G')) : zM (d + 2) 44 [.inr (.inr (5, 0)), .inl x] (zQ σ G) Q := by
  have f : (zQ σ G).1 5 0 2 = -1 := C.1.1
  have nx : (zQ σ G).1 5 0 5 = (k : Int) := C.1.2.1
  have tk : (zQ σ G).1 29 0 k = qRC (qK T N k) := (C.2.2.2.2 k C.2.1.1).1
  have pk : (zQ σ G).1 30 0 k = (qP T N k : Int) := (C.2.2.2.2 k C.2.1.1).2
  have kJ := C.2.1.1
  have E := qJ_end W kJ
  obtain ⟨w1, w2, w3, w4⟩ := W
  have i1 : qRC (qK T N k) = x ↔ qK T N k = t := by rw [← hx]; exact qRC_inj qK_tv.1 t ht
  have x21 : x = -21 ↔ t = 25 := by rw [← hx]; exact qRC_inj ht 25 (by unfold qTv; omega)
  have fst : (zQ σ G).1 29 0 (((zQ σ G).1 5 0 5).toNat) = x ↔ qK T N k = t := by rw [nx, ← i1, ← tk]; rfl
  refine zm_44 (fun _ => by rw [nx]; omega) (fun a => absurd f a) (fun _ _ _ => by rw [nx]; omega) (fun a => absurd f a) (fun a => absurd f a) (fun a => absurd f a) (fun a => absurd f a) (fun _ a b => h3 (fst.mp a) (x21.mp b)) (fun _ a b => ?_) (fun _ _ a => absurd f a) (fun _ a _ => ?_)
  · have e := fst.mp a
    have n25 : ¬ t = 25 := fun q => b (x21.mpr q)
    have lt : k < J := by
      by_cases q : k = J
      · exact absurd (e.symm.trans (E.mpr q)) n25
      · omega
    rw [nx, qW1 (by omega), zQ_5]
    exact h1 e n25 lt _ (cPs_nx C lt)
  · rw [zQ_5]
    refine h2 (fun e => a (fst.mpr e)) _ ⟨kJ, ?_⟩
    show (zQ σ G).1 30 0 (((zQ σ G).1 5 0 5).toNat) = _
    rw [nx]; exact pk
theorem zf_44 {d : Nat} {σ : zS} {Q : Option zV → zS → Prop} {x : Int} (q : ¬ σ.1 5 0 2 = -1) (hx : ¬ (-22) = x) (h : Q none σ) : zM (d + 2) 44 [.inr (.inr (5, 0)), .inl x] σ Q :=
  zm_44 (fun a => absurd a q) (fun _ _ a => absurd a q) (fun a => absurd a q) (fun _ a => absurd a hx) (fun _ a => absurd a hx) (fun _ _ _ => h) (fun _ _ a => absurd a q) (fun a => absurd a q) (fun a => absurd a q) (fun a => absurd a q) (fun a => absurd a q)
theorem zq_46 {d : Nat} {σ : zS} {Q : Option zV → zS → Prop} {T : Nat → Int} {N J : Nat} {me : Int} {G : Nat → Nat → Nat → Int} {k o : Nat} {c : List Int} {t x : Int} (W : qJ T N J) (C : cPs T N J me G k o c) (hc : c.length < k) (ht : qCv t) (hx : qRC t = x) (h : ∀ G', cPs T N J me G' k o (t :: c) → Q none (zQ σ G')) : zM d 46 [.inr (.inr (5, 0)), .inl x] (zQ σ G) Q := by
  have f : (zQ σ G).1 5 0 2 = -1 := C.1.1
  have us : (zQ σ G).1 5 0 8 = (c.length : Int) := C.1.2.2.2.1
  have kJ := C.2.1.1
  have ul : (zQ σ G).1 5 0 10 = G 5 0 10 := rfl
  have x4 : x = -4 ↔ t = 3 := by rw [← hx]; exact (qRC_can ht).2.2.2
  obtain ⟨w1, w2, w3, w4⟩ := W
  have key : ∀ u : Int, (u = 0 ∨ u = 1) → (u = 0 → G 5 0 10 = 0 ∧ ¬ t = 3) → Q none (zU (zU (zU (zQ σ G) 31 0 (((zQ σ G).1 5 0 8).toNat) x) 5 0 8 (zW (((zQ σ G).1 5 0 8) + 1))) 5 0 10 u) := fun u hu h0 => by
    rw [us, qW1 (by omega), zQ_31, zQ_5, zQ_5, ← hx]
    exact h _ (cPs_wr C hc hu h0)
  refine zm_46 (fun _ _ => by rw [us]; omega) (fun a => absurd f a) (fun _ a => absurd a (by rw [us]; omega)) (fun _ _ _ => key 1 (.inr rfl) (fun q => absurd q (by decide))) (fun _ _ a b => key 0 (.inl rfl) (fun _ => ⟨a, fun q => b (x4.mpr q)⟩)) (fun _ _ _ _ => key 1 (.inr rfl) (fun q => absurd q (by decide)))
theorem zf_46 {d : Nat} {σ : zS} {Q : Option zV → zS → Prop} {x : Int} (q : ¬ σ.1 5 0 2 = -1) (h : Q none σ) : zM d 46 [.inr (.inr (5, 0)), .inl x] σ Q := zm_46 (fun a => absurd a q) (fun _ => h) (fun a => absurd a q) (fun a => absurd a q) (fun a => absurd a q) (fun a => absurd a q)
theorem zq_47 {d : Nat} {σ : zS} {Q : Option zV → zS → Prop} {T : Nat → Int} {N J : Nat} {me : Int} {G : Nat → Nat → Nat → Int} {k o : Nat} {c : List Int} {t x : Int} (W : qJ T N J) (C : cPs T N J me G k o c) (ht : qTv t) (t25 : ¬ t = 25) (hx : qRC t = x) (hk : qK T N k = t)
    (h1 : o < 5 → k < J → ∀ G', cPs T N J me G' (k + 1) (o + 1) c → Q (some (.inl 1)) (zQ σ G')) (h2 : o = 5 → ∀ G', cFt T N J G' k → Q (some (.inl 0)) (zQ σ G')) : zM (d + 2) 47 [.inr (.inr (5, 0)), .inl x] (zQ σ G) Q := by
  have f : (zQ σ G).1 5 0 2 = -1 := C.1.1
  have op : (zQ σ G).1 5 0 6 = (o : Int) := C.1.2.2.1
  have nx : (zQ σ G).1 5 0 5 = (k : Int) := C.1.2.1
  have tk : (zQ σ G).1 29 0 k = qRC (qK T N k) := (C.2.2.2.2 k C.2.1.1).1
  have pk : (zQ σ G).1 30 0 k = (qP T N k : Int) := (C.2.2.2.2 k C.2.1.1).2
  have kJ := C.2.1.1
  have o5 := C.2.1.2.2
  have lt : k < J := by
    have E := qJ_end W kJ
    by_cases q : k = J
    · exact absurd (hk.symm.trans (E.mpr q)) t25
    · omega
  have x21 : ¬ x = -21 := fun e => t25 ((qRC_inj ht 25 (by unfold qTv; omega)).mp (hx.trans e))
  obtain ⟨w1, w2, w3, w4⟩ := W
  have ee : zU (zQ σ G) 5 0 6 (zW (((zQ σ G).1 5 0 6) + 1)) = zQ σ (uG G 5 0 6 ((o + 1 : Nat) : Int)) := by rw [op, qW1 (by omega), zQ_5]
  rw [← hk] at hx
  refine zm_47 (fun a _ => ?_) (fun _ _ => by rw [nx]; omega) (fun _ a => absurd f a) (fun _ a => absurd f a) (fun _ a => absurd f a) (fun _ _ _ a => absurd a x21) (fun a _ _ _ => ?_) (fun _ _ a => absurd (tk.trans hx) (fun q => a ?_)) (fun _ a => absurd f a) (fun a _ => ?_)
  · show 0 ≤ (zQ σ G).1 5 0 5 ∧ (zQ σ G).1 5 0 5 < 161
    rw [nx]; omega
  · rw [op] at a
    rw [ee]
    show Q _ (zU (zQ σ (uG G 5 0 6 ((o + 1 : Nat) : Int))) 5 0 5 (zW ((zQ σ G).1 5 0 5 + 1)))
    rw [nx, qW1 (by omega), zQ_5]
    exact h1 (by omega) lt _ (cPs_nx (cPs_op C (by omega)) lt)
  · show (zQ σ G).1 29 0 (((zQ σ G).1 5 0 5).toNat) = x
    rw [nx]; exact q
  · rw [op] at a
    rw [zQ_5]
    refine h2 (by omega) _ ⟨kJ, ?_⟩
    show (zQ σ G).1 30 0 (((zQ σ G).1 5 0 5).toNat) = _
    rw [nx]; exact pk
-- X5_parseOne
theorem zg_53 {d : Nat} {σ : zS} {Q : Option zV → zS → Prop} 
    (o1 : ¬ σ.1 5 0 2 = -1)
    (h1 : Q (none) σ) :
    zM (d + 1) 53 [.inr (.inr (5, 0))] σ Q := by
  refine zX_run (n' := 1) (ls' := [some (.inr (.inr (5, 0))), none]) (st' := [.inr (.inr (5, 0))]) (σ' := σ) 1 rfl ?_
  refine zX_call rfl rfl ?_
  refine zf_42 o1 ?_
  · skip
    refine zX_run (n' := 53) (ls' := [some (.inr (.inr (5, 0))), some (.inl (-22))]) (st' := [.inr (.inr (5, 0))]) (σ' := σ) 11 rfl ?_
    refine zX_call rfl rfl ?_
    refine zf_45 o1 ?_
    · skip
      exact zX_ret0 rfl rfl h1
theorem zf_53 {d : Nat} {σ : zS} {Q : Option zV → zS → Prop} (q : ¬ σ.1 5 0 2 = -1) (h : Q none σ) : zM (d + 1) 53 [.inr (.inr (5, 0))] σ Q := zg_53 q h
-- X5_parseTerm
theorem zg_52 {d : Nat} {σ : zS} {Q : Option zV → zS → Prop} 
    (o1 : ¬ σ.1 5 0 2 = -1)
    (o2 : ¬ (-22) = (-14 : Int))
    (h1 : Q (none) σ) :
    zM (d + 2) 52 [.inr (.inr (5, 0))] σ Q := by
  refine zX_run (n' := 1) (ls' := [some (.inr (.inr (5, 0))), none]) (st' := [.inr (.inr (5, 0))]) (σ' := σ) 1 rfl ?_
  refine zX_call rfl rfl ?_
  refine zf_53 o1 ?_
  · skip
    refine zX_run (n' := 9) (ls' := [some (.inr (.inr (5, 0))), some (.inl 0)]) (st' := [.inl (-14), .inr (.inr (5, 0))]) (σ' := σ) 7 rfl ?_
    refine zX_call rfl rfl ?_
    refine zf_43 o1 o2 ?_
    · skip
      refine zX_run (n' := 18) (ls' := [some (.inr (.inr (5, 0))), some (.inl 0)]) (st' := []) (σ' := σ) 1 rfl ?_
      exact zX_ret0 rfl rfl h1
theorem zf_52 {d : Nat} {σ : zS} {Q : Option zV → zS → Prop} (q : ¬ σ.1 5 0 2 = -1) (h : Q none σ) : zM (d + 2) 52 [.inr (.inr (5, 0))] σ Q := zg_52 q (by decide) h
-- X5_parseSum
theorem zg_51 {d : Nat} {σ : zS} {Q : Option zV → zS → Prop} 
    (o1 : ¬ σ.1 5 0 2 = -1)
    (h1 : Q (none) σ) :
    zM (d + 3) 51 [.inr (.inr (5, 0))] σ Q := by
  refine zX_run (n' := 1) (ls' := [some (.inr (.inr (5, 0))), none, none]) (st' := [.inr (.inr (5, 0))]) (σ' := σ) 1 rfl ?_
  refine zX_call rfl rfl ?_
  refine zf_52 o1 ?_
  · skip
    refine zX_run (n' := 3) (ls' := [some (.inr (.inr (5, 0))), none, none]) (st' := [.inr (.inr (5, 0))]) (σ' := σ) 1 rfl ?_
    refine zX_call rfl rfl ?_
    refine zf_42 o1 ?_
    · skip
      refine zX_run (n' := 30) (ls' := [some (.inr (.inr (5, 0))), some (.inl (-22)), some (.inl 0)]) (st' := []) (σ' := σ) 12 rfl ?_
      exact zX_ret0 rfl rfl h1
theorem zf_51 {d : Nat} {σ : zS} {Q : Option zV → zS → Prop} (q : ¬ σ.1 5 0 2 = -1) (h : Q none σ) : zM (d + 3) 51 [.inr (.inr (5, 0))] σ Q := zg_51 q h
-- X5_parseNot
theorem zg_50 {d : Nat} {σ : zS} {Q : Option zV → zS → Prop} 
    (o1 : ¬ σ.1 5 0 2 = -1)
    (h1 : Q (none) σ) :
    zM (d + 4) 50 [.inr (.inr (5, 0))] σ Q := by
  refine zX_run (n' := 1) (ls' := [some (.inr (.inr (5, 0))), none]) (st' := [.inr (.inr (5, 0))]) (σ' := σ) 1 rfl ?_
  refine zX_call rfl rfl ?_
  refine zf_42 o1 ?_
  · skip
    refine zX_run (n' := 21) (ls' := [some (.inr (.inr (5, 0))), none]) (st' := [.inr (.inr (5, 0))]) (σ' := σ) 3 rfl ?_
    refine zX_call rfl rfl ?_
    refine zf_51 o1 ?_
    · skip
      refine zX_run (n' := 23) (ls' := [some (.inr (.inr (5, 0))), none]) (st' := [.inr (.inr (5, 0))]) (σ' := σ) 1 rfl ?_
      refine zX_call rfl rfl ?_
      refine zf_42 o1 ?_
      · skip
        refine zX_run (n' := 40) (ls' := [some (.inr (.inr (5, 0))), some (.inl (-22))]) (st' := []) (σ' := σ) 7 rfl ?_
        exact zX_ret0 rfl rfl h1
theorem zf_50 {d : Nat} {σ : zS} {Q : Option zV → zS → Prop} (q : ¬ σ.1 5 0 2 = -1) (h : Q none σ) : zM (d + 4) 50 [.inr (.inr (5, 0))] σ Q := zg_50 q h
-- X5_parseAnd
theorem zg_49 {d : Nat} {σ : zS} {Q : Option zV → zS → Prop} 
    (o1 : ¬ σ.1 5 0 2 = -1)
    (o2 : ¬ (-22) = (-8 : Int))
    (h1 : Q (none) σ) :
    zM (d + 5) 49 [.inr (.inr (5, 0))] σ Q := by
  refine zX_run (n' := 1) (ls' := [some (.inr (.inr (5, 0))), none]) (st' := [.inr (.inr (5, 0))]) (σ' := σ) 1 rfl ?_
  refine zX_call rfl rfl ?_
  refine zf_50 o1 ?_
  · skip
    refine zX_run (n' := 9) (ls' := [some (.inr (.inr (5, 0))), some (.inl 0)]) (st' := [.inl (-8), .inr (.inr (5, 0))]) (σ' := σ) 7 rfl ?_
    refine zX_call rfl rfl ?_
    refine zf_43 o1 o2 ?_
    · skip
      refine zX_run (n' := 18) (ls' := [some (.inr (.inr (5, 0))), some (.inl 0)]) (st' := []) (σ' := σ) 1 rfl ?_
      exact zX_ret0 rfl rfl h1
theorem zf_49 {d : Nat} {σ : zS} {Q : Option zV → zS → Prop} (q : ¬ σ.1 5 0 2 = -1) (h : Q none σ) : zM (d + 5) 49 [.inr (.inr (5, 0))] σ Q := zg_49 q (by decide) h
-- X5_parseOr
theorem zg_48 {d : Nat} {σ : zS} {Q : Option zV → zS → Prop} 
    (o1 : ¬ σ.1 5 0 2 = -1)
    (o2 : ¬ (-22) = (-7 : Int))
    (h1 : Q (none) σ) :
    zM (d + 6) 48 [.inr (.inr (5, 0))] σ Q := by
  refine zX_run (n' := 1) (ls' := [some (.inr (.inr (5, 0))), none]) (st' := [.inr (.inr (5, 0))]) (σ' := σ) 1 rfl ?_
  refine zX_call rfl rfl ?_
  refine zf_49 o1 ?_
  · skip
    refine zX_run (n' := 9) (ls' := [some (.inr (.inr (5, 0))), some (.inl 0)]) (st' := [.inl (-7), .inr (.inr (5, 0))]) (σ' := σ) 7 rfl ?_
    refine zX_call rfl rfl ?_
    refine zf_43 o1 o2 ?_
    · skip
      refine zX_run (n' := 18) (ls' := [some (.inr (.inr (5, 0))), some (.inl 0)]) (st' := []) (σ' := σ) 1 rfl ?_
      exact zX_ret0 rfl rfl h1
theorem zf_48 {d : Nat} {σ : zS} {Q : Option zV → zS → Prop} (q : ¬ σ.1 5 0 2 = -1) (h : Q none σ) : zM (d + 6) 48 [.inr (.inr (5, 0))] σ Q := zg_48 q (by decide) h
