-- two ways of sorting: by rank; by reach and rank
def uNT (lt : Nat → Nat → Bool) : Prop := (∀ a b, lt a b = true → lt b a = false) ∧ (∀ a b c, lt a b = false → lt b c = false → lt a c = false)
theorem uIns_front {lt : Nat → Nat → Bool} {h : Nat} {L : List Nat} (hl : ∀ y, y ∈ L → lt h y = false) : uIns lt h L = h :: L := by
  cases L with
  | nil => rfl
  | cons x xs => unfold uIns; rw [if_neg (by rw [hl x List.mem_cons_self]; decide)]
theorem uIns_srt {lt : Nat → Nat → Bool} (N : uNT lt) {h : Nat} {L : List Nat} (hL : L.Pairwise (fun a b => lt a b = false)) : (uIns lt h L).Pairwise (fun a b => lt a b = false) := by
  induction L with
  | nil => exact List.pairwise_singleton _ _
  | cons x xs ih =>
    rw [List.pairwise_cons] at hL
    unfold uIns
    by_cases e : lt h x = true
    · rw [if_pos e, List.pairwise_cons]
      refine ⟨fun y hy => ?_, ih hL.2⟩
      rcases uIns_mem.mp hy with rfl | hy
      · exact N.1 _ _ e
      · exact hL.1 y hy
    · rw [if_neg e, List.pairwise_cons, List.pairwise_cons]
      have e2 : lt h x = false := by simpa using e
      refine ⟨fun y hy => ?_, hL⟩
      cases hy with
      | head => exact e2
      | tail _ hy => exact N.2 _ _ _ e2 (hL.1 y hy)
theorem uSrt_srt {lt : Nat → Nat → Bool} (N : uNT lt) : ∀ {n : Nat}, (uSrt lt n).Pairwise (fun a b => lt a b = false)
  | 0 => List.Pairwise.nil
  | n + 1 => uIns_srt N (uSrt_srt N)
theorem uIns_fil {lt : Nat → Nat → Bool} (N : uNT lt) {p : Nat → Bool} {h : Nat} {L : List Nat} (hp : p h = true) (hL : L.Pairwise (fun a b => lt a b = false)) : (uIns lt h L).filter p = uIns lt h (L.filter p) := by
  induction L with
  | nil => simp [uIns, hp]
  | cons x xs ih =>
    rw [List.pairwise_cons] at hL
    by_cases e : lt h x = true
    · have e1 : uIns lt h (x :: xs) = x :: uIns lt h xs := if_pos e
      rw [e1]
      by_cases q : p x = true
      · rw [List.filter_cons_of_pos q, List.filter_cons_of_pos q, ih hL.2]
        exact (if_pos e).symm
      · rw [List.filter_cons_of_neg q, List.filter_cons_of_neg q, ih hL.2]
    · have e1 : uIns lt h (x :: xs) = h :: x :: xs := if_neg e
      have e2 : lt h x = false := by simpa using e
      rw [e1, List.filter_cons_of_pos hp]
      refine (uIns_front (fun y hy => ?_)).symm
      have hy := (List.mem_filter.mp hy).1
      cases hy with
      | head => exact e2
      | tail _ hy => exact N.2 _ _ _ e2 (hL.1 y hy)
theorem uIns_filn {lt : Nat → Nat → Bool} {p : Nat → Bool} {h : Nat} {L : List Nat} (hp : ¬ p h = true) : (uIns lt h L).filter p = L.filter p := by
  induction L with
  | nil => simp [uIns, hp]
  | cons x xs ih =>
    unfold uIns
    split
    · by_cases q : p x = true
      · rw [List.filter_cons_of_pos q, List.filter_cons_of_pos q, ih]
      · rw [List.filter_cons_of_neg q, List.filter_cons_of_neg q, ih]
    · rw [List.filter_cons_of_neg hp]
theorem uIns_agree {lt lt2 : Nat → Nat → Bool} {h : Nat} {L : List Nat} (hl : ∀ y, y ∈ L → lt h y = lt2 h y) : uIns lt h L = uIns lt2 h L := by
  induction L with
  | nil => rfl
  | cons x xs ih =>
    unfold uIns
    rw [hl x List.mem_cons_self, ih (fun y hy => hl y (List.mem_cons_of_mem _ hy))]
theorem uSrt_fil {lt lt2 : Nat → Nat → Bool} (N : uNT lt) (N2 : uNT lt2) {p : Nat → Bool} (ha : ∀ a b, p a = true → p b = true → lt a b = lt2 a b) : ∀ {n : Nat}, (uSrt lt n).filter p = (uSrt lt2 n).filter p
  | 0 => rfl
  | n + 1 => by
    show (uIns lt n (uSrt lt n)).filter p = (uIns lt2 n (uSrt lt2 n)).filter p
    by_cases q : p n = true
    · rw [uIns_fil N q (uSrt_srt N), uIns_fil N2 q (uSrt_srt N2), uSrt_fil N N2 ha]
      exact uIns_agree (fun y hy => ha _ _ q (List.mem_filter.mp hy).2)
    · rw [uIns_filn q, uIns_filn q]; exact uSrt_fil N N2 ha
/-- the class's order: by reach, then by rank -/
def uLtC (D : uT) (h x : Nat) : Bool := if D 10 h = D 10 x then decide (uRank (D 8 h) (D 12 h) < uRank (D 8 x) (D 12 x)) else decide (D 10 h < D 10 x)
def uOrdC (D : uT) : List Nat := (uSrt (uLtC D) (uN D)).reverse
theorem uLt_nt (D : uT) : uNT (uLt D) := by
  refine ⟨fun a b h => ?_, fun a b c h1 h2 => ?_⟩
  · unfold uLt at *; rw [decide_eq_true_eq] at h; rw [decide_eq_false_iff_not]; omega
  · unfold uLt at *; rw [decide_eq_false_iff_not] at *; omega
theorem uLtC_nt (D : uT) : uNT (uLtC D) := by
  refine ⟨fun a b h => ?_, fun a b c h1 h2 => ?_⟩
  · unfold uLtC at *
    by_cases e : D 10 a = D 10 b
    · rw [if_pos e, decide_eq_true_eq] at h; rw [if_pos e.symm, decide_eq_false_iff_not]; omega
    · rw [if_neg e, decide_eq_true_eq] at h; rw [if_neg (fun q => e q.symm), decide_eq_false_iff_not]; omega
  · unfold uLtC at *
    by_cases e1 : D 10 a = D 10 b <;> by_cases e2 : D 10 b = D 10 c <;> by_cases e3 : D 10 a = D 10 c <;> simp only [e1, e2, e3, if_true, if_false, decide_eq_false_iff_not] at * <;> first | omega | (simp_all; done) | (simp_all; omega)
theorem uOrdC_mem {D : uT} {x : Nat} : x ∈ uOrdC D ↔ x < uN D := by unfold uOrdC; rw [List.mem_reverse, uSrt_mem]
theorem uOrdC_nd {D : uT} : (uOrdC D).Nodup := by unfold uOrdC; exact List.pairwise_reverse.mpr (List.Pairwise.imp (fun h => Ne.symm h) uSrt_nd)
theorem uIns_len {lt : Nat → Nat → Bool} {h : Nat} {L : List Nat} : (uIns lt h L).length = L.length + 1 := by
  induction L with
  | nil => rfl
  | cons x xs ih => unfold uIns; split <;> simp [ih]
theorem uSrt_len {lt : Nat → Nat → Bool} : ∀ {n : Nat}, (uSrt lt n).length = n
  | 0 => rfl
  | n + 1 => by show (uIns lt n (uSrt lt n)).length = _; rw [uIns_len, uSrt_len]
theorem uOrdC_len {D : uT} : (uOrdC D).length = uN D := by unfold uOrdC; rw [List.length_reverse, uSrt_len]
theorem uOrd_len {D : uT} : (uOrd D).length = uN D := by unfold uOrd; rw [List.length_reverse, uSrt_len]
def uAt (D : uT) (r : Nat) (h : Nat) : Bool := decide (D 10 h = (r : Int))
theorem uOrd_fil {D : uT} {r : Nat} : (uOrd D).filter (uAt D r) = (uOrdC D).filter (uAt D r) := by
  unfold uOrd uOrdC
  rw [List.filter_reverse, List.filter_reverse, uSrt_fil (uLt_nt D) (uLtC_nt D) (fun a b ha hb => ?_)]
  unfold uAt at ha hb
  rw [decide_eq_true_eq] at ha hb
  unfold uLt uLtC
  rw [if_pos (by omega)]
theorem uServe_fil {D : uT} {w : Nat → Int} {r : Nat} : ∀ {L : List Nat} {q : uQ}, uServe D w r L q = uServe D w r (L.filter (uAt D r)) q
  | [], q => rfl
  | h :: L, q => by
    by_cases e : D 10 h = (r : Int)
    · rw [List.filter_cons_of_pos (show uAt D r h = true from decide_eq_true e)]
      unfold uServe
      exact uServe_fil
    · rw [List.filter_cons_of_neg (by unfold uAt; simpa using e)]
      show uServe D w r L (if D 10 h = (r : Int) then uTake (w h) h q else q) = _
      rw [if_neg e]
      exact uServe_fil
theorem uServe_ord {D : uT} {w : Nat → Int} {r : Nat} {q : uQ} : uServe D w r (uOrd D) q = uServe D w r ((uOrdC D).filter (uAt D r)) q := by
  rw [uServe_fil, uOrd_fil]
/-- the class's order, reach by reach -/
theorem uSeg {D : uT} {L : List Nat} (hL : L.Pairwise (fun a b => D 10 a ≤ D 10 b)) (r : Nat) : L = L.filter (fun h => decide (D 10 h < (r : Int))) ++ L.filter (fun h => decide ((r : Int) ≤ D 10 h)) := by
  induction L with
  | nil => rfl
  | cons x xs ih =>
    rw [List.pairwise_cons] at hL
    by_cases e : D 10 x < (r : Int)
    · rw [List.filter_cons_of_pos (by simpa using e), List.filter_cons_of_neg (by simpa using e), List.cons_append, ← ih hL.2]
    · have h0 : ∀ y, y ∈ x :: xs → (r : Int) ≤ D 10 y := by
        intro y hy
        cases hy with
        | head => omega
        | tail _ hy => have := hL.1 y hy; omega
      have e1 : (x :: xs).filter (fun h => decide (D 10 h < (r : Int))) = [] := by
        rw [List.filter_eq_nil_iff]
        intro y hy; have := h0 y hy; simp; omega
      have e2 : (x :: xs).filter (fun h => decide ((r : Int) ≤ D 10 h)) = x :: xs := by
        rw [List.filter_eq_self]
        intro y hy; have := h0 y hy; simpa using this
      rw [e1, e2]; rfl
theorem uOrdC_srt {D : uT} : (uOrdC D).Pairwise (fun a b => D 10 a ≤ D 10 b) := by
  unfold uOrdC
  refine List.pairwise_reverse.mpr (List.Pairwise.imp (fun h => ?_) (uSrt_srt (uLtC_nt D)))
  unfold uLtC at h
  split at h
  · omega
  · rw [decide_eq_false_iff_not] at h; omega
/-- where the holds of a reach begin in the class's order -/
def uPos (D : uT) (r : Nat) : Nat := ((uOrdC D).filter (fun h => decide (D 10 h < (r : Int)))).length
theorem uPos_seg {D : uT} (r : Nat) : ∃ tl, uOrdC D = (uOrdC D).filter (fun h => decide (D 10 h < (r : Int))) ++ ((uOrdC D).filter (uAt D r) ++ tl) ∧ (∀ h, h ∈ tl → (r : Int) < D 10 h) ∧ uPos D (r + 1) = uPos D r + ((uOrdC D).filter (uAt D r)).length := by
  have h1 := uSeg uOrdC_srt (D := D) (r := r)
  have h2 := uSeg uOrdC_srt (D := D) (r := r + 1)
  have h3 := uSeg (D := D) (L := (uOrdC D).filter (fun h => decide (D 10 h < ((r + 1 : Nat) : Int)))) (List.Pairwise.filter _ uOrdC_srt) r
  have f1 : ((uOrdC D).filter (fun h => decide (D 10 h < ((r + 1 : Nat) : Int)))).filter (fun h => decide (D 10 h < (r : Int))) = (uOrdC D).filter (fun h => decide (D 10 h < (r : Int))) := by
    rw [List.filter_filter]
    refine List.filter_congr (fun x _ => ?_)
    by_cases e : D 10 x < (r : Int)
    · have : D 10 x < ((r + 1 : Nat) : Int) := by omega
      simp [e]; omega
    · simp [e]
  have f2 : ((uOrdC D).filter (fun h => decide (D 10 h < ((r + 1 : Nat) : Int)))).filter (fun h => decide ((r : Int) ≤ D 10 h)) = (uOrdC D).filter (uAt D r) := by
    rw [List.filter_filter]
    refine List.filter_congr (fun x _ => ?_)
    unfold uAt
    by_cases e : D 10 x = (r : Int)
    · have h1 : D 10 x < ((r + 1 : Nat) : Int) := by omega
      have h2 : (r : Int) ≤ D 10 x := by omega
      simp [e]; omega
    · by_cases e2 : (r : Int) ≤ D 10 x
      · have : ¬ D 10 x < ((r + 1 : Nat) : Int) := by omega
        simp [e]; omega
      · simp [e, e2]
  rw [f1, f2] at h3
  refine ⟨(uOrdC D).filter (fun h => decide (((r + 1 : Nat) : Int) ≤ D 10 h)), ?_, fun h hh => ?_, ?_⟩
  · rw [← List.append_assoc, ← h3]; exact h2
  · have := (List.mem_filter.mp hh).2; rw [decide_eq_true_eq] at this; omega
  · unfold uPos; rw [h3, List.length_append]
theorem uPos_0 {D : uT} (h0 : ∀ h, h < uN D → 0 ≤ D 10 h) : uPos D 0 = 0 := by
  unfold uPos
  rw [List.length_eq_zero_iff, List.filter_eq_nil_iff]
  intro y hy
  have := h0 y (uOrdC_mem.mp hy)
  simp; omega
theorem uPos_le {D : uT} (r : Nat) : uPos D r ≤ uN D := by
  unfold uPos
  exact Nat.le_trans (List.length_filter_le _ _) (Nat.le_of_eq uOrdC_len)
-- what is got once stays
theorem uA_st {D V : uT} {m : Nat} {w : Nat → Int} {L : List Nat} {h : Nat} : ∀ {r r2 : Nat}, D 10 h < (r : Int) → r ≤ r2 → (uA D V m w L r2).2.2.1 h = (uA D V m w L r).2.2.1 h ∧ (uA D V m w L r2).2.2.2 h = (uA D V m w L r).2.2.2 h
  | r, 0, hl, hr => by rw [show r = 0 by omega]; exact ⟨rfl, rfl⟩
  | r, r2 + 1, hl, hr => by
    by_cases e : r = r2 + 1
    · subst e; exact ⟨rfl, rfl⟩
    · have I := uA_st (D := D) (V := V) (m := m) (w := w) (L := L) (r2 := r2) hl (by omega)
      have o := uServe_o (D := D) (w := w) (r := r2) (L := L) (q := (uWat D V m r2 (uA D V m w L r2), uWs D V m r2 (uA D V m w L r2), (uA D V m w L r2).2.2.1, (uA D V m w L r2).2.2.2)) (x := h) (Or.inl (by omega))
      exact ⟨o.1.trans I.1, o.2.trans I.2⟩
