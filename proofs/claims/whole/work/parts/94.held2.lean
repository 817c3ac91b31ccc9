-- held, a choice of releases tried by the class (wip/whole/gen/laws66.py)
/-- the trial with other releases, begun anew -/
def cRh1 (t : zS) (G : Nat → Nat → Nat → Int) : Prop :=
  (∀ n j, G 26 n j = if j = 0 ∧ 7 ≤ n ∧ n < 14 then t.1 3 (7 * 0 + (n - 7)) 2 else t.1 26 n j) ∧ (∀ n j, G 27 n j = if j = 0 ∧ 7 ≤ n ∧ n < 14 then 0 else t.1 27 n j) ∧
  (∀ n j, G 0 n j = if n = 1 ∧ j = 11 then 0 else t.1 0 n j) ∧ (∀ n j, ¬ n = 1 → G 15 n j = t.1 15 n j) ∧ (∀ k, fk k = true → ¬ k = 0 → ¬ k = 15 → ¬ k = 26 → ¬ k = 27 → G k = t.1 k)
theorem cFl_hel {t : zS} {G : Nat → Nat → Nat → Int} {D D' : uT} {k rd : Nat} (hD : ∀ f, ¬ f = 7 → D f = D' f) (h7 : ∀ r, r < 7 → ¬ D 3 r = 0 → G 15 1 r = D' 7 r) (l0 : ∀ r, r < 7 → ¬ D 3 r = 0 → t.1 3 (7 * 0 + r) 2 = D 5 r) (C : cRh1 t G) (F : cFl t 1 D k rd) : cFl (zG t G) 1 D' 0 rd ∧ cOth t G 1 := by
  obtain ⟨⟨w1, w2, w3, w4, w5, w6⟩, ⟨g1, g2, g3, g4, g5⟩, od, ⟨a1, a2, a3, a4, a5⟩, rm, -, -⟩ := F
  obtain ⟨c1, c2, c3, c15, c4⟩ := C
  have n : uN D' = uN D := by unfold uN; rw [hD 19 (by decide)]
  have e0 : ∀ j, ¬ j = 11 → (zG t G).1 0 1 j = t.1 0 1 j := fun j x1 => (c3 1 j).trans (if_neg (fun k => x1 k.2))
  have e11 : (zG t G).1 0 1 11 = 0 := (c3 1 11).trans (if_pos ⟨rfl, rfl⟩)
  have e13 : (zG t G).1 13 = t.1 13 := c4 13 rfl (by decide) (by decide) (by decide) (by decide)
  have e14 : (zG t G).1 14 = t.1 14 := c4 14 rfl (by decide) (by decide) (by decide) (by decide)
  have e16 : (zG t G).1 16 = t.1 16 := c4 16 rfl (by decide) (by decide) (by decide) (by decide)
  have tx : ∀ h, cTx (zG t G) 1 h = cTx t 1 h := fun h => by
    unfold cTx
    rw [e0 8 (by decide)]; rfl
  have pt : ∀ h p, uPart D' h p = uPart D h p := fun h p => by
    unfold uPart uCode
    rw [hD 9 (by decide), hD 16 (by decide), hD 17 (by decide), hD 18 (by decide)]
  have wb : ∀ h m lev, uWb D' h m lev = uWb D h m lev := fun h m lev => by
    unfold uWb uSays uAsks uNm
    rw [pt, pt, hD 1 (by decide), hD 8 (by decide), hD 9 (by decide), hD 10 (by decide), hD 11 (by decide), hD 12 (by decide)]
  have oc : uOrdC D' = uOrdC D := by
    unfold uOrdC uLtC
    rw [n, hD 8 (by decide), hD 10 (by decide), hD 12 (by decide)]
  have e8 : ∀ h j, j < 7 → D (8 + j) h = D' (8 + j) h := fun h j hj => by rw [hD (8 + j) (by omega)]
  refine ⟨⟨⟨fun r m hr hm => ?_, fun r hr => ?_, fun r hr ht => ?_, ?_, ?_, fun h j hh hj => ?_⟩, ⟨fun r m hr hm => ?_, fun h hh => ?_, ?_, g4, fun h m hh hm => ?_⟩, ?_, ⟨e11, (e0 10 (by decide)).trans a2, (e0 4 (by decide)).trans a3, by decide, a5⟩, fun m hm => ?_, fun r hr ht => ?_, fun m hm => absurd hm (Nat.not_lt_zero _)⟩, ?_⟩
  · rw [← hD 0 (by decide)]; exact w1 r m hr hm
  · rw [← hD 2 (by decide), ← hD 3 (by decide)]; exact w2 r hr
  · rw [← hD 3 (by decide)] at ht
    rw [← hD 4 (by decide), ← hD 6 (by decide)]
    have u := w3 r hr ht
    exact ⟨u.1, u.2.1, h7 r hr ht⟩
  · rw [← hD 19 (by decide)]; exact w4
  · rw [← hD 19 (by decide)]; exact w5
  · rw [n] at hh
    rw [← e8 h j hj]; exact w6 h j hh hj
  · rw [← hD 1 (by decide)]; exact g1 r m hr hm
  · rw [n] at hh
    have g := g2 h hh
    rw [tx, pt, pt]
    refine ⟨?_, g.2⟩
    have t1 := g.1
    unfold cTxr at t1 ⊢
    rw [e0 8 (by decide)]; exact t1
  · rw [← hD 19 (by decide)]; exact ⟨(e0 9 (by decide)).trans g3.1, g3.2⟩
  · rw [n] at hh
    rw [e0 7 (by decide), ← hD 15 (by decide)]; exact g5 h m hh hm
  · unfold cOrd
    rw [oc, e14]; exact od
  · have u := rm m hm
    refine ⟨?_, fun h hh => ?_⟩
    · rw [e13, e0 7 (by decide)]; exact u.1
    · rw [n] at hh
      rw [e16, u.2 h hh]
      unfold cRdv
      rw [tx, hD 13 (by decide), hD 14 (by decide), hD 15 (by decide), wb]; rfl
  · rw [← hD 3 (by decide)] at ht
    rw [← hD 5 (by decide)]
    refine ⟨(c1 (7 * 1 + r) 0).trans ?_, (c2 (7 * 1 + r) 0).trans ?_⟩
    · rw [if_pos ⟨rfl, by omega, by omega⟩, show 7 * 1 + r - 7 = r by omega]; exact l0 r hr ht
    · rw [if_pos ⟨rfl, by omega, by omega⟩]
  · refine ⟨fun n j h => ⟨(c3 n j).trans (if_neg (fun k => h k.1)), congrFun (congrFun e13 n) j, congrFun (congrFun e14 n) j, c15 n j h⟩, fun k k1 k2 n j h => ?_, fun k k1 k2 n j h => ?_⟩
    · rcases (show k = 16 ∨ k = 17 ∨ k = 18 by omega) with rfl | rfl | rfl
      · exact congrFun (congrFun (c4 16 rfl (by decide) (by decide) (by decide) (by decide)) n) j
      · exact congrFun (congrFun (c4 17 rfl (by decide) (by decide) (by decide) (by decide)) n) j
      · exact congrFun (congrFun (c4 18 rfl (by decide) (by decide) (by decide) (by decide)) n) j
    · by_cases k26 : k = 26
      · subst k26; exact (c1 n j).trans (if_neg (by omega))
      · by_cases k27 : k = 27
        · subst k27; exact (c2 n j).trans (if_neg (by omega))
        · have f : fk k = true := by
            rcases (show k = 19 ∨ k = 20 ∨ k = 21 ∨ k = 22 ∨ k = 23 ∨ k = 24 ∨ k = 25 by omega) with rfl | rfl | rfl | rfl | rfl | rfl | rfl <;> rfl
          exact congrFun (congrFun (c4 k f (by omega) (by omega) k26 k27) n) j
/-- setReleases, then restart -/
theorem cRh1_of {t : zS} {G : Nat → Nat → Nat → Int} {w : Nat} (C : cRst (zG t (hRel t 1 w 0)) G 1 7) : cRh1 t G ∧ ∀ r, r < 7 → ¬ cTh t r = 0 → G 15 1 r = cRel ((hDig (cTh t) w r : Nat) : Int) (t.1 3 (7 * 0 + r) 4) := by
  obtain ⟨c1, c2, c3, c4⟩ := C
  have h0 : ∀ k, fk k = true → ¬ k = 15 → (zG t (hRel t 1 w 0)).1 k = t.1 k := fun k f h => by
    show (if fk k = true then hRel t 1 w 0 k else t.1 k) = t.1 k
    rw [if_pos f]
    exact funext fun n => funext fun i => if_neg (fun q => h q.1)
  have h15 : G 15 = (zG t (hRel t 1 w 0)).1 15 := c4 15 (by decide) (by decide) (by decide)
  refine ⟨⟨fun n j => (c1 n j).trans ?_, fun n j => (c2 n j).trans ?_, fun n j => (c3 n j).trans ?_, fun n j hn => ?_, fun k f k0 k15 k26 k27 => (c4 k k0 k26 k27).trans (h0 k f k15)⟩, fun r hr ht => ?_⟩
  · rw [h0 26 rfl (by decide)]; rfl
  · rw [h0 27 rfl (by decide)]
  · rw [h0 0 rfl (by decide)]
    by_cases a : n = 1 ∧ j = 11
    · rw [if_pos a, if_pos ⟨a.2, a.1⟩]
    · rw [if_neg a, if_neg (fun k => a ⟨k.2, k.1⟩)]
  · rw [h15]
    exact if_neg (fun q => hn q.2.1)
  · rw [h15]
    exact if_pos ⟨rfl, rfl, ⟨Nat.zero_le _, hr⟩, ht⟩
theorem cRel_b {u v : Int} (h : 0 ≤ v ∧ v ≤ 9999) : 0 ≤ cRel u v ∧ cRel u v ≤ 19998 := by
  have a : zW (v.tdiv 2) = v / 2 := by
    rw [Int.tdiv_eq_ediv_of_nonneg h.1]; unfold zW; omega
  have b : zW (2 * v) = 2 * v := by unfold zW; omega
  unfold cRel
  rw [a, b]
  (repeat' split) <;> omega
theorem yOk_h {σ : zS} (R : yRel σ) (w : Nat) : uOk (uHel (mD σ) w) := by
  have O := yOk R
  have L := R.2.2.1
  have n : uN (uHel (mD σ) w) = uN (mD σ) := rfl
  refine ⟨O.1, O.2.1, O.2.2.1, fun r hr ht => ?_, O.2.2.2.2.1, O.2.2.2.2.2⟩
  have u := O.2.2.2.1 r hr ht
  have l := (L.2.2 r hr ht).2
  refine ⟨u.1, u.2.1, u.2.2.1, u.2.2.2.1, u.2.2.2.2.1, ?_⟩
  have e : uHel (mD σ) w 7 r = cRel ((hDig (mD σ 3) w r : Nat) : Int) (σ.1 59 0 r) := if_pos ⟨rfl, hr, ht⟩
  rw [e]
  exact cRel_b ⟨l.2.2.2.2.2.1, l.2.2.2.2.2.2⟩
