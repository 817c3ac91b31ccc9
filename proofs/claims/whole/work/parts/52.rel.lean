-- the class's told things are the reference's
def uFs (a b c : Nat → Int) (r m : Int) : Nat → Int
  | 0 => 0
  | g + 1 => if a g = r ∧ b g = m then uFs a b c r m g + c g else uFs a b c r m g
theorem uFs_b {a b c : Nat → Int} {r m : Int} : ∀ {n : Nat}, (∀ g, g < n → -9999 ≤ c g ∧ c g ≤ 9999) → -9999 * (n : Int) ≤ uFs a b c r m n ∧ uFs a b c r m n ≤ 9999 * (n : Int)
  | 0, _ => ⟨Int.le_refl 0, Int.le_refl 0⟩
  | n + 1, h => by
    have I := uFs_b (a := a) (b := b) (c := c) (r := r) (m := m) (n := n) (fun g hg => h g (by omega))
    have e := h n (by omega)
    unfold uFs
    split <;> omega
theorem mFl_eq {a b c : Nat → Int} {r m v : Int} (hv : 0 ≤ v ∧ v ≤ 9999) : ∀ {n : Nat}, n ≤ 24 → (∀ g, g < n → -9999 ≤ c g ∧ c g ≤ 9999) → mFl a b c r m v n = v + uFs a b c r m n
  | 0, _, _ => by show v = v + 0; omega
  | n + 1, hn, h => by
    have I := mFl_eq (a := a) (b := b) (c := c) (r := r) (m := m) hv (n := n) (by omega) (fun g hg => h g (by omega))
    have B := uFs_b (a := a) (b := b) (c := c) (r := r) (m := m) (n := n) (fun g hg => h g (by omega))
    have e := h n (by omega)
    unfold mFl uFs
    rw [I]
    split
    · rw [zW_id (by omega)]; omega
    · rfl
def rSide (σ : zS) : Prop := (∀ j, j < 84 → σ.1 34 0 j = σ.1 47 0 j ∧ 0 ≤ σ.1 47 0 j ∧ σ.1 47 0 j ≤ 9999) ∧ (σ.1 8 0 3 = σ.1 10 0 2 ∧ 0 ≤ σ.1 10 0 2 ∧ σ.1 10 0 2 ≤ 24) ∧ (∀ g : Nat, (g : Int) < σ.1 10 0 2 → -9999 ≤ σ.1 51 0 g ∧ σ.1 51 0 g ≤ 9999) ∧
  (∀ r m : Nat, r < 7 → m < 96 → σ.1 36 0 (96 * r + m) = uFs (σ.1 49 0) (σ.1 50 0) (σ.1 51 0) (r : Int) (m : Int) (σ.1 10 0 2).toNat)
def rGau (σ : zS) : Prop := (σ.1 8 0 5 = σ.1 10 0 3 ∧ 0 ≤ σ.1 10 0 3 ∧ σ.1 10 0 3 ≤ 40) ∧ (∀ g : Nat, (g : Int) < σ.1 10 0 3 → ((0 ≤ σ.1 52 0 g ∧ σ.1 52 0 g < 7) ∧ (0 ≤ σ.1 53 0 g ∧ σ.1 53 0 g < 96)) ∧ 0 ≤ σ.1 54 0 g ∧ σ.1 54 0 g ≤ 99999) ∧
  (∀ r m : Nat, r < 7 → m < 96 → σ.1 37 0 (96 * r + m) = mG σ m r)
def rLak (σ : zS) : Prop := (∀ r, r < 7 → σ.1 35 0 r = σ.1 48 0 r ∧ 0 ≤ σ.1 48 0 r ∧ σ.1 48 0 r ≤ 99) ∧ (∀ r, r < 7 → cTh σ r = σ.1 55 0 r ∧ (σ.1 55 0 r = 0 ∨ σ.1 55 0 r = 1)) ∧
  (∀ r, r < 7 → ¬ σ.1 55 0 r = 0 → (σ.1 3 (7 * 0 + r) 1 = σ.1 56 0 r ∧ σ.1 3 (7 * 0 + r) 2 = σ.1 57 0 r ∧ σ.1 3 (7 * 0 + r) 3 = σ.1 58 0 r ∧ σ.1 3 (7 * 0 + r) 4 = σ.1 59 0 r) ∧ 0 ≤ σ.1 57 0 r ∧ σ.1 57 0 r ≤ σ.1 56 0 r ∧ σ.1 56 0 r ≤ 99999 ∧ 0 ≤ σ.1 58 0 r ∧ σ.1 58 0 r ≤ 99 ∧ 0 ≤ σ.1 59 0 r ∧ σ.1 59 0 r ≤ 9999)
def rHol (σ : zS) : Prop := (σ.1 8 0 8 = σ.1 10 0 4 ∧ 0 ≤ σ.1 10 0 4 ∧ σ.1 10 0 4 ≤ 16) ∧ (∀ h : Nat, (h : Int) < σ.1 10 0 4 → cH σ h 0 = σ.1 60 0 h ∧ cH σ h 1 = σ.1 61 0 h ∧ cH σ h 2 = σ.1 62 0 h ∧ cH σ h 3 = σ.1 63 0 h ∧ cH σ h 4 = σ.1 64 0 h ∧ cH σ h 5 = σ.1 65 0 h ∧ cH σ h 6 = σ.1 66 0 h) ∧
  (∀ h : Nat, (h : Int) < σ.1 10 0 4 → (0 ≤ σ.1 60 0 h ∧ σ.1 60 0 h ≤ 5) ∧ (0 ≤ σ.1 61 0 h ∧ σ.1 61 0 h ≤ 3) ∧ (0 ≤ σ.1 62 0 h ∧ σ.1 62 0 h ≤ 6) ∧ (0 ≤ σ.1 63 0 h ∧ σ.1 63 0 h ≤ 9999 ∧ (σ.1 60 0 h = 2 → σ.1 63 0 h ≤ 100)) ∧ (0 ≤ σ.1 64 0 h ∧ σ.1 64 0 h ≤ 9999))
theorem rHj {σ : zS} (H : rHol σ) (h j : Nat) (hh : (h : Int) < σ.1 10 0 4) (hj : j < 7) : cH σ h j = σ.1 (60 + j) 0 h := by
  obtain ⟨a, b, c, d, e, f, g⟩ := H.2.1 h hh
  rcases (show j = 0 ∨ j = 1 ∨ j = 2 ∨ j = 3 ∨ j = 4 ∨ j = 5 ∨ j = 6 by omega) with rfl | rfl | rfl | rfl | rfl | rfl | rfl
  · exact a
  · exact b
  · exact c
  · exact d
  · exact e
  · exact f
  · exact g
def rCal (σ : zS) : Prop := (σ.1 8 0 11 = σ.1 10 0 5 ∧ 0 ≤ σ.1 10 0 5 ∧ σ.1 10 0 5 ≤ 16) ∧ (∀ c : Nat, (c : Int) < σ.1 10 0 5 → (σ.1 40 0 c = σ.1 67 0 c ∧ σ.1 41 0 c = σ.1 68 0 c) ∧ (0 ≤ σ.1 67 0 c ∧ σ.1 67 0 c < σ.1 10 0 4) ∧ 0 ≤ σ.1 68 0 c ∧ σ.1 68 0 c < 96)
def rTx (σ : zS) (t : Nat) : Prop := (σ.1 7 (6 * 0 + t) 1 = σ.1 73 0 t ∧ σ.1 7 (6 * 0 + t) 2 = σ.1 72 0 t) ∧ (0 ≤ σ.1 73 0 t ∧ σ.1 73 0 t ≤ σ.1 72 0 t ∧ σ.1 72 0 t ≤ 160) ∧
  (∀ j : Nat, (j : Int) < σ.1 72 0 t → uCan (σ.1 33 (6 * 0 + t) j) = σ.1 71 0 (200 * t + j) ∧ -15 ≤ σ.1 33 (6 * 0 + t) j ∧ σ.1 33 (6 * 0 + t) j ≤ 9999) ∧ uHt (mPart σ t 0) 0 = some 1 ∧ uHt (mPart σ t 1) 0 = some 1 ∧
  (σ.1 7 (6 * 0 + t) 3 = 0 → ∀ j : Nat, (j : Int) < σ.1 72 0 t → ¬ σ.1 71 0 (200 * t + j) = 3)
def rTxs (σ : zS) : Prop := (σ.1 8 0 13 = σ.1 10 0 6 ∧ 1 ≤ σ.1 10 0 6 ∧ σ.1 10 0 6 ≤ 6) ∧ (∀ t : Nat, (t : Int) < σ.1 10 0 6 → rTx σ t)
theorem uRd_b {g : Nat → Int} : ∀ {r : Nat}, (∀ k, k ≤ r → g k = -1 ∨ (0 ≤ g k ∧ g k ≤ 99999)) → 0 ≤ uRd g r ∧ uRd g r ≤ 99999
  | 0, h => by
    have := h 0 (Nat.le_refl _)
    unfold uRd
    split <;> omega
  | r + 1, h => by
    have := h (r + 1) (Nat.le_refl _)
    have I := uRd_b (g := g) (r := r) (fun k hk => h k (by omega))
    unfold uRd
    split <;> omega
theorem uRd_congr {g g' : Nat → Int} : ∀ {r : Nat}, (∀ k, k ≤ r → g k = g' k) → uRd g r = uRd g' r
  | 0, h => by unfold uRd; rw [h 0 (Nat.le_refl _)]
  | r + 1, h => by unfold uRd; rw [h (r + 1) (Nat.le_refl _), uRd_congr (fun k hk => h k (by omega))]
theorem mGl_b {a b c : Nat → Int} {k m : Nat} : ∀ {n : Nat}, (∀ g, g < n → 0 ≤ c g ∧ c g ≤ 99999) → mGl a b c k m n = -1 ∨ (0 ≤ mGl a b c k m n ∧ mGl a b c k m n ≤ 99999)
  | 0, _ => Or.inl rfl
  | n + 1, h => by
    unfold mGl
    split
    · exact Or.inr (h n (by omega))
    · exact mGl_b (fun g hg => h g (by omega))
theorem rSide_eq {σ : zS} (S : rSide σ) {r m : Nat} (hr : r < 7) (hm : m < 96) : cSide σ r m = mSide σ r m ∧ 0 ≤ mSide σ r m ∧ mSide σ r m ≤ 249975 := by
  obtain ⟨S1, S2, S3, S4⟩ := S
  obtain ⟨n, hn⟩ := Int.eq_ofNat_of_zero_le S2.2.1
  have s := S1 (12 * r + m % 12) (by omega)
  have f := S4 r m hr hm
  have cb : ∀ g, g < n → -9999 ≤ σ.1 51 0 g ∧ σ.1 51 0 g ≤ 9999 := fun g hg => S3 g (by omega)
  rw [hn] at f S2
  have B := uFs_b (a := σ.1 49 0) (b := σ.1 50 0) (c := σ.1 51 0) (r := (r : Int)) (m := (m : Int)) cb
  have M := mFl_eq (a := σ.1 49 0) (b := σ.1 50 0) (c := σ.1 51 0) (r := (r : Int)) (m := (m : Int)) s.2 (n := n) (by omega) cb
  unfold cSide mSide
  rw [hn]
  rw [show (n : Int).toNat = n from rfl] at *
  rw [M, s.1, f]
  generalize uFs (σ.1 49 0) (σ.1 50 0) (σ.1 51 0) (r : Int) (m : Int) n = F at *
  generalize σ.1 47 0 (12 * r + m % 12) = v at *
  clear M f S1 S3 S4 cb
  rw [zW_id (by omega)]
  unfold uMax
  constructor
  · (repeat' split) <;> omega
  · split <;> omega
theorem rGau_eq {σ : zS} (G : rGau σ) {r m : Nat} (hr : r < 7) (hm : m < 96) : cRead σ r m = mRead σ r m ∧ 0 ≤ mRead σ r m ∧ mRead σ r m ≤ 99999 := by
  obtain ⟨G1, G2, G3⟩ := G
  refine ⟨uRd_congr (fun k hk => G3 k m (by omega) hm), uRd_b (fun k hk => ?_)⟩
  exact mGl_b (fun g hg => (G2 g (by omega)).2)
theorem rN {σ : zS} (H : rHol σ) : uN (mD σ) ≤ 16 ∧ ∀ h : Nat, h < uN (mD σ) ↔ (h : Int) < σ.1 10 0 4 := by
  have e : uN (mD σ) = (σ.1 10 0 4).toNat := rfl
  rw [e]
  have := H.1
  exact ⟨by omega, fun h => by omega⟩
theorem rOk {σ : zS} (S : rSide σ) (G : rGau σ) (L : rLak σ) (H : rHol σ) : uOk (mD σ) := by
  have N := rN H
  refine ⟨fun r m hr hm => by rw [mD_0 hm]; exact (rSide_eq S hr hm).2, fun r m hr hm => by rw [mD_1 hm]; exact (rGau_eq G hr hm).2, fun r hr => (L.1 r hr).2, fun r hr ht => ?_, N.1, fun h hh => H.2.2 h ((N.2 h).mp hh)⟩
  have := (L.2.2 r hr ht).2
  refine ⟨this.1, this.2.1, this.2.2.1, this.2.2.2.1, this.2.2.2.2.1, this.2.2.2.2.2.1, ?_⟩
  show σ.1 59 0 r ≤ 19998
  omega
theorem rShut {σ : zS} (H : rHol σ) (C : rCal σ) {h m : Nat} (hh : h < uN (mD σ)) (hm : m < 96) : (cShut σ (m : Int) (σ.1 10 0 54)).testBit h = true ↔ ¬ mD σ 15 (96 * h + m) = 0 := by
  have N := rN H
  have H2 := rHj H
  obtain ⟨H1, -, H3⟩ := H
  obtain ⟨C1, C2⟩ := C
  have hh2 := (N.2 h).mp hh
  have rk : ∀ x : Nat, (x : Int) < σ.1 10 0 4 → cRk σ x = mRk σ x := fun x hx => by
    unfold cRk mRk; rw [H2 x 0 hx (by decide), H2 x 4 hx (by decide)]
  rw [mD_15 hm]
  unfold cShut
  rw [uOrs_tb, C1.1]
  have key : (∃ c, c < (σ.1 10 0 5).toNat ∧ (decide (¬ (c : Int) = σ.1 10 0 54 ∧ σ.1 41 0 c = (m : Int))) = true ∧ (uBits (cSb σ (16 * 0 + (σ.1 40 0 c).toNat)) (σ.1 8 0 8).toNat).testBit h = true) ↔ mSh σ h (m : Int) = true := by
    unfold mSh
    rw [uAny_iff]
    refine exists_congr (fun c => and_congr_right (fun hc => ?_))
    obtain ⟨⟨c1, c2⟩, c3, c4⟩ := C2 c (by omega)
    rw [uBits_tb, Bool.and_eq_true, decide_eq_true_eq, decide_eq_true_eq, c1, c2]
    unfold cSb mSp
    rw [decide_eq_true_eq, decide_eq_true_eq]
    obtain ⟨k, hk⟩ := Int.eq_ofNat_of_zero_le c3.1
    rw [hk] at c3 ⊢
    have e2 : σ.1 1 (16 * 0 + (k : Int).toNat) 2 = σ.1 62 0 k := H2 k 2 c3.2 (by decide)
    have e3 : uRank (σ.1 1 (16 * 0 + (k : Int).toNat) 0) (σ.1 1 (16 * 0 + (k : Int).toNat) 4) = mRk σ k := rk k c3.2
    rw [e2, e3, H2 h 2 hh2 (by decide), rk h hh2]
    show (_ ∧ (_ ∧ (σ.1 62 0 h ≤ σ.1 62 0 k ∧ mRk σ k < mRk σ h))) ↔ (_ ∧ _ ∧ σ.1 62 0 h ≤ σ.1 62 0 k ∧ mRk σ k < mRk σ h)
    have lt : h < (σ.1 8 0 8).toNat := by rw [H1.1]; omega
    constructor
    · rintro ⟨⟨a, b⟩, c, e⟩; exact ⟨a, b, e⟩
    · rintro ⟨a, b, e⟩; exact ⟨⟨a, b⟩, lt, e⟩
  rw [key]
  by_cases e : mSh σ h (m : Int) = true
  · rw [if_pos e]; simp [e]
  · rw [if_neg e]; simp [e]
theorem rPart {σ : zS} {t : Nat} (T : rTx σ t) : cPart σ (6 * 0 + t) 0 = mPart σ t 0 ∧ cPart σ (6 * 0 + t) 1 = mPart σ t 1 := by
  obtain ⟨T1, T2, T3, -⟩ := T
  constructor
  · show uSeq _ 0 (σ.1 7 (6 * 0 + t) 1).toNat = uSeq _ 0 (σ.1 73 0 t).toNat
    rw [T1.1]
    exact uSeq_congr (fun k h1 h2 => (T3 k (by omega)).1)
  · show uSeq _ (σ.1 7 (6 * 0 + t) 1).toNat ((σ.1 7 (6 * 0 + t) 2).toNat - (σ.1 7 (6 * 0 + t) 1).toNat) = uSeq _ (σ.1 73 0 t).toNat ((σ.1 72 0 t).toNat - (σ.1 73 0 t).toNat)
    rw [T1.1, T1.2]
    exact uSeq_congr (fun k h1 h2 => (T3 k (by omega)).1)
theorem rTok {σ : zS} {t : Nat} (T : rTx σ t) : cTok σ (6 * 0 + t) ∧ mTok σ t := by
  have P := rPart T
  obtain ⟨T1, T2, T3, T4, T5, T6⟩ := T
  refine ⟨⟨by rw [T1.1, T1.2]; exact T2, fun j hj => (T3 j (by rw [← T1.2]; exact hj)).2.1, by rw [P.1]; exact T4, by rw [P.2]; exact T5⟩, T2, fun j hj => ?_, T4, T5⟩
  have := T3 j hj
  rw [← this.1]
  unfold uCan
  have := this.2
  (repeat' split) <;> omega
theorem rNo3 {σ : zS} {t : Nat} (T : rTx σ t) (h : σ.1 7 (6 * 0 + t) 3 = 0) : (∀ c, c ∈ mPart σ t 0 → ¬ c = 3) ∧ (∀ c, c ∈ mPart σ t 1 → ¬ c = 3) := by
  obtain ⟨T1, T2, T3, T4, T5, T6⟩ := T
  constructor
  · intro c hc
    obtain ⟨k, h1, h2, h3⟩ := uSeq_mem (show c ∈ uSeq _ 0 (σ.1 73 0 t).toNat from hc)
    rw [← h3]; exact T6 h k (by omega)
  · intro c hc
    obtain ⟨k, h1, h2, h3⟩ := uSeq_mem (show c ∈ uSeq _ (σ.1 73 0 t).toNat ((σ.1 72 0 t).toNat - (σ.1 73 0 t).toNat) from hc)
    rw [← h3]; exact T6 h k (by omega)
/-- which text a hold has, on both sides -/
def rRul (σ : zS) (v : Int) : Prop := ∀ h : Nat, (h : Int) < σ.1 10 0 4 → (cTvr σ v h ∧ cTv σ v h = mRul σ (σ.1 61 0 h).toNat) ∧ (0 ≤ σ.1 70 0 (σ.1 61 0 h).toNat ∧ σ.1 70 0 (σ.1 61 0 h).toNat < 6) ∧ rTx σ (mRul σ (σ.1 61 0 h).toNat)
theorem rTd {σ : zS} {v : Int} (S : rSide σ) (G : rGau σ) (L : rLak σ) (H : rHol σ) (C : rCal σ) (R : rRul σ v) (d0 : σ.1 10 0 66 = 0) : cTd σ (mD σ) (σ.1 10 0 54) v := by
  have N := rN H
  refine ⟨⟨fun r m hr hm => by rw [mD_0 hm]; exact (rSide_eq S hr hm).1, fun r hr => ⟨(L.1 r hr).1, (L.2.1 r hr).1⟩, fun r hr ht => (L.2.2 r hr ht).1, H.1.1, H.1.2.1, fun h j hh hj => ?_⟩, fun r m hr hm => by rw [mD_1 hm]; exact (rGau_eq G hr hm).1, fun h hh => ?_, d0, ⟨by rw [C.1.1]; exact C.1.2, fun c hc => ?_⟩, fun h m hh hm => rShut H C hh hm⟩
  · rw [rHj H h j ((N.2 h).mp hh) hj]
    rcases (show j = 0 ∨ j = 1 ∨ j = 2 ∨ j = 3 ∨ j = 4 ∨ j = 5 ∨ j = 6 by omega) with rfl | rfl | rfl | rfl | rfl | rfl | rfl <;> rfl
  · have hh2 := (N.2 h).mp hh
    obtain ⟨⟨R1, R2⟩, R3, R4⟩ := R h hh2
    have P := rPart R4
    have T := rTok R4
    have E := mPart_eq T.2
    rw [R2]
    exact ⟨R1, T.1, P.1.trans E.1, P.2.trans E.2, fun e => by rw [← E.1, ← E.2]; exact rNo3 R4 e⟩
  · rw [C.1.1] at hc
    obtain ⟨⟨c1, -⟩, c3, -⟩ := C.2 c hc
    rw [c1]
    have := H.1
    omega
theorem rMok {σ : zS} {v : Int} (S : rSide σ) (G : rGau σ) (L : rLak σ) (H : rHol σ) (C : rCal σ) (R : rRul σ v) (d0 : 0 ≤ σ.1 10 0 66 ∧ σ.1 10 0 66 < 65536) : mOk σ := by
  have N := rN H
  refine ⟨rOk S G L H, fun h hh => ?_, ⟨C.1.2, fun c hc => ?_, d0⟩, H.1.2.1, S.2.1.2, G.1.2, fun g hg => (G.2.1 g hg).1⟩
  · have hh2 := (N.2 h).mp hh
    have k := H.2.2 h hh2
    obtain ⟨-, R3, R4⟩ := R h hh2
    exact ⟨⟨k.2.1.1, by omega⟩, ⟨k.2.2.1.1, by omega⟩, R3, (rTok R4).2⟩
  · have := (C.2 c hc).2.1
    have := H.1
    omega
