-- the reference: a run whole (wip/whole/gen/laws31.py)
def mRun (σ τ : zS) (m r : Nat) : Prop := mOrd σ τ ∧ mRds σ τ ∧ mL0 σ τ 7 ∧ (∀ y x, y < 96 → x < 7 → (y < m ∨ (y = m ∧ x < r)) → mRow τ (mD σ) (uV (mD σ) y) y x) ∧ (∀ y h, y < 96 → h < uN (mD σ) → (y < m ∨ (y = m ∧ mD σ 10 h < (r : Int))) → mHold τ (mD σ) (uV (mD σ) y) y h)
theorem mRow_fr {τ τ' : zS} {D V : uT} {m r y x : Nat} (F : mFrm τ τ' D m r) (hr : r < 7) (hx : x < 7) (hn : ¬ (y = m ∧ x = r)) (R : mRow τ D V y x) : mRow τ' D V y x := by
  obtain ⟨F1, F2, -, -, -⟩ := F
  have ne : ¬ 7 * y + x = 7 * m + r := by omega
  have ne2 : ¬ 7 * y + x + 7 = 7 * m + r + 7 := by omega
  obtain ⟨a, b, c, e, f⟩ := F1 _ ne
  obtain ⟨u, v⟩ := F2 _ ne2
  obtain ⟨R1, R2, R3, R4, R5, R6, R7, R8⟩ := R
  refine ⟨(a 78 (by decide) (by decide)).trans R1, (a 79 (by decide) (by decide)).trans R2, (a 80 (by decide) (by decide)).trans R3, (a 81 (by decide) (by decide)).trans R4, (a 82 (by decide) (by decide)).trans R5, c.trans R6, e.trans R7, fun ht => ?_⟩
  obtain ⟨S1, S2, S3, S4, S5⟩ := R8 ht
  exact ⟨(b 88 (by decide) (by decide)).trans S1, (b 89 (by decide) (by decide)).trans S2, (b 90 (by decide) (by decide)).trans S3, f.trans S4, fun q => ⟨u.trans (S5 q).1, v.trans (S5 q).2⟩⟩
theorem mHold_fr {τ τ' : zS} {D V : uT} {m r y h : Nat} (F : mFrm τ τ' D m r) (hN : uN D ≤ 16) (hh : h < uN D) (hn : ¬ (y = m ∧ D 10 h = (r : Int))) (R : mHold τ D V y h) : mHold τ' D V y h := by
  have e := F.2.2.1 (17 * y + h) (fun ⟨x, a, b, c⟩ => hn (by
    have : y = m ∧ h = x := by omega
    exact ⟨this.1, by rw [this.2]; exact b⟩))
  unfold mHold
  rw [e.1, e.2.1, e.2.2.1, e.2.2.2]
  exact R
theorem mRun_in {σ τ : zS} {m r : Nat} (hm : m < 96) (R : mRun σ τ m r) : mFin τ (mD σ) (uV (mD σ) m) m := by
  obtain ⟨-, -, R3, R4, R5⟩ := R
  cases m with
  | zero =>
    refine ⟨fun x hx ht => ?_, fun q => absurd q (by omega), fun _ x => uRet_z⟩
    have := R3 x hx ht
    rw [show 7 * 0 + x = x by omega]
    refine ⟨this.1.trans ?_, this.2⟩
    show _ = (if mD σ 3 x = 0 then 0 else mD σ 5 x); rw [if_neg ht]
  | succ m =>
    refine ⟨fun x hx ht => ?_, fun _ h hh => ?_, fun q => absurd q (by omega)⟩
    · have := (R4 m x (by omega) hx (Or.inl (by omega))).2.2.2.2.2.2.2 ht
      have := this.2.2.2.2 (by omega)
      rw [show 7 * (m + 1) + x = 7 * m + x + 7 by omega]
      exact this
    · have := R5 m h (by omega) hh (Or.inl (by omega))
      rw [show m + 1 - 1 = m by omega]
      exact ⟨this.2.2.1, this.2.2.2⟩
theorem mRun_st {σ τ τ' : zS} {m r : Nat} (O : uOk (mD σ)) (hm : m < 96) (hr : r < 7) (R : mRun σ τ m r) (F : mFrm τ τ' (mD σ) m r) (n1 : mRow τ' (mD σ) (uV (mD σ) m) m r) (n2 : ∀ h, h < uN (mD σ) → mD σ 10 h = (r : Int) → mHold τ' (mD σ) (uV (mD σ) m) m h) : mRun σ τ' m (r + 1) := by
  obtain ⟨R1, R2, R3, R4, R5⟩ := R
  refine ⟨fun j x hx => by rw [F.2.2.2.1]; exact R1 j x hx, fun x y hx hy => by rw [F.2.2.2.2]; exact R2 x y hx hy, fun x hx ht => ?_, fun y x hy hx hc => ?_, fun y h hy hh hc => ?_⟩
  · have e := F.2.1 x (by omega)
    rw [e.1, e.2]; exact R3 x hx ht
  · by_cases e : y = m ∧ x = r
    · rw [e.1, e.2]; exact n1
    · exact mRow_fr F hr hx e (R4 y x hy hx (by omega))
  · by_cases e : y = m ∧ mD σ 10 h = (r : Int)
    · rw [e.1]; exact n2 h hh e.2
    · exact mHold_fr F O.2.2.2.2.1 hh e (R5 y h hy hh (by omega))
/-- all that a run of the reference needs of what it is told -/
def mOk (σ : zS) : Prop := uOk (mD σ) ∧ (∀ h, h < uN (mD σ) → mHok σ h) ∧ mCok σ ∧ 0 ≤ σ.1 10 0 4 ∧ (0 ≤ σ.1 10 0 2 ∧ σ.1 10 0 2 ≤ 24) ∧ mGok σ
theorem zs_158 {d : Nat} {σ : zS} {Q : Option zV → zS → Prop} (K : mOk σ) (h : ∀ τ : zS, mRun σ τ 96 0 → Q none (yR σ τ)) : zM (d + 6) 158 [.inr (.inr (10, 0))] σ Q := by
  obtain ⟨O, H, C, hn, hfl, G⟩ := K
  have N16 := O.2.2.2.2.1
  have hN : σ.1 10 0 4 = (uN (mD σ) : Int) := by show mD σ 19 0 = _; unfold uN; have : 0 ≤ mD σ 19 0 := hn; omega
  refine zX_run (n' := 2) (ls' := [some (.inr (.inr (10, 0))), some (.inl 0), none]) (st' := []) (σ' := σ) 2 rfl ?_
  have key : zX (d + 6) 158 2 [some (.inr (.inr (10, 0))), some (.inl 0), none] [] (yR σ σ) Q := by
    refine zs_158a (fun τ1 a1 => zs_158b G a1 (fun τ2 a2 => zs_158c a2 (fun τ3 a3 => zs_158d hN N16 a3 (fun τ4 y a4 b4 => zs_158f a4 b4 (fun τ5 a5 b5 c5 => ?_)))))
    have st : ∀ m, m < 96 → (∀ (τ : zS) (x : Option zV), mRun σ τ (m + 1) 0 → zX (d + 6) 158 137 [some (.inr (.inr (10, 0))), some (.inl ((m + 1 : Nat) : Int)), x] [] (yR σ τ) Q) → ∀ (τ : zS) (x : Option zV), mRun σ τ m 0 → zX (d + 6) 158 137 [some (.inr (.inr (10, 0))), some (.inl (m : Int)), x] [] (yR σ τ) Q := by
      intro m hm ih τ x I
      refine zb_158g (fun q => absurd q (by omega)) (fun _ => ?_)
      have L := zLoop (P := fun r => ∀ τ : zS, mRun σ τ m r → zX (d + 6) 158 142 [some (.inr (.inr (10, 0))), some (.inl (m : Int)), some (.inl (r : Int))] [] (yR σ τ) Q) (k := 0) (N := 7) (by omega) (fun τ I => ?_) (fun r _ hr ihr τ I => ?_)
      · exact L τ I
      · refine zb_158h (fun _ => ?_) (fun q => absurd (by decide) q)
        rw [zWs (by omega)]
        refine ih τ _ ⟨I.1, I.2.1, I.2.2.1, fun y x hy hx hc => I.2.2.2.1 y x hy hx (by omega), fun y h hy hh hc => I.2.2.2.2 y h hy hh ?_⟩
        have := (O.2.2.2.2.2 h hh).2.2.1
        omega
      · refine zb_158h (fun q => absurd q (by omega)) (fun _ => ?_)
        refine zX_call rfl rfl ?_
        refine zs_159 (V := uV (mD σ) m) hr hm O (uV_k O m (by omega)) H C hn hfl I.1 (fun x hx => I.2.1 x m hx hm) (mRun_in hm I) (fun r0 => ?_) (fun τ' n1 n2 F => ?_)
        · have := I.2.2.2.1 m (r - 1) hm (by omega) (Or.inr ⟨rfl, by omega⟩)
          have e : r - 1 + 1 = r := by omega
          refine ⟨?_, ?_⟩
          · rw [this.2.2.2.2.1, e]
          · rw [this.2.2.2.2.2.2.1, e]
        · refine zb_158i ?_
          rw [zWs (by omega)]
          exact ihr τ' (mRun_st O hm hr I F n1 n2)
    have L := zLoop (P := fun m => ∀ (τ : zS) (x : Option zV), mRun σ τ m 0 → zX (d + 6) 158 137 [some (.inr (.inr (10, 0))), some (.inl (m : Int)), x] [] (yR σ τ) Q) (k := 0) (N := 96) (by omega) (fun τ x I => ?_) (fun m _ hm ih => st m hm ih)
    · refine L τ5 y ⟨b5, a5, c5, fun y x hy hx hc => by omega, fun y h hy hh hc => ?_⟩
      have := (O.2.2.2.2.2 h hh).2.2.1
      omega
    · exact zb_158g (fun _ => h τ I) (fun q => absurd (by decide) q)
  rw [← yR_self] at key
  exact key
