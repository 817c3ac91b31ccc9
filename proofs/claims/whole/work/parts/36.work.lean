-- the class begins a flow and works it (wip/whole/gen/laws11.py)
-- X0_begin
theorem zb_0l {d : Nat} {σ : zS} {Q : Option zV → zS → Prop} {f : Nat} {u v r : Int}
    (o1 : ¬ 7 ≤ r → (0 : Int) ≤ r ∧ r < (7 : Int))
    (h1 : 7 ≤ r → zX (d + 12) 0 35 [some (.inr (.inr (0, f))), some (.inl u), some (.inl v), some (.inl r)] [.inr (.inr (0, f))] (zU (zU σ 0 f 10 0) 0 f 4 0) Q)
    (h2 : ¬ 7 ≤ r → zX (d + 12) 0 13 [some (.inr (.inr (0, f))), some (.inl u), some (.inl v), some (.inl (zW (r + 1)))] [] (zU σ 15 f (r.toNat) (σ.1 3 (7 * 0 + r.toNat) 4)) Q) :
    zX (d + 12) 0 13 [some (.inr (.inr (0, f))), some (.inl u), some (.inl v), some (.inl r)] [] σ Q := by
  refine zX_run (n' := 15) (ls' := [some (.inr (.inr (0, f))), some (.inl u), some (.inl v), some (.inl r)]) (st' := [.inl 7, .inl r]) (σ' := σ) 2 rfl ?_
  refine zX_c3 rfl (fun a1 => ?_) (fun a1 => ?_)
  · skip
    refine zX_run (n' := 35) (ls' := [some (.inr (.inr (0, f))), some (.inl u), some (.inl v), some (.inl r)]) (st' := [.inr (.inr (0, f))]) (σ' := (zU (zU σ 0 f 10 0) 0 f 4 0)) 7 rfl ?_
    exact h1 a1
  · skip
    refine zX_run (n' := 23) (ls' := [some (.inr (.inr (0, f))), some (.inl u), some (.inl v), some (.inl r)]) (st' := [.inl r, .inr (.inr (38, 0)), .inl r, .inr (.inr (15, f))]) (σ' := σ) 7 rfl ?_
    refine zX_ald5 (L := 7) rfl (by decide) rfl (o1 a1) ?_
    refine zX_run (n' := 25) (ls' := [some (.inr (.inr (0, f))), some (.inl u), some (.inl v), some (.inl r)]) (st' := [.inl (σ.1 3 (7 * 0 + r.toNat) 4), .inl r, .inr (.inr (15, f))]) (σ' := σ) 1 rfl ?_
    refine zX_ast1 (L := 7) rfl (by decide) rfl (o1 a1) ?_
    refine zX_run (n' := 13) (ls' := [some (.inr (.inr (0, f))), some (.inl u), some (.inl v), some (.inl (zW (r + 1)))]) (st' := []) (σ' := (zU σ 15 f (r.toNat) (σ.1 3 (7 * 0 + r.toNat) 4))) 2 rfl ?_
    exact h2 a1
-- X0_workTo
theorem zb_2h {d : Nat} {σ : zS} {Q : Option zV → zS → Prop} {f : Nat} {M m : Int}
    (h1 : M ≤ m → Q (none) σ)
    (h2 : ¬ M ≤ m → 96 ≤ m → Q (none) σ)
    (h3 : ¬ M ≤ m → ¬ 96 ≤ m → m < σ.1 0 f 10 → zX (d + 14) 2 23 [some (.inr (.inr (0, f))), some (.inl M), some (.inl m)] [] σ Q)
    (h4 : ¬ M ≤ m → ¬ 96 ≤ m → ¬ m < σ.1 0 f 10 → zX (d + 14) 2 20 [some (.inr (.inr (0, f))), some (.inl M), some (.inl m)] [] σ Q) :
    zX (d + 14) 2 10 [some (.inr (.inr (0, f))), some (.inl M), some (.inl m)] [] σ Q := by
  refine zX_run (n' := 12) (ls' := [some (.inr (.inr (0, f))), some (.inl M), some (.inl m)]) (st' := [.inl M, .inl m]) (σ' := σ) 2 rfl ?_
  refine zX_c3 rfl (fun a1 => ?_) (fun a1 => ?_)
  · skip
    exact zX_ret0 rfl rfl (h1 a1)
  · skip
    refine zX_run (n' := 15) (ls' := [some (.inr (.inr (0, f))), some (.inl M), some (.inl m)]) (st' := [.inl 96, .inl m]) (σ' := σ) 2 rfl ?_
    refine zX_c3 rfl (fun a2 => ?_) (fun a2 => ?_)
    · skip
      exact zX_ret0 rfl rfl (h2 a1 a2)
    · skip
      refine zX_run (n' := 19) (ls' := [some (.inr (.inr (0, f))), some (.inl M), some (.inl m)]) (st' := [.inl (σ.1 0 f 10), .inl m]) (σ' := σ) 3 rfl ?_
      refine zX_c2 rfl (fun a3 => ?_) (fun a3 => ?_)
      · skip
        exact h3 a1 a2 a3
      · skip
        exact h4 a1 a2 a3
-- X0_workTo
theorem zb_2e {d : Nat} {σ : zS} {Q : Option zV → zS → Prop} {f : Nat} {M m : Int}
    (h1 : zX (d + 14) 2 10 [some (.inr (.inr (0, f))), some (.inl M), some (.inl (zW (m + 1)))] [] (zU σ 0 f 11 (zW (m + 1))) Q) :
    zX (d + 14) 2 29 [some (.inr (.inr (0, f))), some (.inl M), some (.inl m)] [] σ Q := by
  refine zX_run (n' := 10) (ls' := [some (.inr (.inr (0, f))), some (.inl M), some (.inl (zW (m + 1)))]) (st' := []) (σ' := (zU σ 0 f 11 (zW (m + 1)))) 7 rfl ?_
  exact h1
/-- restart: what it leaves -/
def cRst (σ : zS) (G : Nat → Nat → Nat → Int) (f : Nat) (r : Nat) : Prop :=
  (∀ n j, G 26 n j = if j = 0 ∧ 7 * f ≤ n ∧ n < 7 * f + r then σ.1 3 (7 * 0 + (n - 7 * f)) 2 else σ.1 26 n j) ∧ (∀ n j, G 27 n j = if j = 0 ∧ 7 * f ≤ n ∧ n < 7 * f + r then 0 else σ.1 27 n j) ∧
  (∀ n j, G 0 n j = if j = 11 ∧ n = f then 0 else σ.1 0 n j) ∧ (∀ k, ¬ k = 0 → ¬ k = 26 → ¬ k = 27 → G k = σ.1 k)
theorem zs_1 {d : Nat} {σ : zS} {Q : Option zV → zS → Prop} {f : Nat} (h : ∀ G : Nat → Nat → Nat → Int, cRst σ G f 7 → Q none (zG σ G)) : zM (d + 0) 1 [.inr (.inr (0, f))] σ Q := by
  refine zX_run (n' := 5) (ls' := [some (.inr (.inr (0, f))), some (.inl 0)]) (st' := []) (σ' := zU σ 0 f 11 0) 5 rfl ?_
  have e0 : zU σ 0 f 11 0 = zG σ (uG σ.1 0 f 11 0) := by
    conv => lhs; rw [zG_self (σ := σ)]
    exact zG_U rfl
  have L := zLoop (P := fun r => ∀ G : Nat → Nat → Nat → Int, cRst σ G f r → zX (d + 0) 1 5 [some (.inr (.inr (0, f))), some (.inl (r : Int))] [] (zG σ G) Q) (k := 0) (N := 7) (by omega) (fun G I => ?_) (fun r _ hr ih G I => ?_)
  · rw [e0]
    refine L _ ⟨fun n j => ?_, fun n j => ?_, fun n j => ?_, fun k k0 _ _ => funext fun n => funext fun j => if_neg (fun q => k0 q.1)⟩
    · rw [if_neg (by omega)]; rfl
    · rw [if_neg (by omega)]; rfl
    · show (if 0 = 0 ∧ j = 11 ∧ n = f then _ else _) = _
      by_cases e : j = 11 ∧ n = f
      · rw [if_pos ⟨rfl, e⟩, if_pos e]
      · rw [if_neg (fun q => e q.2), if_neg e]
  · exact zb_1 (fun q => absurd (by decide) q) (fun _ => h G I) (fun q => absurd (by decide) q)
  · refine zb_1 (fun _ => by omega) (fun q => absurd q (by omega)) (fun _ => ?_)
    rw [zG_U rfl, zG_U rfl, zWs (by omega)]
    obtain ⟨I1, I2, I3, I4⟩ := I
    refine ih _ ⟨fun n j => ?_, fun n j => ?_, fun n j => ?_, fun k k0 k1 k2 => ?_⟩
    · show (if 26 = 27 ∧ j = 0 ∧ n = 7 * f + r then _ else (if 26 = 26 ∧ j = 0 ∧ n = 7 * f + r then σ.1 3 (7 * 0 + r) 2 else G 26 n j)) = _
      rw [if_neg (by omega)]
      by_cases e : j = 0 ∧ n = 7 * f + r
      · rw [if_pos ⟨rfl, e⟩, if_pos (by omega), show n - 7 * f = r by omega]
      · rw [if_neg (fun q => e q.2), I1]
        by_cases e2 : j = 0 ∧ 7 * f ≤ n ∧ n < 7 * f + r
        · rw [if_pos e2, if_pos (by omega)]
        · rw [if_neg e2, if_neg (by omega)]
    · show (if 27 = 27 ∧ j = 0 ∧ n = 7 * f + r then _ else (if 27 = 26 ∧ j = 0 ∧ n = 7 * f + r then _ else G 27 n j)) = _
      by_cases e : j = 0 ∧ n = 7 * f + r
      · rw [if_pos ⟨rfl, e⟩, if_pos (by omega)]
      · rw [if_neg (fun q => e q.2), if_neg (by omega), I2]
        by_cases e2 : j = 0 ∧ 7 * f ≤ n ∧ n < 7 * f + r
        · rw [if_pos e2, if_pos (by omega)]
        · rw [if_neg e2, if_neg (by omega)]
    · exact I3 n j
    · exact (funext fun n => funext fun j => (if_neg (fun q => k2 q.1)).trans (if_neg (fun q => k1 q.1))).trans (I4 k k0 k1 k2)
/-- begin: what it leaves -/
def cBeg (σ : zS) (G : Nat → Nat → Nat → Int) (f : Nat) (u v : Int) : Prop :=
  (∀ n j, G 26 n j = if j = 0 ∧ 7 * f ≤ n ∧ n < 7 * f + 7 then σ.1 3 (7 * 0 + (n - 7 * f)) 2 else σ.1 26 n j) ∧ (∀ n j, G 27 n j = if j = 0 ∧ 7 * f ≤ n ∧ n < 7 * f + 7 then 0 else σ.1 27 n j) ∧
  (∀ n j, G 15 n j = if n = f ∧ j < 7 then σ.1 3 (7 * 0 + j) 4 else σ.1 15 n j) ∧ (∀ n j, ¬ n = f → G 14 n j = σ.1 14 n j) ∧
  (∀ n j, G 0 n j = if n = f ∧ j = 7 then u else if n = f ∧ j = 8 then v else if n = f ∧ (j = 4 ∨ j = 9 ∨ j = 10 ∨ j = 11) then 0 else σ.1 0 n j) ∧ (∀ k, ¬ k = 0 → ¬ k = 14 → ¬ k = 15 → ¬ k = 26 → ¬ k = 27 → G k = σ.1 k)
def cBl (σ : zS) (G : Nat → Nat → Nat → Int) (f : Nat) (r : Nat) : Prop := (∀ n j, G 15 n j = if n = f ∧ j < r then σ.1 3 (7 * 0 + j) 4 else σ.1 15 n j) ∧ (∀ k, ¬ k = 15 → G k = σ.1 k)
theorem zs_0 {d : Nat} {σ : zS} {Q : Option zV → zS → Prop} {f : Nat} {u v : Int} {D : uT} (T6 : ∀ h j, h < uN D → j < 7 → cH σ h j = D (8 + j) h) (hn : σ.1 8 0 8 = (uN D : Int)) (hN : uN D ≤ 16)
    (h : ∀ G : Nat → Nat → Nat → Int, cOrd (zG σ G) f D → cBeg σ G f u v → Q none (zG σ G)) : zM (d + 12) 0 [.inr (.inr (0, f)), .inl u, .inl v] σ Q := by
  refine zX_run (n' := 10) (ls' := [some (.inr (.inr (0, f))), some (.inl u), some (.inl v), none]) (st' := [.inr (.inr (0, f))]) (σ' := zU (zU (zU σ 0 f 7 u) 0 f 8 v) 0 f 9 0) 10 rfl ?_
  refine zX_call rfl rfl ?_
  have e0 : zU (zU (zU σ 0 f 7 u) 0 f 8 v) 0 f 9 0 = zG σ (uG (uG (uG σ.1 0 f 7 u) 0 f 8 v) 0 f 9 0) := by
    conv => lhs; rw [zG_self (σ := σ)]
    rw [zG_U rfl, zG_U rfl, zG_U rfl]
  rw [e0]
  generalize hA : uG (uG (uG σ.1 0 f 7 u) 0 f 8 v) 0 f 9 0 = A
  have A0 : ∀ n j, A 0 n j = if n = f ∧ j = 7 then u else if n = f ∧ j = 8 then v else if n = f ∧ j = 9 then 0 else σ.1 0 n j := by
    intro n j
    subst hA
    show (if 0 = 0 ∧ j = 9 ∧ n = f then _ else if 0 = 0 ∧ j = 8 ∧ n = f then _ else if 0 = 0 ∧ j = 7 ∧ n = f then _ else _) = _
    (repeat' split) <;> first | rfl | omega
  have Ak : ∀ k, ¬ k = 0 → A k = σ.1 k := by
    intro k hk; subst hA
    exact funext fun n => funext fun j => (if_neg (fun q => hk q.1)).trans ((if_neg (fun q => hk q.1)).trans (if_neg (fun q => hk q.1)))
  refine zs_6 (σ := zG σ A) (D := D) T6 hn hN (fun G1 o1 F1 => ?_)
  rw [zG_H] at o1 ⊢
  refine zX_run (n' := 13) (ls' := [some (.inr (.inr (0, f))), some (.inl u), some (.inl v), some (.inl 0)]) (st' := []) (σ' := zG σ G1) 2 rfl ?_
  have L := zLoop (P := fun r => ∀ G : Nat → Nat → Nat → Int, cBl (zG σ G1) G f r → zX (d + 12) 0 13 [some (.inr (.inr (0, f))), some (.inl u), some (.inl v), some (.inl (r : Int))] [] (zG σ G) Q) (k := 0) (N := 7) (by omega) (fun G I => ?_) (fun r _ hr ih G I => ?_)
  · refine L G1 ⟨fun n j => ?_, fun k hk => ?_⟩
    · rw [if_neg (by omega)]; rfl
    · by_cases a : fk k = true
      · exact (zG_k a).symm
      · rw [F1.1 k (fk_ne a rfl)]
        show (if fk k = true then A k else σ.1 k) = (if fk k = true then G1 k else σ.1 k)
        rw [if_neg a, if_neg a]
  · refine zb_0l (fun q => absurd (by decide) q) (fun _ => ?_) (fun q => absurd (by decide) q)
    rw [zG_U rfl, zG_U rfl]
    refine zX_call rfl rfl ?_
    refine zs_1 (fun G2 R => ?_)
    rw [zG_H]
    refine zX_ret0 rfl rfl ?_
    obtain ⟨R1, R2, R3, R4⟩ := R
    generalize hB : uG (uG G 0 f 10 0) 0 f 4 0 = B at R1 R2 R3 R4
    have B0 : ∀ n j, B 0 n j = if n = f ∧ (j = 10 ∨ j = 4) then 0 else G 0 n j := by
      intro n j; subst hB
      show (if 0 = 0 ∧ j = 4 ∧ n = f then _ else if 0 = 0 ∧ j = 10 ∧ n = f then _ else _) = _
      (repeat' split) <;> first | rfl | omega
    have Bk : ∀ k, ¬ k = 0 → B k = G k := by
      intro k hk; subst hB
      exact funext fun n => funext fun j => (if_neg (fun q => hk q.1)).trans (if_neg (fun q => hk q.1))
    have g1k : ∀ k, ¬ k = 14 → fk k = true → G1 k = A k := fun k hk a => (F1.1 k hk).trans (zG_k a)
    have gk : ∀ k, ¬ k = 15 → fk k = true → G k = G1 k := fun k hk a => (I.2 k hk).trans (zG_k a)
    have r14 : G2 14 = G1 14 := (R4 14 (by decide) (by decide) (by decide)).trans ((show (zG σ B).1 14 = B 14 from rfl).trans ((Bk 14 (by decide)).trans (gk 14 (by decide) rfl)))
    refine h G2 (fun i hi => ?_) ⟨fun n j => ?_, fun n j => ?_, fun n j => ?_, fun n j hn => ?_, fun n j => ?_, fun k k0 k1 k2 k3 k4 => ?_⟩
    · rw [show (zG σ G2).1 14 = G2 14 from rfl, r14]; exact o1 i hi
    · rw [R1, show (zG σ B).1 26 = B 26 from rfl, Bk 26 (by decide), gk 26 (by decide) rfl, g1k 26 (by decide) rfl, Ak 26 (by decide)]; rfl
    · rw [R2, show (zG σ B).1 27 = B 27 from rfl, Bk 27 (by decide), gk 27 (by decide) rfl, g1k 27 (by decide) rfl, Ak 27 (by decide)]
    · rw [R4 15 (by decide) (by decide) (by decide), show (zG σ B).1 15 = B 15 from rfl, Bk 15 (by decide), I.1]
      rw [show (zG σ G1).1 15 = G1 15 from rfl, g1k 15 (by decide) rfl, Ak 15 (by decide)]
      rfl
    · rw [r14, F1.2 n j hn, show (zG σ A).1 14 = A 14 from rfl, Ak 14 (by decide)]
    · rw [R3, show (zG σ B).1 0 = B 0 from rfl, B0, gk 0 (by decide) rfl, g1k 0 (by decide) rfl, A0]
      (repeat' split) <;> first | rfl | omega
    · rw [R4 k k0 k3 k4]
      by_cases a : fk k = true
      · rw [zG_k a, Bk k k0, gk k k2 a, g1k k k1 a, Ak k k0]
      · show (if fk k = true then B k else σ.1 k) = σ.1 k
        rw [if_neg a]
  · refine zb_0l (fun _ => by omega) (fun q => absurd q (by omega)) (fun _ => ?_)
    rw [zG_U rfl, zWs (by omega)]
    refine ih _ ⟨fun n j => ?_, fun k hk => (funext fun n => funext fun j => if_neg (fun q => hk q.1)).trans (I.2 k hk)⟩
    show (if 15 = 15 ∧ j = r ∧ n = f then σ.1 3 (7 * 0 + r) 4 else G 15 n j) = _
    by_cases e : j = r ∧ n = f
    · rw [if_pos ⟨rfl, e⟩, if_pos (by omega), e.1]; rfl
    · rw [if_neg (fun q => e q.2), I.1]
      by_cases e2 : n = f ∧ j < r
      · rw [if_pos e2, if_pos (by omega)]
      · rw [if_neg e2, if_neg (by omega)]
