-- the class works a flow to a month (wip/whole/gen/laws12.py)
def cL0 (s : zS) (f : Nat) (D : uT) : Prop := ∀ r, r < 7 → ¬ D 3 r = 0 → s.1 26 (7 * f + r) 0 = D 5 r ∧ s.1 27 (7 * f + r) 0 = 0
def cMn (G : Nat → Nat → Nat → Int) (f : Nat) (D : uT) (m : Nat) : Prop := (∀ r, r < 7 → cRow G f D (uV D m) m r) ∧ ∀ h, h < uN D → G 17 (16 * f + h) m = uWants D h m (uLevs D (uV D m)) ∧ G 18 (16 * f + h) m = uV D (m + 1) 2 h
/-- a flow that is worked for the first k months, and ready for rd -/
def cFl (s : zS) (f : Nat) (D : uT) (k rd : Nat) : Prop := cDw s f D ∧ cDh s f D ∧ cOrd s f D ∧ (s.1 0 f 11 = (k : Int) ∧ s.1 0 f 10 = (rd : Int) ∧ s.1 0 f 4 = 0 ∧ k ≤ 96 ∧ rd ≤ 96) ∧ (∀ m, m < rd → cRm s f D m) ∧ cL0 s f D ∧ (∀ m, m < k → cMn s.1 f D m)
/-- what a flow's working leaves as it was -/
def cFr (σ : zS) (G : Nat → Nat → Nat → Int) (f : Nat) : Prop := (∀ j, ¬ (10 ≤ j ∧ j ≤ 13) → G 0 f j = σ.1 0 f j) ∧ (∀ n j, ¬ n = f → G 0 n j = σ.1 0 n j ∧ G 13 n j = σ.1 13 n j) ∧ G 14 = σ.1 14 ∧ G 15 = σ.1 15 ∧
  (∀ k, 16 ≤ k → k ≤ 18 → ∀ n j, ¬ (16 * f ≤ n ∧ n < 16 * f + 16) → G k n j = σ.1 k n j) ∧ (∀ k, 19 ≤ k → k ≤ 27 → ∀ n j, ¬ (7 * f ≤ n ∧ n < 7 * f + 7) → G k n j = σ.1 k n j)
theorem uRet_z {D : uT} {r : Nat} : uRet D (uV0 D) r = 0 ∧ uRetS D (uV0 D) r = 0 := by
  have g : ∀ k, uGb k 0 = 0 := fun k => by unfold uGb; rw [Int.zero_mul]; rfl
  constructor
  · unfold uRet; rw [uSum_congr (g := fun _ => 0) (fun h _ => by show (if _ then uGb (D 8 h) 0 else 0) = 0; rw [g]; split <;> rfl), uSum_const]; omega
  · unfold uRetS; rw [uSum_congr (g := fun _ => 0) (fun h _ => by show (if _ then (0 : Int) else 0) = 0; split <;> rfl), uSum_const]; omega
theorem cFl_in {s : zS} {f m rd : Nat} {D : uT} (F : cFl s f D m rd) : cVin s f D (uV D m) m := by
  obtain ⟨-, -, -, -, -, F6, F7⟩ := F
  cases m with
  | zero =>
    refine ⟨fun r hr ht => ?_, fun q => absurd q (by omega), fun _ r => uRet_z⟩
    have := F6 r hr ht
    refine ⟨this.1.trans ?_, this.2⟩
    show _ = (if D 3 r = 0 then 0 else D 5 r); rw [if_neg ht]
  | succ m =>
    have M := F7 m (by omega)
    refine ⟨fun r hr ht => (M.1 r hr).2.2.2.2.2.2.2 ht, fun _ r hr => ?_, fun q => by omega⟩
    exact ⟨(M.1 r hr).2.2.2.2.2.1, (M.1 r hr).2.2.2.2.2.2.1⟩
theorem cRm_G {σ : zS} {G : Nat → Nat → Nat → Int} {f m : Nat} {D : uT} (h7 : G 0 f 7 = σ.1 0 f 7) (h8 : G 0 f 8 = σ.1 0 f 8) (h13 : G 13 f m = σ.1 13 f m) (h16 : ∀ h, h < uN D → G 16 (16 * f + h) m = σ.1 16 (16 * f + h) m) (R : cRm σ f D m) : cRm (zG σ G) f D m := by
  refine ⟨?_, fun h hh => ?_⟩
  · show G 13 f m = (cShut (zG σ G) (m : Int) (G 0 f 7) : Int)
    rw [h13, h7]; exact R.1
  · rw [cRdv_G h8]; exact (h16 h hh).trans (R.2 h hh)
set_option maxHeartbeats 1000000 in
theorem zs_2s {d : Nat} {τ : zS} {Q : Option zV → zS → Prop} {f m rd : Nat} {M : Int} {D : uT} (O : uOk D) (hf : f < 2) (hm : m < 96) (hM : (m : Int) < M) (F : cFl τ f D m rd) (hrd : m ≤ rd)
    (cont : ∀ G : Nat → Nat → Nat → Int, cFl (zG τ G) f D (m + 1) (if rd ≤ m then m + 1 else rd) → cFr τ G f → zX (d + 14) 2 10 [some (.inr (.inr (0, f))), some (.inl M), some (.inl ((m + 1 : Nat) : Int))] [] (zG τ G) Q) :
    zX (d + 14) 2 10 [some (.inr (.inr (0, f))), some (.inl M), some (.inl (m : Int))] [] τ Q := by
  have I := cFl_in F
  obtain ⟨F1, F2, F3, ⟨F4, F4b, F4c, F4d, F4e⟩, F5, F6, F7⟩ := F
  have hV := uV_k O m (by omega)
  have key : ∀ G1 : Nat → Nat → Nat → Int, cRm (zG τ G1) f D m → (∀ n j, ¬ (n = f ∧ j = 10) → G1 0 n j = τ.1 0 n j) → G1 0 f 10 = ((if rd ≤ m then m + 1 else rd : Nat) : Int) → (∀ n j, ¬ (n = f ∧ j = m) → G1 13 n j = τ.1 13 n j) → (m < rd → G1 13 f m = τ.1 13 f m) →
      (∀ n j, ¬ (j = m ∧ 16 * f ≤ n ∧ n < 16 * f + 16) → G1 16 n j = τ.1 16 n j) → (∀ k, ¬ k = 0 → ¬ k = 13 → ¬ k = 16 → ¬ k = 44 → ¬ k = 45 → G1 k = τ.1 k) →
      zX (d + 14) 2 23 [some (.inr (.inr (0, f))), some (.inl M), some (.inl (m : Int))] [] (zG τ G1) Q := by
    intro G1 R g0 g0b g13 g13b g16 gk
    have T1 : cDw (zG τ G1) f D := cDw_G F1 (fun r _ => by rw [gk 15 (by decide) (by decide) (by decide) (by decide) (by decide)])
    have H1 : cDh (zG τ G1) f D := cDh_G F2 (g0 f 7 (by omega)) (g0 f 8 (by omega)) (g0 f 9 (by omega))
    refine zX_run (n' := 25) (ls' := [some (.inr (.inr (0, f))), some (.inl M), some (.inl (m : Int))]) (st' := [.inl (m : Int), .inr (.inr (0, f))]) (σ' := zG τ G1) 2 rfl ?_
    refine zX_call rfl rfl ?_
    refine zs_10 (d := d + 1) (V := uV D m) O hm T1 H1 R (fun r hr ht => ?_) (fun G2 S => ?_)
    · rw [show (zG τ G1).1 26 = G1 26 from rfl, gk 26 (by decide) (by decide) (by decide) (by decide) (by decide)]
      exact (I.1 r hr ht).1
    rw [zG_H]
    obtain ⟨S1, S2, S3⟩ := S
    have s3 : ∀ k, fk k = true → ¬ k = 17 → ¬ k = 44 → ¬ k = 45 → G2 k = G1 k := fun k hk a b c => (S3 k a b c).trans (zG_k hk)
    have h15 : G2 15 = τ.1 15 := (s3 15 rfl (by decide) (by decide) (by decide)).trans (gk 15 (by decide) (by decide) (by decide) (by decide) (by decide))
    have h14 : G2 14 = τ.1 14 := (s3 14 rfl (by decide) (by decide) (by decide)).trans (gk 14 (by decide) (by decide) (by decide) (by decide) (by decide))
    have h0 : G2 0 = G1 0 := s3 0 rfl (by decide) (by decide) (by decide)
    have hrow : ∀ k, 18 ≤ k → k ≤ 27 → G2 k = τ.1 k := fun k a b => (s3 k (by rcases (show k = 18 ∨ k = 19 ∨ k = 20 ∨ k = 21 ∨ k = 22 ∨ k = 23 ∨ k = 24 ∨ k = 25 ∨ k = 26 ∨ k = 27 by omega) with rfl | rfl | rfl | rfl | rfl | rfl | rfl | rfl | rfl | rfl <;> rfl) (by omega) (by omega) (by omega)).trans (gk k (by omega) (by omega) (by omega) (by omega) (by omega))
    refine zX_run (n' := 28) (ls' := [some (.inr (.inr (0, f))), some (.inl M), some (.inl (m : Int))]) (st' := [.inl (m : Int), .inr (.inr (0, f))]) (σ' := zG τ G2) 2 rfl ?_
    refine zX_call rfl rfl ?_
    refine zs_7 (V := uV D m) O hf hm hV (cDw_G F1 (fun r _ => by rw [h15])) (fun i hi => by rw [show (zG τ G2).1 14 = G2 14 from rfl, h14]; exact F3 i hi) ⟨fun r hr ht => ?_, fun m0 r hr => ?_, I.2.2⟩ (fun h hh => S1 h hh) (fun G3 J => ?_)
    · rw [show (zG τ G2).1 26 = G2 26 from rfl, show (zG τ G2).1 27 = G2 27 from rfl, hrow 26 (by decide) (by decide), hrow 27 (by decide) (by decide)]
      exact I.1 r hr ht
    · rw [show (zG τ G2).1 24 = G2 24 from rfl, show (zG τ G2).1 25 = G2 25 from rfl, hrow 24 (by decide) (by decide), hrow 25 (by decide) (by decide)]
      exact I.2.1 m0 r hr
    rw [zG_H]
    obtain ⟨J1, J2, J3, J4, J5, J6, J7⟩ := J
    refine zb_2e ?_
    rw [zG_U rfl, zWs (by omega)]
    have j5 : ∀ k, fk k = true → ¬ k = 0 → ¬ (18 ≤ k ∧ k ≤ 27) → G3 k = G2 k := fun k hk a b => (J5 k a b).trans (zG_k hk)
    generalize hE : uG G3 0 f 11 ((m + 1 : Nat) : Int) = G4
    have e0 : ∀ n j, G4 0 n j = if n = f ∧ j = 11 then ((m + 1 : Nat) : Int) else G3 0 n j := by
      intro n j; subst hE
      show (if 0 = 0 ∧ j = 11 ∧ n = f then _ else _) = _
      (repeat' split) <;> first | rfl | omega
    have ek : ∀ k, ¬ k = 0 → G4 k = G3 k := by
      intro k hk; subst hE; exact funext fun n => funext fun j => if_neg (fun q => hk q.1)
    have q0 : ∀ n j, ¬ (n = f ∧ (10 ≤ j ∧ j ≤ 13)) → G4 0 n j = τ.1 0 n j := by
      intro n j hn
      rw [e0, if_neg (by omega), J1 n j (by omega), show (zG τ G2).1 0 = G2 0 from rfl, h0, g0 n j (by omega)]
    have q13 : G4 13 = G1 13 := (ek 13 (by decide)).trans ((j5 13 rfl (by decide) (by decide)).trans (s3 13 rfl (by decide) (by decide) (by decide)))
    have q14 : G4 14 = τ.1 14 := (ek 14 (by decide)).trans ((j5 14 rfl (by decide) (by decide)).trans h14)
    have q15 : G4 15 = τ.1 15 := (ek 15 (by decide)).trans ((j5 15 rfl (by decide) (by decide)).trans h15)
    have q16 : G4 16 = G1 16 := (ek 16 (by decide)).trans ((j5 16 rfl (by decide) (by decide)).trans (s3 16 rfl (by decide) (by decide) (by decide)))
    have q17 : G4 17 = G2 17 := (ek 17 (by decide)).trans (j5 17 rfl (by decide) (by decide))
    have q17b : ∀ n j, ¬ (j = m ∧ 16 * f ≤ n ∧ n < 16 * f + 16) → G4 17 n j = τ.1 17 n j := by
      intro n j hn
      have N16 := O.2.2.2.2.1
      rw [q17, S2 n j (fun ⟨a, h, b, c⟩ => hn ⟨a, by omega, by omega⟩), show (zG τ G1).1 17 = G1 17 from rfl, gk 17 (by decide) (by decide) (by decide) (by decide) (by decide)]
    have q18b : ∀ n j, ¬ (j = m ∧ 16 * f ≤ n ∧ n < 16 * f + 16) → G4 18 n j = τ.1 18 n j := by
      intro n j hn
      have N16 := O.2.2.2.2.1
      rw [ek 18 (by decide), J4 n j (fun ⟨a, h, b, c, e⟩ => hn ⟨a, by omega, by omega⟩), show (zG τ G2).1 18 = G2 18 from rfl, hrow 18 (by decide) (by decide)]
    have qrow : ∀ k, 19 ≤ k → k ≤ 25 → ∀ n j, ¬ (j = m ∧ 7 * f ≤ n ∧ n < 7 * f + 7) → G4 k n j = τ.1 k n j := by
      intro k a b n j hn
      rw [ek k (by omega), J2 k a b n j (fun ⟨e, x, h1, h2⟩ => hn ⟨e, by omega, by omega⟩)]
      have hk : fk k = true := by rcases (show k = 19 ∨ k = 20 ∨ k = 21 ∨ k = 22 ∨ k = 23 ∨ k = 24 ∨ k = 25 by omega) with rfl | rfl | rfl | rfl | rfl | rfl | rfl <;> rfl
      rw [zG_k hk, hrow k (by omega) (by omega)]
    have qlev : ∀ k, k = 26 ∨ k = 27 → ∀ n j, ¬ (j = m + 1 ∧ 7 * f ≤ n ∧ n < 7 * f + 7) → G4 k n j = τ.1 k n j := by
      intro k a n j hn
      rw [ek k (by omega), J3 k a n j (fun ⟨e, x, h1, h2⟩ => hn ⟨e, by omega, by omega⟩)]
      have hk : fk k = true := by rcases a with rfl | rfl <;> rfl
      rw [zG_k hk, hrow k (by omega) (by omega)]
    have N16 := O.2.2.2.2.1
    refine cont G4 ⟨cDw_G F1 (fun r _ => by rw [q15]), cDh_G F2 (q0 f 7 (by omega)) (q0 f 8 (by omega)) (q0 f 9 (by omega)), fun i hi => by rw [show (zG τ G4).1 14 = G4 14 from rfl, q14]; exact F3 i hi, ⟨?_, ?_, (q0 f 4 (by omega)).trans F4c, by omega, by split <;> omega⟩, fun x hx => ?_, fun r hr ht => ?_, fun x hx => ?_⟩ ⟨fun j hj => q0 f j (fun q => hj q.2), fun n j hn => ⟨q0 n j (fun q => hn q.1), ?_⟩, q14, q15, fun k a b n j hn => ?_, fun k a b n j hn => ?_⟩
    · show G4 0 f 11 = _; rw [e0, if_pos ⟨rfl, rfl⟩]
    · show G4 0 f 10 = _
      rw [e0, if_neg (by omega), J1 f 10 (by omega), show (zG τ G2).1 0 = G2 0 from rfl, h0]; exact g0b
    · by_cases e : x = m
      · subst e
        have : cRm (zG (zG τ G1) G4) f D x := cRm_G (by rw [q0 f 7 (by omega)]; exact (g0 f 7 (by omega)).symm) (by rw [q0 f 8 (by omega)]; exact (g0 f 8 (by omega)).symm) (by rw [q13]; rfl) (fun h _ => by rw [q16]; rfl) R
        rw [zG_H] at this
        exact this
      · have hx2 : x < rd := by split at hx <;> omega
        exact cRm_G (q0 f 7 (by omega)) (q0 f 8 (by omega)) (by rw [q13]; exact g13 f x (by omega)) (fun h hh => by rw [q16]; exact g16 _ _ (by omega)) (F5 x hx2)
    · have := F6 r hr ht
      rw [show (zG τ G4).1 26 = G4 26 from rfl, show (zG τ G4).1 27 = G4 27 from rfl, qlev 26 (Or.inl rfl) _ _ (by omega), qlev 27 (Or.inr rfl) _ _ (by omega)]
      exact this
    · by_cases e : x = m
      · subst e
        refine ⟨fun r hr => ?_, fun h hh => ⟨?_, ?_⟩⟩
        · have := J6 r hr
          obtain ⟨c1, c2, c3, c4, c5, c6, c7, c8⟩ := this
          exact ⟨(congrFun (congrFun (ek 19 (by decide)) _) _).trans c1, (congrFun (congrFun (ek 20 (by decide)) _) _).trans c2, (congrFun (congrFun (ek 21 (by decide)) _) _).trans c3, (congrFun (congrFun (ek 22 (by decide)) _) _).trans c4, (congrFun (congrFun (ek 23 (by decide)) _) _).trans c5, (congrFun (congrFun (ek 24 (by decide)) _) _).trans c6, (congrFun (congrFun (ek 25 (by decide)) _) _).trans c7, fun ht => ⟨(congrFun (congrFun (ek 26 (by decide)) _) _).trans (c8 ht).1, (congrFun (congrFun (ek 27 (by decide)) _) _).trans (c8 ht).2⟩⟩
        · show G4 17 _ _ = _; rw [q17]; exact S1 h hh
        · show G4 18 _ _ = _; rw [ek 18 (by decide)]
          exact J7 h hh (by have := (O.2.2.2.2.2 h hh).2.2.1.2; omega)
      · have Mx := F7 x (by omega)
        refine ⟨fun r hr => ?_, fun h hh => ⟨(q17b _ _ (by omega)).trans (Mx.2 h hh).1, (q18b _ _ (by omega)).trans (Mx.2 h hh).2⟩⟩
        obtain ⟨c1, c2, c3, c4, c5, c6, c7, c8⟩ := Mx.1 r hr
        exact ⟨(qrow 19 (by decide) (by decide) _ _ (by omega)).trans c1, (qrow 20 (by decide) (by decide) _ _ (by omega)).trans c2, (qrow 21 (by decide) (by decide) _ _ (by omega)).trans c3, (qrow 22 (by decide) (by decide) _ _ (by omega)).trans c4, (qrow 23 (by decide) (by decide) _ _ (by omega)).trans c5, (qrow 24 (by decide) (by decide) _ _ (by omega)).trans c6, (qrow 25 (by decide) (by decide) _ _ (by omega)).trans c7, fun ht => ⟨(qlev 26 (Or.inl rfl) _ _ (by omega)).trans (c8 ht).1, (qlev 27 (Or.inr rfl) _ _ (by omega)).trans (c8 ht).2⟩⟩
    · rw [q13]; exact g13 n j (fun q => hn q.1)
    · rcases (show k = 16 ∨ k = 17 ∨ k = 18 by omega) with rfl | rfl | rfl
      · rw [q16]; exact g16 n j (fun q => hn q.2)
      · exact q17b n j (fun q => hn q.2)
      · exact q18b n j (fun q => hn q.2)
    · by_cases c : k ≤ 25
      · exact qrow k a c n j (fun q => hn q.2)
      · exact qlev k (by omega) n j (fun q => hn q.2)
  refine zb_2h (fun q => absurd q (by omega)) (fun _ q => absurd q (by omega)) (fun _ _ q => ?_) (fun _ _ q => ?_)
  · have hlt : m < rd := by omega
    conv => arg 6; rw [zG_self (σ := τ)]
    refine key τ.1 ?_ (fun _ _ _ => rfl) ?_ (fun _ _ _ => rfl) (fun _ => rfl) (fun _ _ _ => rfl) (fun _ _ _ _ _ _ => rfl)
    · rw [← zG_self]; exact F5 m hlt
    · rw [if_neg (by omega)]; exact F4b
  · have hge : rd ≤ m := by omega
    have N16 := O.2.2.2.2.1
    refine zX_run (n' := 22) (ls' := [some (.inr (.inr (0, f))), some (.inl M), some (.inl (m : Int))]) (st' := [.inl (m : Int), .inr (.inr (0, f))]) (σ' := τ) 2 rfl ?_
    refine zX_call rfl rfl ?_
    refine zs_8 (d := d + 1) O hm F1 F2 (fun G r1 r2 r3 r4 r5 => ?_)
    refine key G ⟨?_, fun h hh => ?_⟩ (fun n j hn => by rw [r4, if_neg (fun q => hn ⟨q.2, q.1⟩)]) (by rw [r4, if_pos ⟨rfl, rfl⟩, if_pos hge]) (fun n j hn => by rw [r3, if_neg (fun q => hn ⟨q.2, q.1⟩)]) (fun q => absurd q (by omega)) (fun n j hn => r2 n j (fun ⟨a, h, b, c⟩ => hn ⟨a, by omega, by omega⟩)) r5
    · show G 13 f m = (cShut (zG τ G) (m : Int) (G 0 f 7) : Int)
      rw [r3, if_pos ⟨rfl, rfl⟩, r4, if_neg (by omega)]; rfl
    · rw [cRdv_G (by rw [r4, if_neg (by omega)])]; exact r1 h hh
