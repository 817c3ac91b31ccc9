-- the reference reads a text whole (wip/whole/gen/laws84.py)
-- X10_isText
theorem zb_150 {d : Nat} {σ : zS} {Q : Option zV → zS → Prop} 
    (h1 : zX (d + 22) 150 7 [some (.inr (.inr (10, 0)))] [.inr (.inr (10, 0))] (zU (zU σ 10 0 55 0) 10 0 59 0) Q) :
    zM (d + 22) 150 [.inr (.inr (10, 0))] σ Q := by
  refine zX_run (n' := 7) (ls' := [some (.inr (.inr (10, 0)))]) (st' := [.inr (.inr (10, 0))]) (σ' := (zU (zU σ 10 0 55 0) 10 0 59 0)) 7 rfl ?_
  exact h1
-- X10_isText
theorem zb_150_8 {d : Nat} {σ : zS} {Q : Option zV → zS → Prop} 
    (h1 : ¬ σ.1 10 0 56 = 22 → Q (some (.inl 0)) σ)
    (h2 : σ.1 10 0 56 = 22 → zX (d + 22) 150 13 [some (.inr (.inr (10, 0)))] [.inr (.inr (10, 0))] σ Q) :
    zX (d + 22) 150 8 [some (.inr (.inr (10, 0)))] [] σ Q := by
  refine zX_run (n' := 11) (ls' := [some (.inr (.inr (10, 0)))]) (st' := [.inl 22, .inl (σ.1 10 0 56)]) (σ' := σ) 3 rfl ?_
  refine zX_c1 rfl (fun a1 => ?_) (fun a1 => ?_)
  · skip
    refine zX_run (n' := 16) (ls' := [some (.inr (.inr (10, 0)))]) (st' := [.inl 0]) (σ' := σ) 1 rfl ?_
    exact zX_ret rfl rfl (h1 a1)
  · skip
    refine zX_run (n' := 13) (ls' := [some (.inr (.inr (10, 0)))]) (st' := [.inr (.inr (10, 0))]) (σ' := σ) 1 rfl ?_
    exact h2 a1
-- X10_isText
theorem zb_150_14 {d : Nat} {σ : zS} {Q : Option zV → zS → Prop} {v : Int}
    (h1 : ¬ v = 0 → zX (d + 22) 150 22 [some (.inr (.inr (10, 0)))] [.inr (.inr (10, 0))] (zU σ 10 0 64 (σ.1 10 0 59)) Q)
    (h2 : v = 0 → Q (some (.inl 0)) σ) :
    zX (d + 22) 150 14 [some (.inr (.inr (10, 0)))] [.inl v] σ Q := by
  refine zX_i1 rfl (fun a1 => ?_) (fun a1 => ?_)
  · skip
    refine zX_run (n' := 22) (ls' := [some (.inr (.inr (10, 0)))]) (st' := [.inr (.inr (10, 0))]) (σ' := (zU σ 10 0 64 (σ.1 10 0 59))) 5 rfl ?_
    exact h1 a1
  · skip
    refine zX_run (n' := 16) (ls' := [some (.inr (.inr (10, 0)))]) (st' := [.inl 0]) (σ' := σ) 1 rfl ?_
    exact zX_ret rfl rfl (h2 a1)
-- X10_isText
theorem zb_150_23 {d : Nat} {σ : zS} {Q : Option zV → zS → Prop} 
    (h1 : ¬ σ.1 10 0 56 = 23 → Q (some (.inl 0)) σ)
    (h2 : σ.1 10 0 56 = 23 → zX (d + 22) 150 28 [some (.inr (.inr (10, 0)))] [.inr (.inr (10, 0))] σ Q) :
    zX (d + 22) 150 23 [some (.inr (.inr (10, 0)))] [] σ Q := by
  refine zX_run (n' := 26) (ls' := [some (.inr (.inr (10, 0)))]) (st' := [.inl 23, .inl (σ.1 10 0 56)]) (σ' := σ) 3 rfl ?_
  refine zX_c1 rfl (fun a1 => ?_) (fun a1 => ?_)
  · skip
    refine zX_run (n' := 31) (ls' := [some (.inr (.inr (10, 0)))]) (st' := [.inl 0]) (σ' := σ) 1 rfl ?_
    exact zX_ret rfl rfl (h1 a1)
  · skip
    refine zX_run (n' := 28) (ls' := [some (.inr (.inr (10, 0)))]) (st' := [.inr (.inr (10, 0))]) (σ' := σ) 1 rfl ?_
    exact h2 a1
-- X10_isText
theorem zb_150_29 {d : Nat} {σ : zS} {Q : Option zV → zS → Prop} {v : Int}
    (h1 : ¬ v = 0 → zX (d + 22) 150 33 [some (.inr (.inr (10, 0)))] [.inr (.inr (10, 0))] σ Q)
    (h2 : v = 0 → Q (some (.inl 0)) σ) :
    zX (d + 22) 150 29 [some (.inr (.inr (10, 0)))] [.inl v] σ Q := by
  refine zX_i1 rfl (fun a1 => ?_) (fun a1 => ?_)
  · skip
    refine zX_run (n' := 33) (ls' := [some (.inr (.inr (10, 0)))]) (st' := [.inr (.inr (10, 0))]) (σ' := σ) 1 rfl ?_
    exact h1 a1
  · skip
    refine zX_run (n' := 31) (ls' := [some (.inr (.inr (10, 0)))]) (st' := [.inl 0]) (σ' := σ) 1 rfl ?_
    exact zX_ret rfl rfl (h2 a1)
-- X10_isText
theorem zb_150_34 {d : Nat} {σ : zS} {Q : Option zV → zS → Prop} 
    (h1 : ¬ σ.1 10 0 56 = 25 → Q (some (.inl 0)) σ)
    (h2 : σ.1 10 0 56 = 25 → Q (some (.inl 1)) σ) :
    zX (d + 22) 150 34 [some (.inr (.inr (10, 0)))] [] σ Q := by
  refine zX_run (n' := 37) (ls' := [some (.inr (.inr (10, 0)))]) (st' := [.inl 25, .inl (σ.1 10 0 56)]) (σ' := σ) 3 rfl ?_
  refine zX_c1 rfl (fun a1 => ?_) (fun a1 => ?_)
  · skip
    refine zX_run (n' := 41) (ls' := [some (.inr (.inr (10, 0)))]) (st' := [.inl 0]) (σ' := σ) 1 rfl ?_
    exact zX_ret rfl rfl (h1 a1)
  · skip
    refine zX_run (n' := 41) (ls' := [some (.inr (.inr (10, 0)))]) (st' := [.inl 1]) (σ' := σ) 2 rfl ?_
    exact zX_ret rfl rfl (h2 a1)
-- X10_text
theorem zb_151 {d : Nat} {σ : zS} {Q : Option zV → zS → Prop} 
    (h1 : ¬ σ.1 10 0 6 = 6 → zX (d + 24) 151 7 [some (.inr (.inr (10, 0))), none, none] [.inr (.inr (10, 0))] σ Q)
    (h2 : σ.1 10 0 6 = 6 → Q (some (.inl (-4))) σ) :
    zM (d + 24) 151 [.inr (.inr (10, 0))] σ Q := by
  refine zX_run (n' := 3) (ls' := [some (.inr (.inr (10, 0))), none, none]) (st' := [.inl 6, .inl (σ.1 10 0 6)]) (σ' := σ) 3 rfl ?_
  refine zX_c1 rfl (fun a1 => ?_) (fun a1 => ?_)
  · skip
    refine zX_run (n' := 7) (ls' := [some (.inr (.inr (10, 0))), none, none]) (st' := [.inr (.inr (10, 0))]) (σ' := σ) 1 rfl ?_
    exact h1 a1
  · skip
    refine zX_run (n' := 5) (ls' := [some (.inr (.inr (10, 0))), none, none]) (st' := [.inl (-4)]) (σ' := σ) 1 rfl ?_
    exact zX_ret rfl rfl (h2 a1)
-- X10_text
theorem zb_151b {d : Nat} {σ : zS} {Q : Option zV → zS → Prop} {v : Int}
    (o1 : ¬ v = 0 → (0 : Int) ≤ σ.1 10 0 6 ∧ σ.1 10 0 6 < (6 : Int))
    (h1 : ¬ v = 0 → zX (d + 24) 151 35 [some (.inr (.inr (10, 0))), some (.inl v), some (.inl 0)] [] (zU (zU (zU σ 10 0 7 0) 73 0 ((σ.1 10 0 6).toNat) (σ.1 10 0 64)) 72 0 ((σ.1 10 0 6).toNat) (σ.1 10 0 59)) Q)
    (h2 : v = 0 → Q (some (.inl (zW ((-100) - (σ.1 10 0 57))))) (zU σ 10 0 7 0)) :
    zX (d + 24) 151 8 [some (.inr (.inr (10, 0))), none, none] [.inl v] σ Q := by
  refine zX_run (n' := 13) (ls' := [some (.inr (.inr (10, 0))), some (.inl v), none]) (st' := [.inl v]) (σ' := (zU σ 10 0 7 0)) 5 rfl ?_
  refine zX_i1 rfl (fun a1 => ?_) (fun a1 => ?_)
  · skip
    refine zX_run (n' := 25) (ls' := [some (.inr (.inr (10, 0))), some (.inl v), none]) (st' := [.inl (σ.1 10 0 64), .inl (σ.1 10 0 6), .inr (.inr (73, 0))]) (σ' := (zU σ 10 0 7 0)) 6 rfl ?_
    refine zX_ast1 (L := 6) rfl (by decide) rfl (o1 a1) ?_
    refine zX_run (n' := 32) (ls' := [some (.inr (.inr (10, 0))), some (.inl v), none]) (st' := [.inl (σ.1 10 0 59), .inl (σ.1 10 0 6), .inr (.inr (72, 0))]) (σ' := (zU (zU σ 10 0 7 0) 73 0 ((σ.1 10 0 6).toNat) (σ.1 10 0 64))) 6 rfl ?_
    refine zX_ast1 (L := 6) rfl (by decide) rfl (o1 a1) ?_
    refine zX_run (n' := 35) (ls' := [some (.inr (.inr (10, 0))), some (.inl v), some (.inl 0)]) (st' := []) (σ' := (zU (zU (zU σ 10 0 7 0) 73 0 ((σ.1 10 0 6).toNat) (σ.1 10 0 64)) 72 0 ((σ.1 10 0 6).toNat) (σ.1 10 0 59))) 2 rfl ?_
    exact h1 a1
  · skip
    refine zX_run (n' := 18) (ls' := [some (.inr (.inr (10, 0))), some (.inl v), none]) (st' := [.inl (zW ((-100) - (σ.1 10 0 57)))]) (σ' := (zU σ 10 0 7 0)) 4 rfl ?_
    exact zX_ret rfl rfl (h2 a1)
-- X10_text
theorem zb_151l {d : Nat} {σ : zS} {Q : Option zV → zS → Prop} {v k : Int}
    (o1 : ¬ σ.1 10 0 59 ≤ k → (0 : Int) ≤ k ∧ k < (300 : Int))
    (o2 : ¬ σ.1 10 0 59 ≤ k → (0 : Int) ≤ zW ((zW (200 * (σ.1 10 0 6))) + k) ∧ zW ((zW (200 * (σ.1 10 0 6))) + k) < (1200 : Int))
    (h1 : σ.1 10 0 59 ≤ k → Q (some (.inl (σ.1 10 0 6))) (zU σ 10 0 6 (zW ((σ.1 10 0 6) + 1))))
    (h2 : ¬ σ.1 10 0 59 ≤ k → zX (d + 24) 151 35 [some (.inr (.inr (10, 0))), some (.inl v), some (.inl (zW (k + 1)))] [] (zU σ 71 0 ((zW ((zW (200 * (σ.1 10 0 6))) + k)).toNat) (σ.1 97 0 (k.toNat))) Q) :
    zX (d + 24) 151 35 [some (.inr (.inr (10, 0))), some (.inl v), some (.inl k)] [] σ Q := by
  refine zX_run (n' := 38) (ls' := [some (.inr (.inr (10, 0))), some (.inl v), some (.inl k)]) (st' := [.inl (σ.1 10 0 59), .inl k]) (σ' := σ) 3 rfl ?_
  refine zX_c3 rfl (fun a1 => ?_) (fun a1 => ?_)
  · skip
    refine zX_run (n' := 61) (ls' := [some (.inr (.inr (10, 0))), some (.inl v), some (.inl k)]) (st' := [.inl (σ.1 10 0 6)]) (σ' := (zU σ 10 0 6 (zW ((σ.1 10 0 6) + 1)))) 7 rfl ?_
    exact zX_ret rfl rfl (h1 a1)
  · skip
    refine zX_run (n' := 50) (ls' := [some (.inr (.inr (10, 0))), some (.inl v), some (.inl k)]) (st' := [.inl k, .inr (.inr (97, 0)), .inl (zW ((zW (200 * (σ.1 10 0 6))) + k)), .inr (.inr (71, 0))]) (σ' := σ) 11 rfl ?_
    refine zX_ald1 (L := 300) rfl (by decide) rfl (o1 a1) ?_
    refine zX_ast1 (L := 1200) rfl (by decide) rfl (o2 a1) ?_
    refine zX_run (n' := 35) (ls' := [some (.inr (.inr (10, 0))), some (.inl v), some (.inl (zW (k + 1)))]) (st' := []) (σ' := (zU σ 71 0 ((zW ((zW (200 * (σ.1 10 0 6))) + k)).toNat) (σ.1 97 0 (k.toNat)))) 2 rfl ?_
    exact h2 a1
theorem mKp_t {a b c : zS} (h : mKp a b) (g : mKp b c) : mKp a c := ⟨fun n j hj => (g.1 n j hj).trans (h.1 n j hj), fun K h1 h2 h3 h4 => (g.2.1 K h1 h2 h3 h4).trans (h.2.1 K h1 h2 h3 h4), g.2.2.trans h.2.2⟩
theorem qA_up {T : Nat → Int} {N k : Nat} (hk : k ≤ qA T N k) (h : ¬ qK T N k = 25) : k + 1 ≤ qA T N (k + 1) := by
  have n25 : ¬ qP T N k = N := fun e => h (qK_tv.2.mpr e)
  have b := (qP_le (T := T) (N := N) (k := k))
  have c := qEnd_le (T := T) (N := N) (p := qP T N k) (by omega)
  rw [qA_s n25]; omega
theorem zl_150 {d : Nat} {σ : zS} {Q : Option zV → zS → Prop} {T : Nat → Int} {N : Nat} (M : mTp σ T N) (h : ∀ s, s.1 10 0 55 = (qA T N 1 : Int) → s.1 10 0 56 = qK T N 0 → s.1 10 0 57 = (qP T N 0 : Int) → s.1 10 0 59 = (([] : List Int).length : Int) → mKp σ s → zX (d + 22) 150 8 [some (.inr (.inr (10, 0)))] [] s Q) : zM (d + 22) 150 [.inr (.inr (10, 0))] σ Q := by
  refine zb_150 ?_
  refine zX_call rfl rfl ?_
  have K0 : mKp σ (zU (zU σ 10 0 55 0) 10 0 59 0) := mKp_10 (mKp_10 mKp_r (by decide)) (by decide)
  refine zs_144 (k := 0) (mKp_T K0 M) rfl (fun s a55 a56 a57 F M1 => ?_)
  exact h s a55 a56 a57 ((F.1 0 59 (by omega)).trans rfl) (mKp_F K0 F)
theorem zs_150B {d : Nat} {σ : zS} {Q : Option zV → zS → Prop} {T : Nat → Int} {N j : Nat} (M : mTp σ T N) (h : qTxB (qK T N) j) (hq : ∀ s2, s2.1 10 0 57 = (qP T N j : Int) → mKp σ s2 → Q (some (.inl 0)) s2) : zM (d + 22) 150 [.inr (.inr (10, 0))] σ Q := by
  refine zl_150 M (fun s a55 a56 a57 a59 K => ?_)
  rcases h with ⟨ne, rfl⟩ | ⟨e0, h⟩
  · exact zb_150_8 (fun _ => hq s a57 K) (fun a => absurd (a56.symm.trans a) ne)
  refine zb_150_8 (fun a => absurd (a56.trans e0) a) (fun _ => ?_)
  refine zX_call rfl rfl ?_
  have A1 : 1 ≤ qA T N 1 := qA_up (Nat.zero_le _) (by rw [e0]; decide)
  rcases h with R | ⟨k1, c1, R, h⟩
  · exact zs_148 (mKp_T K M) R A1 (Nat.zero_le _) a55 a59 (fun i hi => absurd hi (Nat.not_lt_zero _)) (fun _ s2 g57 K2 => zb_150_14 (fun a => absurd rfl a) (fun _ => hq s2 g57 (mKp_t K K2))) (fun c2 e => by cases e)
  refine zs_148 (mKp_T K M) R A1 (Nat.zero_le _) a55 a59 (fun i hi => absurd hi (Nat.not_lt_zero _)) (fun e => by cases e) (fun c2 e s2 g59 g97 g55 g64 gl gA K2 => ?_)
  cases e
  refine zb_150_14 (fun _ => ?_) (fun a => absurd a (by decide))
  have K3 : mKp σ (zU s2 10 0 64 (s2.1 10 0 59)) := mKp_10 (mKp_t K K2) (by decide)
  refine zX_call rfl rfl ?_
  refine zs_144 (k := k1 + 1) (mKp_T K3 M) g55 (fun s4 b55 b56 b57 F4 M4 => ?_)
  have K4 := mKp_F K3 F4
  rcases h with ⟨ne, rfl⟩ | ⟨e2, h⟩
  · exact zb_150_23 (fun _ => hq s4 b57 K4) (fun a => absurd (b56.symm.trans a) ne)
  refine zb_150_23 (fun a => absurd (b56.trans e2) a) (fun _ => ?_)
  refine zX_call rfl rfl ?_
  have A2 : k1 + 2 ≤ qA T N (k1 + 2) := qA_up gA (by rw [e2]; decide)
  have h59 : s4.1 10 0 59 = (c1.length : Int) := (F4.1 0 59 (by omega)).trans g59
  have h97 : ∀ i, i < c1.length → s4.1 97 0 i = qCl c1 i := fun i hi => by rw [F4.2.1 97 (by decide)]; exact g97 i hi
  rcases h with R2 | ⟨k2, c2, R2, ne, rfl⟩
  · exact zs_148 (mKp_T K4 M) R2 A2 (by omega) b55 h59 h97 (fun _ s5 g57 K5 => zb_150_29 (fun a => absurd rfl a) (fun _ => hq s5 g57 (mKp_t K4 K5))) (fun c2 e => by cases e)
  refine zs_148 (mKp_T K4 M) R2 A2 (by omega) b55 h59 h97 (fun e => by cases e) (fun c3 e s5 f59 f97 f55 f64 fl fA K5 => ?_)
  cases e
  refine zb_150_29 (fun _ => ?_) (fun a => absurd a (by decide))
  refine zX_call rfl rfl ?_
  have K6 := mKp_t K4 K5
  refine zs_144 (k := k2 + 1) (mKp_T K6 M) f55 (fun s6 d55 d56 d57 F6 M6 => ?_)
  exact zb_150_34 (fun _ => hq s6 d57 (mKp_F K6 F6)) (fun a => absurd (d56.symm.trans a) ne)
theorem zs_150G {d : Nat} {σ : zS} {Q : Option zV → zS → Prop} {T : Nat → Int} {N : Nat} {c1 c2 : List Int} (M : mTp σ T N) (h : qTxG (qK T N) c1 c2) (hq : ∀ s2, s2.1 10 0 59 = (c2.length : Int) → s2.1 10 0 64 = (c1.length : Int) → (∀ i, i < c2.length → s2.1 97 0 i = qCl c2 i) → c2.length ≤ N → mKp σ s2 → Q (some (.inl 1)) s2) : zM (d + 22) 150 [.inr (.inr (10, 0))] σ Q := by
  refine zl_150 M (fun s a55 a56 a57 a59 K => ?_)
  obtain ⟨e0, k1, k2, R, e2, R2, e5⟩ := h
  refine zb_150_8 (fun a => absurd (a56.trans e0) a) (fun _ => ?_)
  refine zX_call rfl rfl ?_
  have A1 : 1 ≤ qA T N 1 := qA_up (Nat.zero_le _) (by rw [e0]; decide)
  refine zs_148 (mKp_T K M) R A1 (Nat.zero_le _) a55 a59 (fun i hi => absurd hi (Nat.not_lt_zero _)) (fun e => by cases e) (fun c2 e s2 g59 g97 g55 g64 gl gA K2 => ?_)
  cases e
  refine zb_150_14 (fun _ => ?_) (fun a => absurd a (by decide))
  have K3 : mKp σ (zU s2 10 0 64 (s2.1 10 0 59)) := mKp_10 (mKp_t K K2) (by decide)
  refine zX_call rfl rfl ?_
  refine zs_144 (k := k1 + 1) (mKp_T K3 M) g55 (fun s4 b55 b56 b57 F4 M4 => ?_)
  have K4 := mKp_F K3 F4
  refine zb_150_23 (fun a => absurd (b56.trans e2) a) (fun _ => ?_)
  refine zX_call rfl rfl ?_
  have A2 : k1 + 2 ≤ qA T N (k1 + 2) := qA_up gA (by rw [e2]; decide)
  have h59 : s4.1 10 0 59 = (c1.length : Int) := (F4.1 0 59 (by omega)).trans g59
  have h64 : s4.1 10 0 64 = (c1.length : Int) := (F4.1 0 64 (by omega)).trans g59
  have h97 : ∀ i, i < c1.length → s4.1 97 0 i = qCl c1 i := fun i hi => by rw [F4.2.1 97 (by decide)]; exact g97 i hi
  refine zs_148 (mKp_T K4 M) R2 A2 (by omega) b55 h59 h97 (fun e => by cases e) (fun c3 e s5 f59 f97 f55 f64 fl fA K5 => ?_)
  cases e
  refine zb_150_29 (fun _ => ?_) (fun a => absurd a (by decide))
  refine zX_call rfl rfl ?_
  have K6 := mKp_t K4 K5
  have kN := qA_le (T := T) (N := N) (k := k2 + 1)
  refine zs_144 (k := k2 + 1) (mKp_T K6 M) f55 (fun s6 d55 d56 d57 F6 M6 => ?_)
  exact zb_150_34 (fun a => absurd (d56.trans e5) a) (fun _ => hq s6 ((F6.1 0 59 (by omega)).trans f59) ((F6.1 0 64 (by omega)).trans (f64.trans h64)) (fun i hi => by rw [F6.2.1 97 (by decide)]; exact f97 i hi) (by omega) (mKp_F K6 F6))
theorem zFl_p {σ : zS} {K n lo hi : Nat} {g : Nat → Int} (h : lo ≤ hi) : zU (zFl σ K n lo hi g) K n hi (g hi) = zFl σ K n lo (hi + 1) g := by
  refine Prod.ext (funext fun a => funext fun b => funext fun j => ?_) rfl
  show (if a = K ∧ j = hi ∧ b = n then g hi else (if a = K ∧ (lo ≤ j ∧ j < hi) ∧ b = n then g j else σ.1 a b j)) = (if a = K ∧ (lo ≤ j ∧ j < hi + 1) ∧ b = n then g j else σ.1 a b j)
  by_cases e : a = K ∧ b = n
  · by_cases f : j = hi
    · rw [if_pos ⟨e.1, f, e.2⟩, if_pos ⟨e.1, by omega, e.2⟩, f]
    · rw [if_neg (fun q => f q.2.1)]
      by_cases l : lo ≤ j ∧ j < hi
      · rw [if_pos ⟨e.1, l, e.2⟩, if_pos ⟨e.1, by omega, e.2⟩]
      · rw [if_neg (fun q => l q.2.1), if_neg (fun q => l (by have := q.2.1; omega))]
  · rw [if_neg (fun q => e ⟨q.1, q.2.2⟩), if_neg (fun q => e ⟨q.1, q.2.2⟩), if_neg (fun q => e ⟨q.1, q.2.2⟩)]
theorem zl_151 {d : Nat} {σ : zS} {Q : Option zV → zS → Prop} {t n : Nat} {v : Int} (ht : σ.1 10 0 6 = (t : Int)) (t6 : t < 6) (hn : σ.1 10 0 59 = (n : Int)) (n160 : n ≤ 160) (h : Q (some (.inl (t : Int))) (zU (zFl σ 71 0 (200 * t) (200 * t + n) (fun j => σ.1 97 0 (j - 200 * t))) 10 0 6 ((t + 1 : Nat) : Int))) :
    ∀ f k : Nat, k + f = n → zX (d + 24) 151 35 [some (.inr (.inr (10, 0))), some (.inl v), some (.inl (k : Int))] [] (zFl σ 71 0 (200 * t) (200 * t + k) (fun j => σ.1 97 0 (j - 200 * t))) Q := by
  intro f
  induction f with
  | zero =>
    intro k e
    have e : k = n := by omega
    subst e
    have h59 : (zFl σ 71 0 (200 * t) (200 * t + k) (fun j => σ.1 97 0 (j - 200 * t))).1 10 0 59 = (k : Int) := hn
    have h6 : (zFl σ 71 0 (200 * t) (200 * t + k) (fun j => σ.1 97 0 (j - 200 * t))).1 10 0 6 = (t : Int) := ht
    refine zb_151l (fun a => absurd (by rw [h59]; exact Int.le_refl _) a) (fun a => absurd (by rw [h59]; exact Int.le_refl _) a) (fun _ => ?_) (fun a => absurd (by rw [h59]; exact Int.le_refl _) a)
    rw [h6, qW1 (by omega)]; exact h
  | succ f ih =>
    intro k e
    have h59 : (zFl σ 71 0 (200 * t) (200 * t + k) (fun j => σ.1 97 0 (j - 200 * t))).1 10 0 59 = (n : Int) := hn
    have h6 : (zFl σ 71 0 (200 * t) (200 * t + k) (fun j => σ.1 97 0 (j - 200 * t))).1 10 0 6 = (t : Int) := ht
    have ix : zW ((zW (200 * (t : Int))) + (k : Int)) = ((200 * t + k : Nat) : Int) := by unfold zW; omega
    refine zb_151l (fun _ => by omega) (fun _ => by rw [h6, ix]; omega) (fun a => absurd a (by rw [h59]; omega)) (fun _ => ?_)
    rw [h6, ix, qW1 (by omega)]
    have ev : (zFl σ 71 0 (200 * t) (200 * t + k) (fun j => σ.1 97 0 (j - 200 * t))).1 97 0 ((k : Int).toNat) = (fun j => σ.1 97 0 (j - 200 * t)) (200 * t + k) := by
      show σ.1 97 0 k = σ.1 97 0 (200 * t + k - 200 * t)
      rw [show 200 * t + k - 200 * t = k by omega]
    rw [ev]
    show zX (d + 24) 151 35 _ [] (zU (zFl σ 71 0 (200 * t) (200 * t + k) (fun j => σ.1 97 0 (j - 200 * t))) 71 0 (200 * t + k) ((fun j => σ.1 97 0 (j - 200 * t)) (200 * t + k))) Q
    rw [zFl_p (by omega)]
    exact ih (k + 1) (by omega)
theorem zs_151B {d : Nat} {σ : zS} {Q : Option zV → zS → Prop} {T : Nat → Int} {N j t : Nat} (M : mTp σ T N) (ht : σ.1 10 0 6 = (t : Int)) (t6 : t < 6) (h : qTxB (qK T N) j) (hq : ∀ s2, mKp σ s2 → Q (some (.inl (zW (-100 - (qP T N j : Int))))) (zU s2 10 0 7 0)) : zM (d + 24) 151 [.inr (.inr (10, 0))] σ Q := by
  refine zb_151 (fun _ => ?_) (fun a => absurd a (by omega))
  refine zX_call rfl rfl ?_
  refine zs_150B M h (fun s2 g57 K => ?_)
  refine zb_151b (fun a => absurd rfl a) (fun a => absurd rfl a) (fun _ => ?_)
  rw [g57]; exact hq s2 K
theorem zs_151G {d : Nat} {σ : zS} {Q : Option zV → zS → Prop} {T : Nat → Int} {N t : Nat} {c1 c2 : List Int} (M : mTp σ T N) (ht : σ.1 10 0 6 = (t : Int)) (t6 : t < 6) (h : qTxG (qK T N) c1 c2)
    (hq : ∀ s2, mKp σ s2 → (∀ i, i < c2.length → s2.1 97 0 i = qCl c2 i) → Q (some (.inl (t : Int))) (zU (zFl (zU (zU (zU s2 10 0 7 0) 73 0 t (c1.length : Int)) 72 0 t (c2.length : Int)) 71 0 (200 * t) (200 * t + c2.length) (fun j => s2.1 97 0 (j - 200 * t))) 10 0 6 ((t + 1 : Nat) : Int))) : zM (d + 24) 151 [.inr (.inr (10, 0))] σ Q := by
  refine zb_151 (fun _ => ?_) (fun a => absurd a (by omega))
  refine zX_call rfl rfl ?_
  refine zs_150G M h (fun s2 g59 g64 g97 gN K => ?_)
  have h6 : s2.1 10 0 6 = (t : Int) := (K.1 0 6 (by omega)).trans ht
  have m := M.2.1
  refine zb_151b (fun _ => by omega) (fun _ => ?_) (fun a => absurd a (by decide))
  rw [h6, g64, g59]
  have L := zl_151 (d := d) (v := 1) (σ := zU (zU (zU s2 10 0 7 0) 73 0 t (c1.length : Int)) 72 0 t (c2.length : Int)) (t := t) (n := c2.length) h6 t6 g59 (by omega) (hq s2 K g97) c2.length 0 (by omega)
  rw [show 200 * t + 0 = 200 * t from rfl, zFl_0] at L
  exact L
