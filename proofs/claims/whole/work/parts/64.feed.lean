-- feed (wip/whole/gen/laws39.py)
-- X9_feed
theorem zb_82 {d : Nat} {σ : zS} {Q : Option zV → zS → Prop} {n b : Int}
    (h1 : 1 ≤ n ∧ n ≤ 8 → σ.1 5 0 1 ≤ zW (160 - n) → zX (d + 4) 82 18 [some (.inr (.inr (9, 0))), some (.inl n), some (.inr (.inl b)), none, some (.inl 0)] [] σ Q)
    (h2 : 1 ≤ n ∧ n ≤ 8 → ¬ σ.1 5 0 1 ≤ zW (160 - n) → Q (some (.inl (-4))) σ)
    (h3 : ¬ (1 ≤ n ∧ n ≤ 8) → Q (some (.inl (-2))) σ) :
    zM (d + 4) 82 [.inr (.inr (9, 0)), .inl n, .inr (.inl b)] σ Q := by
  refine zX_run (n' := 3) (ls' := [some (.inr (.inr (9, 0))), some (.inl n), some (.inr (.inl b)), none, none]) (st' := [.inl 8, .inl 1, .inl n]) (σ' := σ) 3 rfl ?_
  refine zX_call rfl rfl ?_
  refine zs_104 (fun a1 => ?_) (fun a2 => ?_)
  · skip
    refine zX_run (n' := 13) (ls' := [some (.inr (.inr (9, 0))), some (.inl n), some (.inr (.inl b)), none, none]) (st' := [.inl (zW (160 - n)), .inl (σ.1 5 0 1)]) (σ' := σ) 7 rfl ?_
    refine zX_c5 rfl (fun a3 => ?_) (fun a3 => ?_)
    · skip
      refine zX_run (n' := 18) (ls' := [some (.inr (.inr (9, 0))), some (.inl n), some (.inr (.inl b)), none, some (.inl 0)]) (st' := []) (σ' := σ) 2 rfl ?_
      exact h1 a1 a3
    · skip
      refine zX_run (n' := 15) (ls' := [some (.inr (.inr (9, 0))), some (.inl n), some (.inr (.inl b)), none, none]) (st' := [.inl (-4)]) (σ' := σ) 1 rfl ?_
      exact zX_ret rfl rfl (h2 a1 a3)
  · skip
    refine zX_run (n' := 6) (ls' := [some (.inr (.inr (9, 0))), some (.inl n), some (.inr (.inl b)), none, none]) (st' := [.inl (-2)]) (σ' := σ) 2 rfl ?_
    exact zX_ret rfl rfl (h3 a2)
-- X9_feed
theorem zb_82l {d : Nat} {σ : zS} {Q : Option zV → zS → Prop} {n b k : Int}
    (o1 : ¬ n ≤ k → (0 : Int) ≤ σ.1 5 0 1 ∧ σ.1 5 0 1 < (160 : Int))
    (h1 : n ≤ k → Q (some (.inl (σ.1 5 0 1))) σ)
    (h2 : ¬ n ≤ k → zX (d + 4) 82 18 [some (.inr (.inr (9, 0))), some (.inl n), some (.inr (.inl b)), none, some (.inl (zW (k + 1)))] [] (zU (zU σ 28 0 ((σ.1 5 0 1).toNat) (((zW (zLSh 2 b (zW (8 * k))) + 128) % 256 - 128 + 128) % 256 - 128)) 5 0 1 (zW ((σ.1 5 0 1) + 1))) Q) :
    zX (d + 4) 82 18 [some (.inr (.inr (9, 0))), some (.inl n), some (.inr (.inl b)), none, some (.inl k)] [] σ Q := by
  refine zX_run (n' := 20) (ls' := [some (.inr (.inr (9, 0))), some (.inl n), some (.inr (.inl b)), none, some (.inl k)]) (st' := [.inl n, .inl k]) (σ' := σ) 2 rfl ?_
  refine zX_c3 rfl (fun a1 => ?_) (fun a1 => ?_)
  · skip
    refine zX_run (n' := 47) (ls' := [some (.inr (.inr (9, 0))), some (.inl n), some (.inr (.inl b)), none, some (.inl k)]) (st' := [.inl (σ.1 5 0 1)]) (σ' := σ) 3 rfl ?_
    exact zX_ret rfl rfl (h1 a1)
  · skip
    refine zX_run (n' := 34) (ls' := [some (.inr (.inr (9, 0))), some (.inl n), some (.inr (.inl b)), none, some (.inl k)]) (st' := [.inl ((zW (zLSh 2 b (zW (8 * k))) + 128) % 256 - 128), .inl (σ.1 5 0 1), .inr (.inr (28, 0))]) (σ' := σ) 13 rfl ?_
    refine zX_ast3 (L := 160) rfl (by decide) rfl (o1 a1) ?_
    refine zX_run (n' := 18) (ls' := [some (.inr (.inr (9, 0))), some (.inl n), some (.inr (.inl b)), none, some (.inl (zW (k + 1)))]) (st' := []) (σ' := (zU (zU σ 28 0 ((σ.1 5 0 1).toNat) (((zW (zLSh 2 b (zW (8 * k))) + 128) % 256 - 128 + 128) % 256 - 128)) 5 0 1 (zW ((σ.1 5 0 1) + 1)))) 9 rfl ?_
    exact h2 a1
-- X10_feed
theorem zb_149 {d : Nat} {σ : zS} {Q : Option zV → zS → Prop} {n b : Int}
    (h1 : n < 1 → Q (some (.inl (-2))) σ)
    (h2 : ¬ n < 1 → n ≤ 8 → zW ((σ.1 10 0 7) + n) ≤ 160 → zX (d + 4) 149 18 [some (.inr (.inr (10, 0))), some (.inl n), some (.inr (.inl b)), none, some (.inl 0)] [] σ Q)
    (h3 : ¬ n < 1 → n ≤ 8 → ¬ zW ((σ.1 10 0 7) + n) ≤ 160 → Q (some (.inl (-4))) σ)
    (h4 : ¬ n < 1 → ¬ n ≤ 8 → Q (some (.inl (-2))) σ) :
    zM (d + 4) 149 [.inr (.inr (10, 0)), .inl n, .inr (.inl b)] σ Q := by
  refine zX_run (n' := 2) (ls' := [some (.inr (.inr (10, 0))), some (.inl n), some (.inr (.inl b)), none, none]) (st' := [.inl 1, .inl n]) (σ' := σ) 2 rfl ?_
  refine zX_c2 rfl (fun a1 => ?_) (fun a1 => ?_)
  · skip
    refine zX_run (n' := 7) (ls' := [some (.inr (.inr (10, 0))), some (.inl n), some (.inr (.inl b)), none, none]) (st' := [.inl (-2)]) (σ' := σ) 1 rfl ?_
    exact zX_ret rfl rfl (h1 a1)
  · skip
    refine zX_run (n' := 5) (ls' := [some (.inr (.inr (10, 0))), some (.inl n), some (.inr (.inl b)), none, none]) (st' := [.inl 8, .inl n]) (σ' := σ) 2 rfl ?_
    refine zX_c5 rfl (fun a2 => ?_) (fun a2 => ?_)
    · skip
      refine zX_run (n' := 13) (ls' := [some (.inr (.inr (10, 0))), some (.inl n), some (.inr (.inl b)), none, none]) (st' := [.inl 160, .inl (zW ((σ.1 10 0 7) + n))]) (σ' := σ) 5 rfl ?_
      refine zX_c5 rfl (fun a3 => ?_) (fun a3 => ?_)
      · skip
        refine zX_run (n' := 18) (ls' := [some (.inr (.inr (10, 0))), some (.inl n), some (.inr (.inl b)), none, some (.inl 0)]) (st' := []) (σ' := σ) 2 rfl ?_
        exact h2 a1 a2 a3
      · skip
        refine zX_run (n' := 15) (ls' := [some (.inr (.inr (10, 0))), some (.inl n), some (.inr (.inl b)), none, none]) (st' := [.inl (-4)]) (σ' := σ) 1 rfl ?_
        exact zX_ret rfl rfl (h3 a1 a2 a3)
    · skip
      refine zX_run (n' := 7) (ls' := [some (.inr (.inr (10, 0))), some (.inl n), some (.inr (.inl b)), none, none]) (st' := [.inl (-2)]) (σ' := σ) 1 rfl ?_
      exact zX_ret rfl rfl (h4 a1 a2)
-- X10_feed
theorem zb_149l {d : Nat} {σ : zS} {Q : Option zV → zS → Prop} {n b k : Int}
    (o1 : ¬ n ≤ k → (0 : Int) ≤ σ.1 10 0 7 ∧ σ.1 10 0 7 < (160 : Int))
    (h1 : n ≤ k → Q (some (.inl (σ.1 10 0 7))) σ)
    (h2 : ¬ n ≤ k → zX (d + 4) 149 18 [some (.inr (.inr (10, 0))), some (.inl n), some (.inr (.inl b)), none, some (.inl (zW (k + 1)))] [] (zU (zU σ 10 0 7 (zW ((σ.1 10 0 7) + 1))) 69 0 ((σ.1 10 0 7).toNat) (zW (zLBin 3 (zLSh 1 b (zW (8 * k))) 255))) Q) :
    zX (d + 4) 149 18 [some (.inr (.inr (10, 0))), some (.inl n), some (.inr (.inl b)), none, some (.inl k)] [] σ Q := by
  refine zX_run (n' := 20) (ls' := [some (.inr (.inr (10, 0))), some (.inl n), some (.inr (.inl b)), none, some (.inl k)]) (st' := [.inl n, .inl k]) (σ' := σ) 2 rfl ?_
  refine zX_c3 rfl (fun a1 => ?_) (fun a1 => ?_)
  · skip
    refine zX_run (n' := 43) (ls' := [some (.inr (.inr (10, 0))), some (.inl n), some (.inr (.inl b)), none, some (.inl k)]) (st' := [.inl (σ.1 10 0 7)]) (σ' := σ) 2 rfl ?_
    exact zX_ret rfl rfl (h1 a1)
  · skip
    refine zX_run (n' := 38) (ls' := [some (.inr (.inr (10, 0))), some (.inl n), some (.inr (.inl b)), none, some (.inl k)]) (st' := [.inl (zW (zLBin 3 (zLSh 1 b (zW (8 * k))) 255)), .inl (σ.1 10 0 7), .inr (.inr (69, 0))]) (σ' := (zU σ 10 0 7 (zW ((σ.1 10 0 7) + 1)))) 17 rfl ?_
    refine zX_ast1 (L := 160) rfl (by decide) rfl (o1 a1) ?_
    refine zX_run (n' := 18) (ls' := [some (.inr (.inr (10, 0))), some (.inl n), some (.inr (.inl b)), none, some (.inl (zW (k + 1)))]) (st' := []) (σ' := (zU (zU σ 10 0 7 (zW ((σ.1 10 0 7) + 1))) 69 0 ((σ.1 10 0 7).toNat) (zW (zLBin 3 (zLSh 1 b (zW (8 * k))) 255)))) 2 rfl ?_
    exact h2 a1
theorem zSh1 (v : Int64) (s : Nat) (y : Int32) (h : ((y.toInt64 &&& 63).toBitVec.smod 64).toNat = s) : (v >>> (y.toInt64 &&& 63)).toInt = v.toInt >>> s := by
  rw [← Int64.toInt_toBitVec, Int64.toBitVec_shiftRight]
  show (v.toBitVec.sshiftRight ((y.toInt64 &&& 63).toBitVec.smod 64).toNat).toInt = _
  rw [h, BitVec.toInt_sshiftRight, Int64.toInt_toBitVec]
theorem zSh2 (v : Int64) (s : Nat) (y : Int32) (h : ((y.toInt64.toUInt64 &&& Int64.toUInt64 63).toBitVec % 64).toNat = s) : (v.toUInt64 >>> (y.toInt64.toUInt64 &&& Int64.toUInt64 63)).toInt64.toBitVec.toNat = v.toBitVec.toNat >>> s := by
  show (v.toBitVec >>> ((y.toInt64.toUInt64 &&& Int64.toUInt64 63).toBitVec % 64)).toNat = _
  show (v.toBitVec.ushiftRight ((y.toInt64.toUInt64 &&& Int64.toUInt64 63).toBitVec % 64).toNat).toNat = _
  rw [h]; exact BitVec.toNat_ushiftRight _ _
theorem zAnd255 (w : Int64) : (w &&& Int64.ofInt 255).toInt = w.toInt % 256 := by
  rw [← Int64.toInt_toBitVec, Int64.toBitVec_and, BitVec.toInt_eq_toNat_cond, BitVec.toNat_and]
  have e : (Int64.ofInt 255).toBitVec.toNat = 2 ^ 8 - 1 := by decide
  rw [e, Nat.and_two_pow_sub_one_eq_mod, ← Int64.toInt_toBitVec w, BitVec.toInt_eq_toNat_cond]
  have := w.toBitVec.isLt
  split <;> split <;> omega
theorem zFeed (b : Int) (k : Nat) (hk : k < 8) (y : Int32) (hy : y = Int32.ofInt (8 * (k : Int))) :
    (rvLSh 2 (Int64.ofInt b) y).toInt % 256 = (rvLSh 1 (Int64.ofInt b) y &&& Int64.ofInt 255).toInt := by
  rw [zAnd255]
  generalize Int64.ofInt b = v
  subst hy
  have key : ∀ s : Nat, s = 0 ∨ s = 8 ∨ s = 16 ∨ s = 24 ∨ s = 32 ∨ s = 40 ∨ s = 48 ∨ s = 56 → ∀ w : Int64, w.toBitVec.toNat = v.toBitVec.toNat >>> s → w.toInt % 256 = (v.toInt >>> s) % 256 := by
    intro s hs w hw
    rw [← Int64.toInt_toBitVec w, ← Int64.toInt_toBitVec v, BitVec.toInt_eq_toNat_cond, BitVec.toInt_eq_toNat_cond, hw, Int.shiftRight_eq_div_pow, Nat.shiftRight_eq_div_pow]
    have := v.toBitVec.isLt
    generalize v.toBitVec.toNat = x at *
    clear hw w v
    rcases hs with rfl | rfl | rfl | rfl | rfl | rfl | rfl | rfl <;> (split <;> split <;> omega)
  rcases (show k = 0 ∨ k = 1 ∨ k = 2 ∨ k = 3 ∨ k = 4 ∨ k = 5 ∨ k = 6 ∨ k = 7 by omega) with rfl | rfl | rfl | rfl | rfl | rfl | rfl | rfl
  · exact (key 0 (by omega) _ (zSh2 v 0 _ (by decide))).trans (congrArg (· % 256) (zSh1 v 0 _ (by decide)).symm)
  · exact (key 8 (by omega) _ (zSh2 v 8 _ (by decide))).trans (congrArg (· % 256) (zSh1 v 8 _ (by decide)).symm)
  · exact (key 16 (by omega) _ (zSh2 v 16 _ (by decide))).trans (congrArg (· % 256) (zSh1 v 16 _ (by decide)).symm)
  · exact (key 24 (by omega) _ (zSh2 v 24 _ (by decide))).trans (congrArg (· % 256) (zSh1 v 24 _ (by decide)).symm)
  · exact (key 32 (by omega) _ (zSh2 v 32 _ (by decide))).trans (congrArg (· % 256) (zSh1 v 32 _ (by decide)).symm)
  · exact (key 40 (by omega) _ (zSh2 v 40 _ (by decide))).trans (congrArg (· % 256) (zSh1 v 40 _ (by decide)).symm)
  · exact (key 48 (by omega) _ (zSh2 v 48 _ (by decide))).trans (congrArg (· % 256) (zSh1 v 48 _ (by decide)).symm)
  · exact (key 56 (by omega) _ (zSh2 v 56 _ (by decide))).trans (congrArg (· % 256) (zSh1 v 56 _ (by decide)).symm)
theorem zW256 (x : Int) : (zW x) % 256 = x % 256 := by unfold zW; omega
def fC (b : Int) (k : Nat) : Int := (((zW (zLSh 2 b (zW (8 * (k : Int)))) + 128) % 256 - 128 + 128) % 256 - 128)
def fM (b : Int) (k : Nat) : Int := zW (zLBin 3 (zLSh 1 b (zW (8 * (k : Int)))) 255)
theorem fCM {b : Int} {k : Nat} (hk : k < 8) : fC b k = (fM b k + 128) % 256 - 128 ∧ 0 ≤ fM b k ∧ fM b k < 256 := by
  have e : zW (8 * (k : Int)) = 8 * (k : Int) := by unfold zW; omega
  have F := zFeed b k hk (Int32.ofInt (8 * (k : Int))) rfl
  have M : fM b k = zW ((rvLSh 1 (Int64.ofInt b) (Int32.ofInt (8 * (k : Int))) &&& Int64.ofInt 255).toInt) := by
    unfold fM; rw [e]
    show zW ((Int64.ofInt (rvLSh 1 (Int64.ofInt b) (Int32.ofInt (8 * (k : Int)))).toInt &&& Int64.ofInt 255).toInt) = _
    rw [Int64.ofInt_toInt]
  have C : fC b k = (((zW ((rvLSh 2 (Int64.ofInt b) (Int32.ofInt (8 * (k : Int)))).toInt) + 128) % 256 - 128 + 128) % 256 - 128) := by
    unfold fC; rw [e]; rfl
  rw [C, M]
  rw [← F]
  generalize (rvLSh 2 (Int64.ofInt b) (Int32.ofInt (8 * (k : Int)))).toInt = x
  have w := zW256 x
  have z : zW (x % 256) = x % 256 := by unfold zW; omega
  rw [z]
  generalize zW x = y at *
  omega
def zFl (σ : zS) (K n0 lo hi : Nat) (g : Nat → Int) : zS := (fun a n j => if a = K ∧ (lo ≤ j ∧ j < hi) ∧ n = n0 then g j else σ.1 a n j, σ.2)
theorem zFl_s1 {σ : zS} {K n lo hi L m i : Nat} {g : Nat → Int} {x y : Int} (h : lo ≤ hi) (ne : ¬ K = L) : zU (zU (zU (zFl σ K n lo hi g) L m i x) K n hi (g hi)) L m i y = zU (zFl σ K n lo (hi + 1) g) L m i y := by
  refine Prod.ext (funext fun a => funext fun b => funext fun j => ?_) rfl
  show (if a = L ∧ j = i ∧ b = m then y else if a = K ∧ j = hi ∧ b = n then g hi else if a = L ∧ j = i ∧ b = m then x else if a = K ∧ (lo ≤ j ∧ j < hi) ∧ b = n then g j else σ.1 a b j) = if a = L ∧ j = i ∧ b = m then y else if a = K ∧ (lo ≤ j ∧ j < hi + 1) ∧ b = n then g j else σ.1 a b j
  by_cases c : a = L ∧ j = i ∧ b = m
  · rw [if_pos c, if_pos c]
  · rw [if_neg c, if_neg c, if_neg c]
    by_cases p : a = K ∧ j = hi ∧ b = n
    · rw [if_pos p, if_pos ⟨p.1, ⟨by omega, by omega⟩, p.2.2⟩, p.2.1]
    · rw [if_neg p]
      by_cases q : a = K ∧ (lo ≤ j ∧ j < hi) ∧ b = n
      · rw [if_pos q, if_pos ⟨q.1, ⟨q.2.1.1, by omega⟩, q.2.2⟩]
      · rw [if_neg q, if_neg (fun r => ?_)]
        by_cases e : j = hi
        · exact p ⟨r.1, e, r.2.2⟩
        · exact q ⟨r.1, ⟨r.2.1.1, by omega⟩, r.2.2⟩
theorem zFl_s2 {σ : zS} {K n lo hi L m i : Nat} {g : Nat → Int} {x y : Int} (h : lo ≤ hi) (ne : ¬ K = L) : zU (zU (zU (zFl σ K n lo hi g) L m i x) L m i y) K n hi (g hi) = zU (zFl σ K n lo (hi + 1) g) L m i y := by
  rw [← zFl_s1 (x := x) h ne]
  refine Prod.ext (funext fun a => funext fun b => funext fun j => ?_) rfl
  show (if a = K ∧ j = hi ∧ b = n then g hi else if a = L ∧ j = i ∧ b = m then y else if a = L ∧ j = i ∧ b = m then x else (zFl σ K n lo hi g).1 a b j) = if a = L ∧ j = i ∧ b = m then y else if a = K ∧ j = hi ∧ b = n then g hi else if a = L ∧ j = i ∧ b = m then x else (zFl σ K n lo hi g).1 a b j
  by_cases c : a = L ∧ j = i ∧ b = m
  · rw [if_neg (fun q => ne (q.1.symm.trans c.1)), if_pos c, if_pos c]
  · rw [if_neg c, if_neg c]
    by_cases p : a = K ∧ j = hi ∧ b = n
    · rw [if_pos p, if_neg c]
    · rw [if_neg p, if_neg c]
theorem zFl_0 {σ : zS} {K n lo : Nat} {g : Nat → Int} : zFl σ K n lo lo g = σ := by
  refine Prod.ext (funext fun a => funext fun m => funext fun j => ?_) rfl
  exact if_neg (fun q => by omega)
theorem zU_self {σ : zS} {K n j : Nat} {v : Int} (h : σ.1 K n j = v) : zU σ K n j v = σ := by
  refine Prod.ext (funext fun a => funext fun m => funext fun i => ?_) rfl
  show (if a = K ∧ i = j ∧ m = n then v else σ.1 a m i) = σ.1 a m i
  by_cases p : a = K ∧ i = j ∧ m = n
  · rw [if_pos p, p.1, p.2.1, p.2.2, h]
  · rw [if_neg p]
theorem zl_82 {d : Nat} {σ : zS} {Q : Option zV → zS → Prop} {q n : Nat} {b : Int} (hq : σ.1 5 0 1 = (q : Int)) (hn : n ≤ 8) (hb : q + n ≤ 160) (h : Q (some (.inl ((q + n : Nat) : Int))) (zU (zFl σ 28 0 q (q + n) (fun j => fC b (j - q))) 5 0 1 ((q + n : Nat) : Int))) :
    zX (d + 4) 82 18 [some (.inr (.inr (9, 0))), some (.inl (n : Int)), some (.inr (.inl b)), none, some (.inl (0))] [] σ Q := by
  have L : zX (d + 4) 82 18 [some (.inr (.inr (9, 0))), some (.inl (n : Int)), some (.inr (.inl b)), none, some (.inl (((0 : Nat) : Int)))] [] (zU (zFl σ 28 0 q (q + 0) (fun j => fC b (j - q))) 5 0 1 ((q + 0 : Nat) : Int)) Q := by
    refine zLoop (P := fun k => zX (d + 4) 82 18 [some (.inr (.inr (9, 0))), some (.inl (n : Int)), some (.inr (.inl b)), none, some (.inl (k : Int))] [] (zU (zFl σ 28 0 q (q + k) (fun j => fC b (j - q))) 5 0 1 ((q + k : Nat) : Int)) Q) (k := 0) (N := n) (Nat.zero_le _) ?_ (fun k _ hk ih => ?_)
    · exact zb_82l (fun a => absurd (Int.le_refl _) a) (fun _ => h) (fun a => absurd (Int.le_refl _) a)
    · have e : (zU (zFl σ 28 0 q (q + k) (fun j => fC b (j - q))) 5 0 1 ((q + k : Nat) : Int)).1 5 0 1 = ((q + k : Nat) : Int) := rfl
      have nl : ¬ (n : Int) ≤ (k : Int) := by omega
      have ix : (0 : Int) ≤ ((q + k : Nat) : Int) ∧ ((q + k : Nat) : Int) < 160 := by omega
      have v : (fun j => fC b (j - q)) (q + k) = (((zW (zLSh 2 b (zW (8 * (k : Int)))) + 128) % 256 - 128 + 128) % 256 - 128) := by
        show fC b (q + k - q) = _
        rw [Nat.add_sub_cancel_left]; rfl
      refine zb_82l (fun _ => ix) (fun a => absurd a nl) (fun _ => ?_)
      rw [e, Int.toNat_natCast, zWs (by omega), zWs (by omega), ← v, zFl_s1 (Nat.le_add_right _ _) (by decide)]
      exact ih
  rw [show (zU (zFl σ 28 0 q (q + 0) (fun j => fC b (j - q))) 5 0 1 ((q + 0 : Nat) : Int)) = σ from by rw [zU_self (show (zFl σ 28 0 q (q + 0) (fun j => fC b (j - q))).1 5 0 1 = ((q + 0 : Nat) : Int) from hq)]; exact zFl_0] at L
  exact L
theorem zl_149 {d : Nat} {σ : zS} {Q : Option zV → zS → Prop} {q n : Nat} {b : Int} (hq : σ.1 10 0 7 = (q : Int)) (hn : n ≤ 8) (hb : q + n ≤ 160) (h : Q (some (.inl ((q + n : Nat) : Int))) (zU (zFl σ 69 0 q (q + n) (fun j => fM b (j - q))) 10 0 7 ((q + n : Nat) : Int))) :
    zX (d + 4) 149 18 [some (.inr (.inr (10, 0))), some (.inl (n : Int)), some (.inr (.inl b)), none, some (.inl (0))] [] σ Q := by
  have L : zX (d + 4) 149 18 [some (.inr (.inr (10, 0))), some (.inl (n : Int)), some (.inr (.inl b)), none, some (.inl (((0 : Nat) : Int)))] [] (zU (zFl σ 69 0 q (q + 0) (fun j => fM b (j - q))) 10 0 7 ((q + 0 : Nat) : Int)) Q := by
    refine zLoop (P := fun k => zX (d + 4) 149 18 [some (.inr (.inr (10, 0))), some (.inl (n : Int)), some (.inr (.inl b)), none, some (.inl (k : Int))] [] (zU (zFl σ 69 0 q (q + k) (fun j => fM b (j - q))) 10 0 7 ((q + k : Nat) : Int)) Q) (k := 0) (N := n) (Nat.zero_le _) ?_ (fun k _ hk ih => ?_)
    · exact zb_149l (fun a => absurd (Int.le_refl _) a) (fun _ => h) (fun a => absurd (Int.le_refl _) a)
    · have e : (zU (zFl σ 69 0 q (q + k) (fun j => fM b (j - q))) 10 0 7 ((q + k : Nat) : Int)).1 10 0 7 = ((q + k : Nat) : Int) := rfl
      have nl : ¬ (n : Int) ≤ (k : Int) := by omega
      have ix : (0 : Int) ≤ ((q + k : Nat) : Int) ∧ ((q + k : Nat) : Int) < 160 := by omega
      have v : (fun j => fM b (j - q)) (q + k) = zW (zLBin 3 (zLSh 1 b (zW (8 * (k : Int)))) 255) := by
        show fM b (q + k - q) = _
        rw [Nat.add_sub_cancel_left]; rfl
      refine zb_149l (fun _ => ix) (fun a => absurd a nl) (fun _ => ?_)
      rw [e, Int.toNat_natCast, zWs (by omega), zWs (by omega), ← v, zFl_s2 (Nat.le_add_right _ _) (by decide)]
      exact ih
  rw [show (zU (zFl σ 69 0 q (q + 0) (fun j => fM b (j - q))) 10 0 7 ((q + 0 : Nat) : Int)) = σ from by rw [zU_self (show (zFl σ 69 0 q (q + 0) (fun j => fM b (j - q))).1 10 0 7 = ((q + 0 : Nat) : Int) from hq)]; exact zFl_0] at L
  exact L
theorem rBase_fd {σ : zS} {q n : Nat} {b : Int} (B : rBase σ) : rBase (zU (zFl (zU (zFl σ 28 0 q (q + n) (fun j => fC b (j - q))) 5 0 1 ((q + n : Nat) : Int)) 69 0 q (q + n) (fun j => fM b (j - q))) 10 0 7 ((q + n : Nat) : Int)) := B
theorem yr_feed {σ : zS} (R : yRel σ) {q n : Nat} {b : Int} (hq : σ.1 10 0 7 = (q : Int)) (hn : n ≤ 8) (hb : q + n ≤ 160) : yRel (zU (zFl (zU (zFl σ 28 0 q (q + n) (fun j => fC b (j - q))) 5 0 1 ((q + n : Nat) : Int)) 69 0 q (q + n) (fun j => fM b (j - q))) 10 0 7 ((q + n : Nat) : Int)) := by
  obtain ⟨S, G, L, H, C, Tx, Ru, K, Tp, Sh, B⟩ := R
  refine ⟨S, G, L, H, C, Tx, Ru, K, ⟨⟨rfl, by show (0 : Int) ≤ ((q + n : Nat) : Int); omega, by show ((q + n : Nat) : Int) ≤ 160; omega⟩, fun i hi => ?_⟩, Sh, rBase_fd B⟩
  have hi : (i : Int) < ((q + n : Nat) : Int) := hi
  show (if 28 = 28 ∧ (q ≤ i ∧ i < q + n) ∧ 0 = 0 then fC b (i - q) else σ.1 28 0 i) = ((if 69 = 69 ∧ (q ≤ i ∧ i < q + n) ∧ 0 = 0 then fM b (i - q) else σ.1 69 0 i) + 128) % 256 - 128 ∧ 0 ≤ (if 69 = 69 ∧ (q ≤ i ∧ i < q + n) ∧ 0 = 0 then fM b (i - q) else σ.1 69 0 i) ∧ (if 69 = 69 ∧ (q ≤ i ∧ i < q + n) ∧ 0 = 0 then fM b (i - q) else σ.1 69 0 i) < 256
  by_cases e : q ≤ i ∧ i < q + n
  · rw [if_pos ⟨rfl, e, rfl⟩, if_pos ⟨rfl, e, rfl⟩]; exact fCM (by omega)
  · rw [if_neg (fun x => e x.2.1), if_neg (fun x => e x.2.1)]; exact Tp.2 i (by omega)
theorem yp_feed {d : Nat} {σ : zS} (R : yRel σ) (n b : Int) (hn : -2147483648 ≤ n ∧ n ≤ 2147483647) : yPi d 82 149 [.inl n, .inr (.inl b)] σ := by
  have T1 := R.2.2.2.2.2.2.2.2.1.1
  obtain ⟨q, hq⟩ := Int.eq_ofNat_of_zero_le T1.2.1
  have hq2 : σ.1 5 0 1 = (q : Int) := T1.1.trans hq
  have q1 : q ≤ 160 := by omega
  clear T1
  by_cases a : 1 ≤ n ∧ n ≤ 8
  · obtain ⟨n, rfl⟩ := Int.eq_ofNat_of_zero_le (show 0 ≤ n by omega)
    have e1 : zW (160 - (n : Int)) = 160 - (n : Int) := by unfold zW; omega
    have e2 : zW ((q : Int) + (n : Int)) = (q : Int) + (n : Int) := by unfold zW; omega
    by_cases c : q + n ≤ 160
    · have F := yr_feed R (n := n) (b := b) hq (by omega) c
      have n1 : ¬ (n : Int) < 1 := by omega
      have le1 : σ.1 5 0 1 ≤ zW (160 - (n : Int)) := by rw [e1, hq2]; clear F; omega
      have le2 : zW (σ.1 10 0 7 + (n : Int)) ≤ 160 := by rw [hq, e2]; clear F; omega
      refine zb_82 (d := d + 56) (fun _ _ => ?_) (fun _ x => absurd le1 x) (fun x => absurd a x)
      refine zl_82 (d := d + 56) hq2 (by omega) c ?_
      refine zb_149 (d := d + 56) (fun x => absurd x n1) (fun _ _ _ => ?_) (fun _ _ x => absurd le2 x) (fun _ x => absurd a.2 x)
      exact zl_149 (d := d + 56) (σ := zU (zFl σ 28 0 q (q + n) (fun j => fC b (j - q))) 5 0 1 ((q + n : Nat) : Int)) hq (by omega) c ⟨⟨_, rfl, rfl⟩, F⟩
    · have le1 : ¬ σ.1 5 0 1 ≤ zW (160 - (n : Int)) := by rw [e1, hq2]; omega
      have le2 : ¬ zW (σ.1 10 0 7 + (n : Int)) ≤ 160 := by rw [hq, e2]; omega
      have n1 : ¬ (n : Int) < 1 := by omega
      refine zb_82 (d := d + 56) (fun _ x => absurd x le1) (fun _ _ => ?_) (fun x => absurd a x)
      exact zb_149 (d := d + 56) (fun x => absurd x n1) (fun _ _ x => absurd x le2) (fun _ _ _ => ⟨⟨_, rfl, rfl⟩, R⟩) (fun _ x => absurd a.2 x)
  · refine zb_82 (d := d + 56) (fun x _ => absurd x a) (fun x _ => absurd x a) (fun _ => ?_)
    have na : ∀ {p : Prop}, ¬ n < 1 → n ≤ 8 → p := fun x y => absurd (show 1 ≤ n ∧ n ≤ 8 by omega) a
    exact zb_149 (d := d + 56) (fun _ => ⟨⟨_, rfl, rfl⟩, R⟩) (fun x y _ => na x y) (fun x y _ => na x y) (fun _ _ => ⟨⟨_, rfl, rfl⟩, R⟩)
