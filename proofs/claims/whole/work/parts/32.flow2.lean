-- the flow of the class: gather, passLake, serve (wip/whole/gen/laws7.py)
/-- the kinds that a flow's working writes -/
def fk (k : Nat) : Bool := k == 0 || (Nat.ble 13 k && Nat.ble k 27) || k == 44 || k == 45
/-- the state with those kinds being anything -/
def zG (σ : zS) (G : Nat → Nat → Nat → Int) : zS := (fun k => if fk k = true then G k else σ.1 k, σ.2)
theorem zG_of {σ τ : zS} (h1 : ∀ k, ¬ fk k = true → τ.1 k = σ.1 k) (h2 : τ.2 = σ.2) : τ = zG σ τ.1 := by
  refine Prod.ext (funext fun k => ?_) h2
  show τ.1 k = if fk k = true then τ.1 k else σ.1 k
  by_cases a : fk k = true
  · rw [if_pos a]
  · rw [if_neg a]; exact h1 k a
theorem zG_H {σ : zS} {G G' : Nat → Nat → Nat → Int} : zG (zG σ G) G' = zG σ G' := by
  refine Prod.ext (funext fun k => ?_) rfl
  show (if fk k = true then G' k else if fk k = true then G k else σ.1 k) = (if fk k = true then G' k else σ.1 k)
  by_cases a : fk k = true
  · rw [if_pos a, if_pos a]
  · rw [if_neg a, if_neg a, if_neg a]
theorem zG_N {σ : zS} {G : Nat → Nat → Nat → Int} : zN σ G = zG σ (zN σ G).1 := by
  refine zG_of (fun k hk => ?_) rfl
  show (if k = 44 then G 44 else if k = 45 then G 45 else σ.1 k) = σ.1 k
  rw [if_neg (fun e => hk (by rw [e]; rfl)), if_neg (fun e => hk (by rw [e]; rfl))]
theorem zG_self {σ : zS} : σ = zG σ σ.1 := zG_of (fun _ _ => rfl) rfl
theorem zG_k {σ : zS} {G : Nat → Nat → Nat → Int} {k : Nat} (h : fk k = true) : (zG σ G).1 k = G k := if_pos h
theorem fk_ne {k j : Nat} (hk : ¬ fk k = true) (hj : fk j = true) : ¬ k = j := fun e => hk (e ▸ hj)
theorem zs_11 {d : Nat} {σ : zS} {Q : Option zV → zS → Prop} {f r m : Nat} {sd rt ret on os rs : Int} (hr : r < 7) (hm : m < 96)
    (p1 : cSide σ r m = sd) (p2 : σ.1 35 0 r = rt) (p3 : cRet σ f r m = ret) (p4 : 0 < r → σ.1 22 (7 * f + (r - 1)) m = on ∧ σ.1 23 (7 * f + (r - 1)) m = os) (p4' : r = 0 → on = 0 ∧ os = 0)
    (p5 : 0 < r → 0 < m → σ.1 25 (7 * f + (r - 1)) (m - 1) = rs) (p5' : r = 0 ∨ m = 0 → rs = 0)
    (b1 : 0 ≤ sd ∧ sd ≤ 249975) (b2 : 0 ≤ rt ∧ rt ≤ 99) (b3 : 0 ≤ ret ∧ ret ≤ 319984) (b4 : 0 ≤ on ∧ on ≤ 2089807) (b5 : 0 ≤ os ∧ os ≤ 25000000) (b6 : 0 ≤ rs ∧ rs ≤ 25000000)
    (h : ∀ G : Nat → Nat → Nat → Int, (G 0 f 12 = on + sd + ret ∧ G 0 f 13 = sd * rt / 1000 + os + rs) → (∀ n j, ¬ (n = f ∧ (j = 12 ∨ j = 13)) → G 0 n j = σ.1 0 n j) →
      (∀ n j, G 19 n j = if j = m ∧ n = 7 * f + r then on + sd + ret else σ.1 19 n j) → (∀ n j, G 20 n j = if j = m ∧ n = 7 * f + r then sd * rt / 1000 + os + rs else σ.1 20 n j) → (∀ k, ¬ k = 0 → ¬ k = 19 → ¬ k = 20 → G k = σ.1 k) → Q none (zG σ G)) :
    zM (d + 12) 11 [.inr (.inr (0, f)), .inl (r : Int), .inl (m : Int)] σ Q := by
  have q1 : 0 ≤ sd * rt := Int.mul_nonneg b1.1 b2.1
  have q2 : sd * rt ≤ 249975 * 99 := Int.mul_le_mul b1.2 b2.2 b2.1 (by decide)
  have e1 : zW ((zW (sd * rt)).tdiv 1000) = sd * rt / 1000 := by rw [zW_id (z := sd * rt) (by omega), zTd q1, zW_id (by omega)]
  have e2 : zW (sd + ret) = sd + ret := zW_id (by omega)
  have key : ∀ τ : zS, τ.2 = σ.2 → (∀ k, ¬ k = 0 → ¬ k = 19 → ¬ k = 20 → τ.1 k = σ.1 k) → (τ.1 0 f 12 = on + sd + ret ∧ τ.1 0 f 13 = sd * rt / 1000 + os + rs) → (∀ n j, ¬ (n = f ∧ (j = 12 ∨ j = 13)) → τ.1 0 n j = σ.1 0 n j) →
      (∀ n j, τ.1 19 n j = if j = m ∧ n = 7 * f + r then on + sd + ret else σ.1 19 n j) → (∀ n j, τ.1 20 n j = if j = m ∧ n = 7 * f + r then sd * rt / 1000 + os + rs else σ.1 20 n j) → Q none τ := by
    intro τ t1 t2 t3 t4 t5 t6
    rw [zG_of (σ := σ) (τ := τ) (fun k hk => t2 k (fk_ne hk rfl) (fk_ne hk rfl) (fk_ne hk rfl)) t1]
    exact h _ t3 t4 t5 t6 t2
  have z0 : ∀ (τ : zS) (v : Int) (jj : Nat), (jj = 12 ∨ jj = 13) → ∀ n j, ¬ (n = f ∧ (j = 12 ∨ j = 13)) → (zU τ 0 f jj v).1 0 n j = τ.1 0 n j := fun τ v jj hj n j hn => if_neg (fun q => hn ⟨q.2.2, by rw [q.2.1]; exact hj⟩)
  refine zb_11 (by omega) (by omega) (by omega) (fun _ => by omega) (fun q => ?_) (fun _ => by omega) (fun _ q => ?_) (fun q => ?_) (fun q q2 => ?_) (fun q q2 => ?_)
  · rw [zS1 (by omega) (by omega)]; omega
  · rw [zS1 (by omega) (by omega)]; omega
  · have r0 : r = 0 := by omega
    obtain ⟨o1, o2⟩ := p4' r0
    have o3 := p5' (Or.inl r0)
    have c1 : zW (cSide σ (r : Int).toNat (m : Int).toNat + cRet σ f (r : Int).toNat (m : Int).toNat) = on + sd + ret := by
      show zW (cSide σ r m + cRet σ f r m) = _; rw [p1, p3, e2]; omega
    have c2 : zW ((zW (cSide σ (r : Int).toNat (m : Int).toNat * σ.1 35 0 (r : Int).toNat)).tdiv 1000) = sd * rt / 1000 + os + rs := by
      show zW ((zW (cSide σ r m * σ.1 35 0 r)).tdiv 1000) = _; rw [p1, p2, e1]; omega
    rw [c1, c2]
    refine key _ rfl (fun k k0 k1 k2 => by rw [zU_off k2, zU_off k1, zU_off k0, zU_off k0]) ⟨zU_same (σ := σ), zU_same (σ := zU σ 0 f 12 _)⟩ (fun n j hn => (z0 (zU σ 0 f 12 _) _ 13 (Or.inr rfl) n j hn).trans (z0 σ _ 12 (Or.inl rfl) n j hn)) (fun n j => ?_) (fun n j => ?_)
    · show (if 19 = 19 ∧ j = m ∧ n = 7 * f + r then _ else _) = _
      by_cases e : j = m ∧ n = 7 * f + r
      · rw [if_pos ⟨rfl, e⟩, if_pos e]
      · rw [if_neg (fun q => e q.2), if_neg e]; rfl
    · show (if 20 = 20 ∧ j = m ∧ n = 7 * f + r then _ else _) = _
      by_cases e : j = m ∧ n = 7 * f + r
      · rw [if_pos ⟨rfl, e⟩, if_pos e]
      · rw [if_neg (fun q => e q.2), if_neg e]; rfl
  · have r0 : 0 < r := by omega
    have m0 : m = 0 := by omega
    obtain ⟨o1, o2⟩ := p4 r0
    have o3 := p5' (Or.inr m0)
    rw [zS1 r0 (by omega)]
    have c1 : zW (zW (cSide σ (r : Int).toNat (m : Int).toNat + cRet σ f (r : Int).toNat (m : Int).toNat) + σ.1 22 (7 * f + ((r - 1 : Nat) : Int).toNat) (m : Int).toNat) = on + sd + ret := by
      show zW (zW (cSide σ r m + cRet σ f r m) + σ.1 22 (7 * f + (r - 1)) m) = _; rw [p1, p3, e2, o1, zW_id (by omega)]; omega
    have c2 : zW (zW ((zW (cSide σ (r : Int).toNat (m : Int).toNat * σ.1 35 0 (r : Int).toNat)).tdiv 1000) + σ.1 23 (7 * f + ((r - 1 : Nat) : Int).toNat) (m : Int).toNat) = sd * rt / 1000 + os + rs := by
      show zW (zW ((zW (cSide σ r m * σ.1 35 0 r)).tdiv 1000) + σ.1 23 (7 * f + (r - 1)) m) = _; rw [p1, p2, e1, o2, zW_id (by omega)]; omega
    rw [c1, c2]
    refine key _ rfl (fun k k0 k1 k2 => by rw [zU_off k2, zU_off k1, zU_off k0, zU_off k0, zU_off k0, zU_off k0]) ⟨zU_same (σ := zU (zU σ 0 f 12 _) 0 f 13 _), zU_same (σ := zU (zU (zU σ 0 f 12 _) 0 f 13 _) 0 f 12 _)⟩ (fun n j hn => (z0 (zU (zU (zU σ 0 f 12 _) 0 f 13 _) 0 f 12 _) _ 13 (Or.inr rfl) n j hn).trans ((z0 (zU (zU σ 0 f 12 _) 0 f 13 _) _ 12 (Or.inl rfl) n j hn).trans ((z0 (zU σ 0 f 12 _) _ 13 (Or.inr rfl) n j hn).trans (z0 σ _ 12 (Or.inl rfl) n j hn)))) (fun n j => ?_) (fun n j => ?_)
    · show (if 19 = 19 ∧ j = m ∧ n = 7 * f + r then _ else _) = _
      by_cases e : j = m ∧ n = 7 * f + r
      · rw [if_pos ⟨rfl, e⟩, if_pos e]
      · rw [if_neg (fun q => e q.2), if_neg e]; rfl
    · show (if 20 = 20 ∧ j = m ∧ n = 7 * f + r then _ else _) = _
      by_cases e : j = m ∧ n = 7 * f + r
      · rw [if_pos ⟨rfl, e⟩, if_pos e]
      · rw [if_neg (fun q => e q.2), if_neg e]; rfl
  · have r0 : 0 < r := by omega
    have m0 : 0 < m := by omega
    obtain ⟨o1, o2⟩ := p4 r0
    have o3 := p5 r0 m0
    rw [zS1 r0 (by omega), zS1 m0 (by omega)]
    have c1 : zW (zW (cSide σ (r : Int).toNat (m : Int).toNat + cRet σ f (r : Int).toNat (m : Int).toNat) + σ.1 22 (7 * f + ((r - 1 : Nat) : Int).toNat) (m : Int).toNat) = on + sd + ret := by
      show zW (zW (cSide σ r m + cRet σ f r m) + σ.1 22 (7 * f + (r - 1)) m) = _; rw [p1, p3, e2, o1, zW_id (by omega)]; omega
    have c2 : zW (zW (zW ((zW (cSide σ (r : Int).toNat (m : Int).toNat * σ.1 35 0 (r : Int).toNat)).tdiv 1000) + σ.1 23 (7 * f + ((r - 1 : Nat) : Int).toNat) (m : Int).toNat) + σ.1 25 (7 * f + ((r - 1 : Nat) : Int).toNat) ((m - 1 : Nat) : Int).toNat) = sd * rt / 1000 + os + rs := by
      show zW (zW (zW ((zW (cSide σ r m * σ.1 35 0 r)).tdiv 1000) + σ.1 23 (7 * f + (r - 1)) m) + σ.1 25 (7 * f + (r - 1)) (m - 1)) = _; rw [p1, p2, e1, o2, o3, zW_id (z := sd * rt / 1000 + os) (by omega), zW_id (by omega)]
    rw [c1, c2]
    refine key _ rfl (fun k k0 k1 k2 => by rw [zU_off k2, zU_off k1, zU_off k0, zU_off k0, zU_off k0, zU_off k0, zU_off k0]) ⟨zU_same (σ := zU (zU σ 0 f 12 _) 0 f 13 _), zU_same (σ := zU (zU (zU (zU σ 0 f 12 _) 0 f 13 _) 0 f 12 _) 0 f 13 _)⟩ (fun n j hn => (z0 (zU (zU (zU (zU σ 0 f 12 _) 0 f 13 _) 0 f 12 _) 0 f 13 _) _ 13 (Or.inr rfl) n j hn).trans ((z0 (zU (zU (zU σ 0 f 12 _) 0 f 13 _) 0 f 12 _) _ 13 (Or.inr rfl) n j hn).trans ((z0 (zU (zU σ 0 f 12 _) 0 f 13 _) _ 12 (Or.inl rfl) n j hn).trans ((z0 (zU σ 0 f 12 _) _ 13 (Or.inr rfl) n j hn).trans (z0 σ _ 12 (Or.inl rfl) n j hn))))) (fun n j => ?_) (fun n j => ?_)
    · show (if 19 = 19 ∧ j = m ∧ n = 7 * f + r then _ else _) = _
      by_cases e : j = m ∧ n = 7 * f + r
      · rw [if_pos ⟨rfl, e⟩, if_pos e]
      · rw [if_neg (fun q => e q.2), if_neg e]; rfl
    · show (if 20 = 20 ∧ j = m ∧ n = 7 * f + r then _ else _) = _
      by_cases e : j = m ∧ n = 7 * f + r
      · rw [if_pos ⟨rfl, e⟩, if_pos e]
      · rw [if_neg (fun q => e q.2), if_neg e]; rfl
theorem zs_12n {d : Nat} {σ : zS} {Q : Option zV → zS → Prop} {f r m : Nat} (hr : r < 7) (hm : m < 96) (ht : cTh σ r = 0)
    (h : ∀ G : Nat → Nat → Nat → Int, (∀ n j, G 21 n j = if j = m ∧ n = 7 * f + r then σ.1 0 f 12 else σ.1 21 n j) → (∀ k, ¬ k = 21 → G k = σ.1 k) → Q none (zG σ G)) :
    zM (d + 12) 12 [.inr (.inr (0, f)), .inl (r : Int), .inl (m : Int)] σ Q := by
  refine zb_12 (by omega) (fun _ => by omega) (fun q => absurd ht q) (fun q => absurd ht q) (fun q => absurd ht q) (fun q => absurd ht q) (fun q => absurd ht q) (fun _ => ?_) (fun q => absurd ht q)
  rw [zG_of (σ := σ) (τ := zU σ 21 _ _ _) (fun k hk => zU_off (fk_ne hk rfl)) rfl]
  refine h _ (fun n j => ?_) (fun k hk => zU_off hk)
  show (if 21 = 21 ∧ j = m ∧ n = 7 * f + r then _ else _) = _
  by_cases e : j = m ∧ n = 7 * f + r
  · rw [if_pos ⟨rfl, e⟩, if_pos e]
  · rw [if_neg (fun q => e q.2), if_neg e]
theorem cShr_id {x y z : Int} (hx : 0 ≤ x ∧ x ≤ 100000000) (hy : 0 ≤ y ∧ y ≤ z) (hz : z ≤ 100000000) : cShr x y z = if z = 0 then 0 else x * y / z := by
  unfold cShr
  by_cases e : z = 0
  · rw [if_pos e, if_pos e]
  · rw [if_neg e, if_neg e]
    have p0 : 0 ≤ x * y := Int.mul_nonneg hx.1 hy.1
    have p1 : x * y ≤ 100000000 * 100000000 := Int.mul_le_mul hx.2 (by omega) hy.1 (by decide)
    have sh := uShare hx.1 hy.1 (show 0 < z by omega) hy.2
    rw [zWl_id (z := x * y) (by omega), zTd p0, zWl_id (by omega), zW_id (by omega)]
theorem zs_12y {d : Nat} {σ : zS} {Q : Option zV → zS → Prop} {f r m : Nat} {lev lsl cm cs room surf rel : Int} (hr : r < 7) (hm : m < 96) (ht : ¬ cTh σ r = 0)
    (p1 : σ.1 26 (7 * f + r) m = lev) (p2 : σ.1 27 (7 * f + r) m = lsl) (p3 : σ.1 0 f 12 = cm) (p4 : σ.1 0 f 13 = cs) (p5 : σ.1 3 (7 * 0 + r) 1 = room) (p6 : σ.1 3 (7 * 0 + r) 3 = surf) (p7 : σ.1 15 f r = rel)
    (b1 : 0 ≤ lev ∧ lev ≤ 99999) (b2 : 0 ≤ lsl ∧ 0 ≤ cs ∧ lsl + cs ≤ 25000000) (b3 : 0 ≤ cm ∧ cm ≤ 2089807) (b4 : 0 ≤ room ∧ room ≤ 99999) (b5 : 0 ≤ surf ∧ surf ≤ 99) (b6 : 0 ≤ rel ∧ rel ≤ 19998)
    {inn out outS : Int} (e1 : inn = lev - uSteam lev surf + cm) (e2 : out = uMax (uMin rel inn) (inn - room)) (e3 : outS = if inn = 0 then 0 else (lsl + cs) * out / inn)
    (h : ∀ G : Nat → Nat → Nat → Int, (G 0 f 12 = out ∧ G 0 f 13 = outS) → (∀ n j, ¬ (n = f ∧ (j = 12 ∨ j = 13)) → G 0 n j = σ.1 0 n j) → (∀ n j, G 21 n j = if j = m ∧ n = 7 * f + r then out else σ.1 21 n j) →
      (∀ n j, G 26 n j = if j = m + 1 ∧ n = 7 * f + r then inn - out else σ.1 26 n j) → (∀ n j, G 27 n j = if j = m + 1 ∧ n = 7 * f + r then lsl + cs - outS else σ.1 27 n j) → (∀ k, ¬ k = 0 → ¬ k = 21 → ¬ k = 26 → ¬ k = 27 → G k = σ.1 k) → Q none (zG σ G)) :
    zM (d + 12) 12 [.inr (.inr (0, f)), .inl (r : Int), .inl (m : Int)] σ Q := by
  have st := uSteam_b b1 b5
  have ho : 0 ≤ out ∧ out ≤ inn := by rw [e2]; unfold uMax uMin; split <;> split <;> omega
  have hs : 0 ≤ outS ∧ outS ≤ lsl + cs := by
    rw [e3]; split
    · omega
    · exact uShare (by omega) ho.1 (by omega) ho.2
  have c0 : cStm σ f (r : Int).toNat (m : Int).toNat = uSteam lev surf := by
    show cStm σ f r m = _
    unfold cStm; rw [if_neg ht, p1, p6]
  have c1 : zW (zW (σ.1 26 (7 * f + (r : Int).toNat) (m : Int).toNat - uSteam lev surf) + σ.1 0 f 12) = inn := by
    show zW (zW (σ.1 26 (7 * f + r) m - uSteam lev surf) + σ.1 0 f 12) = inn
    rw [p1, p3, zW_id (z := lev - uSteam lev surf) (by omega), zW_id (by omega), e1]
  have c2 : uMax (uMin (σ.1 15 f (r : Int).toNat) inn) (zW (inn - σ.1 3 (7 * 0 + (r : Int).toNat) 1)) = out := by
    show uMax (uMin (σ.1 15 f r) inn) (zW (inn - σ.1 3 (7 * 0 + r) 1)) = out
    rw [p7, p5, zW_id (by omega), e2]
  have c3 : zW (σ.1 27 (7 * f + (r : Int).toNat) (m : Int).toNat + σ.1 0 f 13) = lsl + cs := by
    show zW (σ.1 27 (7 * f + r) m + σ.1 0 f 13) = _
    rw [p2, p4, zW_id (by omega)]
  have c4 : cShr (lsl + cs) out inn = outS := by rw [cShr_id ⟨by omega, by omega⟩ ho (by omega), e3]
  refine zb_12 (by omega) (fun _ => by omega) (fun _ => by omega) (fun _ => by omega) (fun _ => by omega) (fun _ => by rw [zWs (by omega)]; omega) (fun _ => by omega) (fun q => absurd q ht) (fun _ => ?_)
  rw [c0, c1, c2, c3, c4, zW_id (z := inn - out) (by omega), zW_id (z := lsl + cs - outS) (by omega), zWs (by omega)]
  generalize hτ : zU (zU (zU (zU (zU σ 26 _ _ _) 27 _ _ _) 0 f 12 _) 0 f 13 _) 21 _ _ _ = τ
  have t0 : ∀ k, ¬ k = 0 → ¬ k = 21 → ¬ k = 26 → ¬ k = 27 → τ.1 k = σ.1 k := fun k k0 k1 k2 k3 => by subst hτ; rw [zU_off k1, zU_off k0, zU_off k0, zU_off k3, zU_off k2]
  rw [zG_of (σ := σ) (τ := τ) (fun k hk => t0 k (fk_ne hk rfl) (fk_ne hk rfl) (fk_ne hk rfl) (fk_ne hk rfl)) (by subst hτ; rfl)]
  refine h _ ?_ (fun n j hn => ?_) (fun n j => ?_) (fun n j => ?_) (fun n j => ?_) t0
  · subst hτ
    exact ⟨zU_same (σ := zU (zU σ 26 _ _ _) 27 _ _ _), zU_same (σ := zU (zU (zU σ 26 _ _ _) 27 _ _ _) 0 f 12 _)⟩
  · subst hτ
    show (zU (zU (zU (zU σ 26 _ _ _) 27 _ _ _) 0 f 12 _) 0 f 13 _).1 0 n j = _
    rw [zU_ne (by omega), zU_ne (by omega)]; rfl
  · subst hτ
    show (if 21 = 21 ∧ j = m ∧ n = 7 * f + r then _ else _) = _
    by_cases e : j = m ∧ n = 7 * f + r
    · rw [if_pos ⟨rfl, e⟩, if_pos e]
    · rw [if_neg (fun q => e q.2), if_neg e]; rfl
  · subst hτ
    show (if 26 = 26 ∧ j = m + 1 ∧ n = 7 * f + r then _ else _) = _
    by_cases e : j = m + 1 ∧ n = 7 * f + r
    · rw [if_pos ⟨rfl, e⟩, if_pos e]
    · rw [if_neg (fun q => e q.2), if_neg e]
  · subst hτ
    show (if 27 = 27 ∧ j = m + 1 ∧ n = 7 * f + r then _ else _) = _
    by_cases e : j = m + 1 ∧ n = 7 * f + r
    · rw [if_pos ⟨rfl, e⟩, if_pos e]
    · rw [if_neg (fun q => e q.2), if_neg e]; rfl
-- X0_serve
theorem zb_13x {d : Nat} {σ : zS} {Q : Option zV → zS → Prop} {f g : Nat} {r m a b s n : Int} {x y z : Option zV}
    (q1 : σ.1 8 0 8 ≤ n ∨ (0 ≤ n ∧ n < 16 ∧ (0 ≤ σ.1 14 f n.toNat ∧ σ.1 14 f n.toNat < 16) ∧ ¬ σ.1 1 (16 * 0 + (σ.1 14 f n.toNat).toNat) 2 = r))
    (o1 : σ.1 8 0 8 ≤ n → (0 : Int) ≤ m ∧ m < (96 : Int))
    (o2 : ¬ σ.1 8 0 8 ≤ n → (0 : Int) ≤ n ∧ n < (16 : Int))
    (o3 : ¬ σ.1 8 0 8 ≤ n → (0 : Int) ≤ σ.1 14 f (n.toNat) ∧ σ.1 14 f (n.toNat) < (16 : Int))
    (o4 : ¬ σ.1 8 0 8 ≤ n → (0 : Int) ≤ m ∧ m < (96 : Int))
    (h1 : σ.1 8 0 8 ≤ n → Q (some (.inl n)) (zU (zU (zU (zU σ 24 g (m.toNat) b) 25 g (m.toNat) s) 22 g (m.toNat) (σ.1 0 f 12)) 23 g (m.toNat) (σ.1 0 f 13)))
    (h2 : ¬ σ.1 8 0 8 ≤ n → Q (some (.inl n)) (zU (zU (zU (zU σ 24 g (m.toNat) b) 25 g (m.toNat) s) 22 g (m.toNat) (σ.1 0 f 12)) 23 g (m.toNat) (σ.1 0 f 13))) :
    zX (d + 12) 13 11 [some (.inr (.inr (0, f))), some (.inl r), some (.inl m), some (.inl a), some (.inr (.inr (4, g))), some (.inl b), some (.inl s), some (.inl n), x, y, z] [] σ Q := by
  refine zX_run (n' := 15) (ls' := [some (.inr (.inr (0, f))), some (.inl r), some (.inl m), some (.inl a), some (.inr (.inr (4, g))), some (.inl b), some (.inl s), some (.inl n), x, y, z]) (st' := [.inl (σ.1 8 0 8), .inl n]) (σ' := σ) 4 rfl ?_
  refine zX_c3 rfl (fun a1 => ?_) (fun a1 => ?_)
  · skip
    refine zX_run (n' := 94) (ls' := [some (.inr (.inr (0, f))), some (.inl r), some (.inl m), some (.inl a), some (.inr (.inr (4, g))), some (.inl b), some (.inl s), some (.inl n), x, y, z]) (st' := [.inl b, .inl m, .inr (.inr (24, g))]) (σ' := σ) 4 rfl ?_
    refine zX_ast1 (L := 96) rfl (by decide) rfl (o1 a1) ?_
    refine zX_run (n' := 99) (ls' := [some (.inr (.inr (0, f))), some (.inl r), some (.inl m), some (.inl a), some (.inr (.inr (4, g))), some (.inl b), some (.inl s), some (.inl n), x, y, z]) (st' := [.inl s, .inl m, .inr (.inr (25, g))]) (σ' := (zU σ 24 g (m.toNat) b)) 4 rfl ?_
    refine zX_ast1 (L := 96) rfl (by decide) rfl (o1 a1) ?_
    refine zX_run (n' := 105) (ls' := [some (.inr (.inr (0, f))), some (.inl r), some (.inl m), some (.inl a), some (.inr (.inr (4, g))), some (.inl b), some (.inl s), some (.inl n), x, y, z]) (st' := [.inl (σ.1 0 f 12), .inl m, .inr (.inr (22, g))]) (σ' := (zU (zU σ 24 g (m.toNat) b) 25 g (m.toNat) s)) 5 rfl ?_
    refine zX_ast1 (L := 96) rfl (by decide) rfl (o1 a1) ?_
    refine zX_run (n' := 111) (ls' := [some (.inr (.inr (0, f))), some (.inl r), some (.inl m), some (.inl a), some (.inr (.inr (4, g))), some (.inl b), some (.inl s), some (.inl n), x, y, z]) (st' := [.inl (σ.1 0 f 13), .inl m, .inr (.inr (23, g))]) (σ' := (zU (zU (zU σ 24 g (m.toNat) b) 25 g (m.toNat) s) 22 g (m.toNat) (σ.1 0 f 12))) 5 rfl ?_
    refine zX_ast1 (L := 96) rfl (by decide) rfl (o1 a1) ?_
    refine zX_run (n' := 113) (ls' := [some (.inr (.inr (0, f))), some (.inl r), some (.inl m), some (.inl a), some (.inr (.inr (4, g))), some (.inl b), some (.inl s), some (.inl n), x, y, z]) (st' := [.inl n]) (σ' := (zU (zU (zU (zU σ 24 g (m.toNat) b) 25 g (m.toNat) s) 22 g (m.toNat) (σ.1 0 f 12)) 23 g (m.toNat) (σ.1 0 f 13))) 1 rfl ?_
    exact zX_ret rfl rfl (h1 a1)
  · skip
    refine zX_run (n' := 22) (ls' := [some (.inr (.inr (0, f))), some (.inl r), some (.inl m), some (.inl a), some (.inr (.inr (4, g))), some (.inl b), some (.inl s), some (.inl n), x, y, z]) (st' := [.inl n, .inr (.inr (14, f)), .inr (.inr (39, 0))]) (σ' := σ) 6 rfl ?_
    refine zX_ald1 (L := 16) rfl (by decide) rfl (o2 a1) ?_
    refine zX_ald5 (L := 16) rfl (by decide) rfl (o3 a1) ?_
    refine zX_run (n' := 26) (ls' := [some (.inr (.inr (0, f))), some (.inl r), some (.inl m), some (.inl a), some (.inr (.inr (4, g))), some (.inl b), some (.inl s), some (.inl n), x, y, z]) (st' := [.inl r, .inl (σ.1 1 (16 * 0 + (σ.1 14 f (n.toNat)).toNat) 2)]) (σ' := σ) 2 rfl ?_
    refine zX_c1 rfl (fun _ => ?_) (fun a2 => absurd a2 (by omega))
    refine zX_run (n' := 94) (ls' := [some (.inr (.inr (0, f))), some (.inl r), some (.inl m), some (.inl a), some (.inr (.inr (4, g))), some (.inl b), some (.inl s), some (.inl n), x, y, z]) (st' := [.inl b, .inl m, .inr (.inr (24, g))]) (σ' := σ) 4 rfl ?_
    refine zX_ast1 (L := 96) rfl (by decide) rfl (o4 a1) ?_
    refine zX_run (n' := 99) (ls' := [some (.inr (.inr (0, f))), some (.inl r), some (.inl m), some (.inl a), some (.inr (.inr (4, g))), some (.inl b), some (.inl s), some (.inl n), x, y, z]) (st' := [.inl s, .inl m, .inr (.inr (25, g))]) (σ' := (zU σ 24 g (m.toNat) b)) 4 rfl ?_
    refine zX_ast1 (L := 96) rfl (by decide) rfl (o4 a1) ?_
    refine zX_run (n' := 105) (ls' := [some (.inr (.inr (0, f))), some (.inl r), some (.inl m), some (.inl a), some (.inr (.inr (4, g))), some (.inl b), some (.inl s), some (.inl n), x, y, z]) (st' := [.inl (σ.1 0 f 12), .inl m, .inr (.inr (22, g))]) (σ' := (zU (zU σ 24 g (m.toNat) b) 25 g (m.toNat) s)) 5 rfl ?_
    refine zX_ast1 (L := 96) rfl (by decide) rfl (o4 a1) ?_
    refine zX_run (n' := 111) (ls' := [some (.inr (.inr (0, f))), some (.inl r), some (.inl m), some (.inl a), some (.inr (.inr (4, g))), some (.inl b), some (.inl s), some (.inl n), x, y, z]) (st' := [.inl (σ.1 0 f 13), .inl m, .inr (.inr (23, g))]) (σ' := (zU (zU (zU σ 24 g (m.toNat) b) 25 g (m.toNat) s) 22 g (m.toNat) (σ.1 0 f 12))) 5 rfl ?_
    refine zX_ast1 (L := 96) rfl (by decide) rfl (o4 a1) ?_
    refine zX_run (n' := 113) (ls' := [some (.inr (.inr (0, f))), some (.inl r), some (.inl m), some (.inl a), some (.inr (.inr (4, g))), some (.inl b), some (.inl s), some (.inl n), x, y, z]) (st' := [.inl n]) (σ' := (zU (zU (zU (zU σ 24 g (m.toNat) b) 25 g (m.toNat) s) 22 g (m.toNat) (σ.1 0 f 12)) 23 g (m.toNat) (σ.1 0 f 13))) 1 rfl ?_
    exact zX_ret rfl rfl (h2 a1)
-- X0_serve
theorem zb_13 {d : Nat} {σ : zS} {Q : Option zV → zS → Prop} {f g : Nat} {r m a b s n : Int} {x y z : Option zV}
    (q1 : n < σ.1 8 0 8)
    (q2 : σ.1 1 (16 * 0 + (σ.1 14 f n.toNat).toNat) 2 = r)
    (o1 : (0 : Int) ≤ n ∧ n < (16 : Int))
    (o2 : (0 : Int) ≤ σ.1 14 f (n.toNat) ∧ σ.1 14 f (n.toNat) < (16 : Int))
    (o3 : (0 : Int) ≤ m ∧ m < (96 : Int))
    (o4 : 0 ≤ σ.1 1 (16 * 0 + (σ.1 14 f (n.toNat)).toNat) 0 ∧ σ.1 1 (16 * 0 + (σ.1 14 f (n.toNat)).toNat) 0 ≤ 5)
    (h1 : zX (d + 12) 13 11 [some (.inr (.inr (0, f))), some (.inl r), some (.inl m), some (.inl a), some (.inr (.inr (4, g))), some (.inl (zW (b + (uGb (σ.1 1 (16 * 0 + (σ.1 14 f (n.toNat)).toNat) 0) (uMin (σ.1 17 (16 * f + (σ.1 14 f (n.toNat)).toNat) (m.toNat)) (σ.1 0 f 12)))))), some (.inl (zW (s + (zW ((cShr (σ.1 0 f 13) (uMin (σ.1 17 (16 * f + (σ.1 14 f (n.toNat)).toNat) (m.toNat)) (σ.1 0 f 12)) (σ.1 0 f 12)) + (zW ((uMin (σ.1 17 (16 * f + (σ.1 14 f (n.toNat)).toNat) (m.toNat)) (σ.1 0 f 12)).tdiv 50))))))), some (.inl (zW (n + 1))), some (.inl (σ.1 14 f (n.toNat))), some (.inl (uMin (σ.1 17 (16 * f + (σ.1 14 f (n.toNat)).toNat) (m.toNat)) (σ.1 0 f 12))), some (.inl (cShr (σ.1 0 f 13) (uMin (σ.1 17 (16 * f + (σ.1 14 f (n.toNat)).toNat) (m.toNat)) (σ.1 0 f 12)) (σ.1 0 f 12)))] [] (zU (zU (zU σ 18 (16 * f + (σ.1 14 f (n.toNat)).toNat) (m.toNat) (uMin (σ.1 17 (16 * f + (σ.1 14 f (n.toNat)).toNat) (m.toNat)) (σ.1 0 f 12))) 0 f 12 (zW ((σ.1 0 f 12) - (uMin (σ.1 17 (16 * f + (σ.1 14 f (n.toNat)).toNat) (m.toNat)) (σ.1 0 f 12))))) 0 f 13 (zW ((σ.1 0 f 13) - (cShr (σ.1 0 f 13) (uMin (σ.1 17 (16 * f + (σ.1 14 f (n.toNat)).toNat) (m.toNat)) (σ.1 0 f 12)) (σ.1 0 f 12))))) Q) :
    zX (d + 12) 13 11 [some (.inr (.inr (0, f))), some (.inl r), some (.inl m), some (.inl a), some (.inr (.inr (4, g))), some (.inl b), some (.inl s), some (.inl n), x, y, z] [] σ Q := by
  refine zX_run (n' := 15) (ls' := [some (.inr (.inr (0, f))), some (.inl r), some (.inl m), some (.inl a), some (.inr (.inr (4, g))), some (.inl b), some (.inl s), some (.inl n), x, y, z]) (st' := [.inl (σ.1 8 0 8), .inl n]) (σ' := σ) 4 rfl ?_
  refine zX_c3 rfl (fun a1 => absurd a1 (by omega)) (fun _ => ?_)
  refine zX_run (n' := 22) (ls' := [some (.inr (.inr (0, f))), some (.inl r), some (.inl m), some (.inl a), some (.inr (.inr (4, g))), some (.inl b), some (.inl s), some (.inl n), x, y, z]) (st' := [.inl n, .inr (.inr (14, f)), .inr (.inr (39, 0))]) (σ' := σ) 6 rfl ?_
  refine zX_ald1 (L := 16) rfl (by decide) rfl o1 ?_
  refine zX_ald5 (L := 16) rfl (by decide) rfl o2 ?_
  refine zX_run (n' := 26) (ls' := [some (.inr (.inr (0, f))), some (.inl r), some (.inl m), some (.inl a), some (.inr (.inr (4, g))), some (.inl b), some (.inl s), some (.inl n), x, y, z]) (st' := [.inl r, .inl (σ.1 1 (16 * 0 + (σ.1 14 f (n.toNat)).toNat) 2)]) (σ' := σ) 2 rfl ?_
  refine zX_c1 rfl (fun a2 => absurd a2 (by omega)) (fun _ => ?_)
  refine zX_run (n' := 30) (ls' := [some (.inr (.inr (0, f))), some (.inl r), some (.inl m), some (.inl a), some (.inr (.inr (4, g))), some (.inl b), some (.inl s), some (.inl n), x, y, z]) (st' := [.inl n, .inr (.inr (14, f))]) (σ' := σ) 3 rfl ?_
  refine zX_ald1 (L := 16) rfl (by decide) rfl o1 ?_
  refine zX_run (n' := 35) (ls' := [some (.inr (.inr (0, f))), some (.inl r), some (.inl m), some (.inl a), some (.inr (.inr (4, g))), some (.inl b), some (.inl s), some (.inl n), some (.inl (σ.1 14 f (n.toNat))), y, z]) (st' := [.inl (σ.1 14 f (n.toNat)), .inr (.inr (12, f))]) (σ' := σ) 4 rfl ?_
  refine zX_ald5 (L := 16) rfl (by decide) rfl o2 ?_
  refine zX_run (n' := 38) (ls' := [some (.inr (.inr (0, f))), some (.inl r), some (.inl m), some (.inl a), some (.inr (.inr (4, g))), some (.inl b), some (.inl s), some (.inl n), some (.inl (σ.1 14 f (n.toNat))), y, z]) (st' := [.inl m, .inr (.inr (17, 16 * f + (σ.1 14 f (n.toNat)).toNat))]) (σ' := σ) 2 rfl ?_
  refine zX_ald1 (L := 96) rfl (by decide) rfl o3 ?_
  refine zX_run (n' := 41) (ls' := [some (.inr (.inr (0, f))), some (.inl r), some (.inl m), some (.inl a), some (.inr (.inr (4, g))), some (.inl b), some (.inl s), some (.inl n), some (.inl (σ.1 14 f (n.toNat))), y, z]) (st' := [.inl (σ.1 0 f 12), .inl (σ.1 17 (16 * f + (σ.1 14 f (n.toNat)).toNat) (m.toNat))]) (σ' := σ) 2 rfl ?_
  refine zX_b0 rfl (by omega) rfl ?_
  refine zX_run (n' := 48) (ls' := [some (.inr (.inr (0, f))), some (.inl r), some (.inl m), some (.inl a), some (.inr (.inr (4, g))), some (.inl b), some (.inl s), some (.inl n), some (.inl (σ.1 14 f (n.toNat))), some (.inl (uMin (σ.1 17 (16 * f + (σ.1 14 f (n.toNat)).toNat) (m.toNat)) (σ.1 0 f 12))), z]) (st' := [.inl (σ.1 0 f 12), .inl (uMin (σ.1 17 (16 * f + (σ.1 14 f (n.toNat)).toNat) (m.toNat)) (σ.1 0 f 12)), .inl (σ.1 0 f 13)]) (σ' := σ) 6 rfl ?_
  refine zX_call rfl rfl ?_
  refine zs_14 ?_
  · skip
    refine zX_run (n' := 53) (ls' := [some (.inr (.inr (0, f))), some (.inl r), some (.inl m), some (.inl a), some (.inr (.inr (4, g))), some (.inl b), some (.inl s), some (.inl n), some (.inl (σ.1 14 f (n.toNat))), some (.inl (uMin (σ.1 17 (16 * f + (σ.1 14 f (n.toNat)).toNat) (m.toNat)) (σ.1 0 f 12))), some (.inl (cShr (σ.1 0 f 13) (uMin (σ.1 17 (16 * f + (σ.1 14 f (n.toNat)).toNat) (m.toNat)) (σ.1 0 f 12)) (σ.1 0 f 12)))]) (st' := [.inl (σ.1 14 f (n.toNat)), .inr (.inr (12, f))]) (σ' := σ) 4 rfl ?_
    refine zX_ald5 (L := 16) rfl (by decide) rfl o2 ?_
    refine zX_run (n' := 57) (ls' := [some (.inr (.inr (0, f))), some (.inl r), some (.inl m), some (.inl a), some (.inr (.inr (4, g))), some (.inl b), some (.inl s), some (.inl n), some (.inl (σ.1 14 f (n.toNat))), some (.inl (uMin (σ.1 17 (16 * f + (σ.1 14 f (n.toNat)).toNat) (m.toNat)) (σ.1 0 f 12))), some (.inl (cShr (σ.1 0 f 13) (uMin (σ.1 17 (16 * f + (σ.1 14 f (n.toNat)).toNat) (m.toNat)) (σ.1 0 f 12)) (σ.1 0 f 12)))]) (st' := [.inl (uMin (σ.1 17 (16 * f + (σ.1 14 f (n.toNat)).toNat) (m.toNat)) (σ.1 0 f 12)), .inl m, .inr (.inr (18, 16 * f + (σ.1 14 f (n.toNat)).toNat))]) (σ' := σ) 3 rfl ?_
    refine zX_ast1 (L := 96) rfl (by decide) rfl o3 ?_
    refine zX_run (n' := 75) (ls' := [some (.inr (.inr (0, f))), some (.inl r), some (.inl m), some (.inl a), some (.inr (.inr (4, g))), some (.inl b), some (.inl s), some (.inl n), some (.inl (σ.1 14 f (n.toNat))), some (.inl (uMin (σ.1 17 (16 * f + (σ.1 14 f (n.toNat)).toNat) (m.toNat)) (σ.1 0 f 12))), some (.inl (cShr (σ.1 0 f 13) (uMin (σ.1 17 (16 * f + (σ.1 14 f (n.toNat)).toNat) (m.toNat)) (σ.1 0 f 12)) (σ.1 0 f 12)))]) (st' := [.inl (σ.1 14 f (n.toNat)), .inr (.inr (39, 0)), .inl b]) (σ' := (zU (zU (zU σ 18 (16 * f + (σ.1 14 f (n.toNat)).toNat) (m.toNat) (uMin (σ.1 17 (16 * f + (σ.1 14 f (n.toNat)).toNat) (m.toNat)) (σ.1 0 f 12))) 0 f 12 (zW ((σ.1 0 f 12) - (uMin (σ.1 17 (16 * f + (σ.1 14 f (n.toNat)).toNat) (m.toNat)) (σ.1 0 f 12))))) 0 f 13 (zW ((σ.1 0 f 13) - (cShr (σ.1 0 f 13) (uMin (σ.1 17 (16 * f + (σ.1 14 f (n.toNat)).toNat) (m.toNat)) (σ.1 0 f 12)) (σ.1 0 f 12)))))) 17 rfl ?_
    refine zX_ald5 (L := 16) rfl (by decide) rfl o2 ?_
    refine zX_run (n' := 77) (ls' := [some (.inr (.inr (0, f))), some (.inl r), some (.inl m), some (.inl a), some (.inr (.inr (4, g))), some (.inl b), some (.inl s), some (.inl n), some (.inl (σ.1 14 f (n.toNat))), some (.inl (uMin (σ.1 17 (16 * f + (σ.1 14 f (n.toNat)).toNat) (m.toNat)) (σ.1 0 f 12))), some (.inl (cShr (σ.1 0 f 13) (uMin (σ.1 17 (16 * f + (σ.1 14 f (n.toNat)).toNat) (m.toNat)) (σ.1 0 f 12)) (σ.1 0 f 12)))]) (st' := [.inl (uMin (σ.1 17 (16 * f + (σ.1 14 f (n.toNat)).toNat) (m.toNat)) (σ.1 0 f 12)), .inr (.inr (1, 16 * 0 + (σ.1 14 f (n.toNat)).toNat)), .inl b]) (σ' := (zU (zU (zU σ 18 (16 * f + (σ.1 14 f (n.toNat)).toNat) (m.toNat) (uMin (σ.1 17 (16 * f + (σ.1 14 f (n.toNat)).toNat) (m.toNat)) (σ.1 0 f 12))) 0 f 12 (zW ((σ.1 0 f 12) - (uMin (σ.1 17 (16 * f + (σ.1 14 f (n.toNat)).toNat) (m.toNat)) (σ.1 0 f 12))))) 0 f 13 (zW ((σ.1 0 f 13) - (cShr (σ.1 0 f 13) (uMin (σ.1 17 (16 * f + (σ.1 14 f (n.toNat)).toNat) (m.toNat)) (σ.1 0 f 12)) (σ.1 0 f 12)))))) 1 rfl ?_
    refine zX_call rfl rfl ?_
    refine zs_30 o4 ?_
    · skip
      refine zX_run (n' := 11) (ls' := [some (.inr (.inr (0, f))), some (.inl r), some (.inl m), some (.inl a), some (.inr (.inr (4, g))), some (.inl (zW (b + (uGb (σ.1 1 (16 * 0 + (σ.1 14 f (n.toNat)).toNat) 0) (uMin (σ.1 17 (16 * f + (σ.1 14 f (n.toNat)).toNat) (m.toNat)) (σ.1 0 f 12)))))), some (.inl (zW (s + (zW ((cShr (σ.1 0 f 13) (uMin (σ.1 17 (16 * f + (σ.1 14 f (n.toNat)).toNat) (m.toNat)) (σ.1 0 f 12)) (σ.1 0 f 12)) + (zW ((uMin (σ.1 17 (16 * f + (σ.1 14 f (n.toNat)).toNat) (m.toNat)) (σ.1 0 f 12)).tdiv 50))))))), some (.inl (zW (n + 1))), some (.inl (σ.1 14 f (n.toNat))), some (.inl (uMin (σ.1 17 (16 * f + (σ.1 14 f (n.toNat)).toNat) (m.toNat)) (σ.1 0 f 12))), some (.inl (cShr (σ.1 0 f 13) (uMin (σ.1 17 (16 * f + (σ.1 14 f (n.toNat)).toNat) (m.toNat)) (σ.1 0 f 12)) (σ.1 0 f 12)))]) (st' := []) (σ' := (zU (zU (zU σ 18 (16 * f + (σ.1 14 f (n.toNat)).toNat) (m.toNat) (uMin (σ.1 17 (16 * f + (σ.1 14 f (n.toNat)).toNat) (m.toNat)) (σ.1 0 f 12))) 0 f 12 (zW ((σ.1 0 f 12) - (uMin (σ.1 17 (16 * f + (σ.1 14 f (n.toNat)).toNat) (m.toNat)) (σ.1 0 f 12))))) 0 f 13 (zW ((σ.1 0 f 13) - (cShr (σ.1 0 f 13) (uMin (σ.1 17 (16 * f + (σ.1 14 f (n.toNat)).toNat) (m.toNat)) (σ.1 0 f 12)) (σ.1 0 f 12)))))) 12 rfl ?_
      exact h1
def uSv (w : Nat → Int) : List Nat → uQ → uQ
  | [], q => q
  | h :: L, q => uSv w L (uTake (w h) h q)
theorem uSv_serve {D : uT} {w : Nat → Int} {r : Nat} : ∀ {L : List Nat} {q : uQ}, (∀ h, h ∈ L → D 10 h = (r : Int)) → uServe D w r L q = uSv w L q
  | [], q, h => rfl
  | x :: L, q, h => by
    show uServe D w r L (if D 10 x = (r : Int) then uTake (w x) x q else q) = uSv w L (uTake (w x) x q)
    rw [if_pos (h x List.mem_cons_self)]
    exact uSv_serve (fun y hy => h y (List.mem_cons_of_mem _ hy))
theorem uSv_o {w : Nat → Int} : ∀ {L : List Nat} {q : uQ} {x : Nat}, x ∉ L → (uSv w L q).2.2.1 x = q.2.2.1 x ∧ (uSv w L q).2.2.2 x = q.2.2.2 x
  | [], q, x, h => ⟨rfl, rfl⟩
  | y :: L, q, x, h => by
    have I := uSv_o (w := w) (L := L) (q := uTake (w y) y q) (x := x) (fun q => h (List.mem_cons_of_mem _ q))
    have hne : ¬ x = y := fun e => h (e ▸ List.mem_cons_self)
    exact ⟨I.1.trans (if_neg hne), I.2.trans (if_neg hne)⟩
theorem uLs_congr {f g : Nat → Int} : ∀ {L : List Nat}, (∀ x, x ∈ L → f x = g x) → uLs f L = uLs g L
  | [], h => rfl
  | x :: L, h => by
    show f x + uLs f L = g x + uLs g L
    rw [h x List.mem_cons_self, uLs_congr (fun y hy => h y (List.mem_cons_of_mem _ hy))]
set_option maxHeartbeats 1000000 in
theorem zs_13l {d : Nat} {Q : Option zV → zS → Prop} {f r m cnt : Nat} {a : Int} {w : Nat → Int} (hr : r < 7) (hm : m < 96) (hc : cnt ≤ 16) : ∀ (seg : List Nat) {n : Nat} {q : uQ} {b s : Int} {σ : zS} {x y z : Option zV},
    (∀ i (hi : i < seg.length), σ.1 14 f (n + i) = (seg[i] : Int)) → (∀ h, h ∈ seg → h < 16) → (∀ h, h ∈ seg → cH σ h 2 = (r : Int)) → seg.Nodup → n + seg.length ≤ cnt → σ.1 8 0 8 = (cnt : Int) →
    (n + seg.length = cnt ∨ ((0 ≤ σ.1 14 f (n + seg.length) ∧ σ.1 14 f (n + seg.length) < 16) ∧ ¬ cH σ (σ.1 14 f (n + seg.length)).toNat 2 = (r : Int))) →
    (∀ h, h ∈ seg → σ.1 17 (16 * f + h) m = w h ∧ (0 ≤ w h ∧ w h ≤ 99999) ∧ w h * uHun (cH σ h 0) ≤ 1999980 ∧ 0 ≤ cH σ h 0 ∧ cH σ h 0 ≤ 5) →
    σ.1 0 f 12 = q.1 → σ.1 0 f 13 = q.2.1 → (0 ≤ q.1 ∧ q.1 ≤ 2089807) → (0 ≤ q.2.1 ∧ q.2.1 ≤ 25000000) → (0 ≤ b ∧ b ≤ 19999 * n) → (0 ≤ s ∧ s ≤ 25002000 * n) →
    (∀ G : Nat → Nat → Nat → Int, (G 0 f 12 = (uSv w seg q).1 ∧ G 0 f 13 = (uSv w seg q).2.1) → (∀ n j, ¬ (n = f ∧ (j = 12 ∨ j = 13)) → G 0 n j = σ.1 0 n j) →
      (∀ h, h ∈ seg → G 18 (16 * f + h) m = (uSv w seg q).2.2.1 h) → (∀ n' j, ¬ (j = m ∧ ∃ h, h ∈ seg ∧ n' = 16 * f + h) → G 18 n' j = σ.1 18 n' j) →
      (∀ n j, G 24 n j = if j = m ∧ n = 7 * f + r then b + uLs (fun h => uGb (cH σ h 0) ((uSv w seg q).2.2.1 h)) seg else σ.1 24 n j) →
      (∀ n j, G 25 n j = if j = m ∧ n = 7 * f + r then s + uLs ((uSv w seg q).2.2.2) seg else σ.1 25 n j) →
      (∀ n j, G 22 n j = if j = m ∧ n = 7 * f + r then (uSv w seg q).1 else σ.1 22 n j) →
      (∀ n j, G 23 n j = if j = m ∧ n = 7 * f + r then (uSv w seg q).2.1 else σ.1 23 n j) →
      (∀ k, ¬ k = 0 → ¬ k = 18 → ¬ k = 22 → ¬ k = 23 → ¬ k = 24 → ¬ k = 25 → G k = σ.1 k) → Q (some (.inl ((n + seg.length : Nat) : Int))) (zG σ G)) →
    zX (d + 12) 13 11 [some (.inr (.inr (0, f))), some (.inl (r : Int)), some (.inl (m : Int)), some (.inl a), some (.inr (.inr (4, 7 * f + r))), some (.inl b), some (.inl s), some (.inl (n : Int)), x, y, z] [] σ Q
  | [], n, q, b, s, σ, x, y, z, h1, h2, h3, h4, h5, h6, h7, h8, h9, h10, h11, h12, h13, h14, h => by
    have fin : Q (some (.inl (n : Int))) (zU (zU (zU (zU σ 24 (7 * f + r) ((m : Int).toNat) b) 25 (7 * f + r) ((m : Int).toNat) s) 22 (7 * f + r) ((m : Int).toNat) (σ.1 0 f 12)) 23 (7 * f + r) ((m : Int).toNat) (σ.1 0 f 13)) := by
      have t0 : ∀ k, ¬ k = 0 → ¬ k = 18 → ¬ k = 22 → ¬ k = 23 → ¬ k = 24 → ¬ k = 25 → (zU (zU (zU (zU σ 24 (7 * f + r) ((m : Int).toNat) b) 25 (7 * f + r) ((m : Int).toNat) s) 22 (7 * f + r) ((m : Int).toNat) (σ.1 0 f 12)) 23 (7 * f + r) ((m : Int).toNat) (σ.1 0 f 13)).1 k = σ.1 k := fun k _ _ k1 k2 k3 k4 => by rw [zU_off k2, zU_off k1, zU_off k4, zU_off k3]
      rw [zG_of (σ := σ) (τ := zU (zU (zU (zU σ 24 _ _ _) 25 _ _ _) 22 _ _ _) 23 _ _ _) (fun k hk => t0 k (fk_ne hk rfl) (fk_ne hk rfl) (fk_ne hk rfl) (fk_ne hk rfl) (fk_ne hk rfl) (fk_ne hk rfl)) rfl]
      refine h _ ⟨h9, h10⟩ (fun _ _ _ => rfl) (fun _ q => by cases q) (fun _ _ _ => rfl) (fun n j => ?_) (fun n j => ?_) (fun n j => ?_) (fun n j => ?_) t0
      · show (if 24 = 24 ∧ j = m ∧ n = 7 * f + r then b else _) = if _ then b + 0 else _
        by_cases e : j = m ∧ n = 7 * f + r
        · rw [if_pos ⟨rfl, e⟩, if_pos e]; omega
        · rw [if_neg (fun q => e q.2), if_neg e]
      · show (if 25 = 25 ∧ j = m ∧ n = 7 * f + r then s else _) = if _ then s + 0 else _
        by_cases e : j = m ∧ n = 7 * f + r
        · rw [if_pos ⟨rfl, e⟩, if_pos e]; omega
        · rw [if_neg (fun q => e q.2), if_neg e]; rfl
      · show (if 22 = 22 ∧ j = m ∧ n = 7 * f + r then σ.1 0 f 12 else _) = if _ then q.1 else _
        by_cases e : j = m ∧ n = 7 * f + r
        · rw [if_pos ⟨rfl, e⟩, if_pos e, h9]
        · rw [if_neg (fun q => e q.2), if_neg e]; rfl
      · show (if 23 = 23 ∧ j = m ∧ n = 7 * f + r then σ.1 0 f 13 else _) = if _ then q.2.1 else _
        by_cases e : j = m ∧ n = 7 * f + r
        · rw [if_pos ⟨rfl, e⟩, if_pos e, h10]
        · rw [if_neg (fun q => e q.2), if_neg e]; rfl
    have e0 : n + ([] : List Nat).length = n := rfl
    rw [e0] at h7 h5
    refine zb_13x ?_ (fun _ => by omega) (fun q => by omega) (fun q => ?_) (fun _ => by omega) (fun _ => fin) (fun _ => fin)
    · rcases h7 with h7 | h7
      · exact Or.inl (by omega)
      · by_cases e : σ.1 8 0 8 ≤ (n : Int)
        · exact Or.inl e
        · exact Or.inr ⟨by omega, by omega, h7.1, h7.2⟩
    · rcases h7 with h7 | h7
      · omega
      · exact h7.1
  | t :: L, n, q, b, s, σ, x, y, z, h1, h2, h3, h4, h5, h6, h7, h8, h9, h10, h11, h12, h13, h14, h => by
    rw [List.nodup_cons] at h4
    have ht : σ.1 14 f n = (t : Int) := h1 0 (by simp)
    have ht2 : (σ.1 14 f (n : Int).toNat).toNat = t := by show (σ.1 14 f n).toNat = t; rw [ht]; rfl
    have t16 := h2 t List.mem_cons_self
    have tr := h3 t List.mem_cons_self
    obtain ⟨w1, w2, w3, w4⟩ := h8 t List.mem_cons_self
    have ln : (t :: L).length = L.length + 1 := rfl
    rw [ln] at h5 h7
    have hg : 0 ≤ uMin (w t) q.1 := uMin_nn w2.1 h11.1
    have hg2 := uMin_le (a := w t) (b := q.1)
    have hk := uTook_b w2.1 h11.1 h12.1
    have hu : 0 ≤ uHun (cH σ t 0) := by unfold uHun; (repeat' split) <;> omega
    have hb := uGb_b (k := cH σ t 0) hg (Int.le_trans (Int.mul_le_mul_of_nonneg_right hg2.1 hu) w3)
    have c1 : uMin (σ.1 17 (16 * f + t) (m : Int).toNat) (σ.1 0 f 12) = uMin (w t) q.1 := by rw [h9, show σ.1 17 (16 * f + t) (m : Int).toNat = w t from w1]
    have c2 : cShr (σ.1 0 f 13) (uMin (w t) q.1) (σ.1 0 f 12) = uTook (w t) q := by rw [h9, h10, cShr_id ⟨h12.1, by omega⟩ ⟨hg, hg2.2⟩ (by omega)]; rfl
    refine zb_13 (by omega) (by rw [ht2]; exact tr) (by omega) (by show 0 ≤ σ.1 14 f n ∧ _; rw [show σ.1 14 f (n : Int).toNat = (t : Int) from ht]; omega) (by omega) (by rw [ht2]; exact ⟨w4.1, w4.2⟩) ?_
    rw [ht2, c1, c2, h9, h10, zTd hg, zW_id (z := uMin (w t) q.1 / 50) (by omega), zW_id (z := uTook (w t) q + uMin (w t) q.1 / 50) (by omega), zW_id (z := q.1 - uMin (w t) q.1) (by omega), zW_id (z := q.2.1 - uTook (w t) q) (by omega), zWs (by omega)]
    show zX (d + 12) 13 11 [_, _, _, _, _, some (.inl (zW (b + uGb (cH σ t 0) (uMin (w t) q.1)))), _, _, _, _, _] [] _ Q
    rw [zW_id (z := b + uGb (cH σ t 0) (uMin (w t) q.1)) (by omega), zW_id (z := s + (uTook (w t) q + uMin (w t) q.1 / 50)) (by omega)]
    generalize hτ : zU (zU (zU σ 18 (16 * f + t) (m : Int).toNat (uMin (w t) q.1)) 0 f 12 (q.1 - uMin (w t) q.1)) 0 f 13 (q.2.1 - uTook (w t) q) = τ
    have t0 : ∀ k, ¬ k = 0 → ¬ k = 18 → τ.1 k = σ.1 k := fun k k0 k1 => by subst hτ; rw [zU_off k0, zU_off k0, zU_off k1]
    have s0 : τ.2 = σ.2 := by subst hτ; rfl
    have a1 : τ.1 14 = σ.1 14 := t0 14 (by decide) (by decide)
    have a2 : τ.1 1 = σ.1 1 := t0 1 (by decide) (by decide)
    have a3 : τ.1 8 = σ.1 8 := t0 8 (by decide) (by decide)
    have a4 : τ.1 17 = σ.1 17 := t0 17 (by decide) (by decide)
    have aH : ∀ h j, cH τ h j = cH σ h j := fun h j => by unfold cH; rw [a2]
    have l12 : τ.1 0 f 12 = q.1 - uMin (w t) q.1 := by subst hτ; exact zU_same (σ := zU σ 18 _ _ _)
    have l13 : τ.1 0 f 13 = q.2.1 - uTook (w t) q := by subst hτ; exact zU_same (σ := zU (zU σ 18 _ _ _) 0 f 12 _)
    have l0 : ∀ n j, ¬ (n = f ∧ (j = 12 ∨ j = 13)) → τ.1 0 n j = σ.1 0 n j := fun n j hn => by subst hτ; rw [zU_ne (by omega), zU_ne (by omega)]; rfl
    have l18 : ∀ n j, τ.1 18 n j = if j = m ∧ n = 16 * f + t then uMin (w t) q.1 else σ.1 18 n j := fun n j => by
      subst hτ
      show (if 18 = 18 ∧ j = m ∧ n = 16 * f + t then _ else _) = _
      by_cases e : j = m ∧ n = 16 * f + t
      · rw [if_pos ⟨rfl, e⟩, if_pos e]
      · rw [if_neg (fun q => e q.2), if_neg e]
    have eS : uSv w (t :: L) q = uSv w L (uTake (w t) t q) := rfl
    have o := uSv_o (w := w) (L := L) (q := uTake (w t) t q) (x := t) h4.1
    have o1 : (uSv w L (uTake (w t) t q)).2.2.1 t = uMin (w t) q.1 := o.1.trans (if_pos rfl)
    have o2 : (uSv w L (uTake (w t) t q)).2.2.2 t = uTook (w t) q + uMin (w t) q.1 / 50 := o.2.trans (if_pos rfl)
    refine zs_13l (w := w) hr hm hc L (q := uTake (w t) t q) (σ := τ) (fun i hi => ?_) (fun x hx => h2 x (List.mem_cons_of_mem _ hx)) (fun x hx => ?_) h4.2 (by omega) (by rw [a3]; exact h6) ?_ (fun x hx => ?_) l12 l13 ?_ ?_ (by omega) (by omega) (fun G g1 g2 g3 g4 g5 g6 g7 g8 g9 => ?_)
    · have := h1 (i + 1) (by simp; omega)
      rw [a1, show n + 1 + i = n + (i + 1) by omega]; simpa using this
    · rw [aH]; exact h3 x (List.mem_cons_of_mem _ hx)
    · rw [a1, show n + 1 + L.length = n + (L.length + 1) by omega]
      rcases h7 with h7 | h7
      · exact Or.inl h7
      · exact Or.inr ⟨h7.1, by rw [aH]; exact h7.2⟩
    · rw [a4, aH]; exact h8 x (List.mem_cons_of_mem _ hx)
    · show 0 ≤ q.1 - uMin (w t) q.1 ∧ q.1 - uMin (w t) q.1 ≤ _; omega
    · show 0 ≤ q.2.1 - uTook (w t) q ∧ q.2.1 - uTook (w t) q ≤ _; omega
    · rw [show zG τ G = zG σ G by rw [zG_of (σ := σ) (τ := τ) (fun k hk => t0 k (fk_ne hk rfl) (fk_ne hk rfl)) s0, zG_H], show ((n + 1 + L.length : Nat) : Int) = ((n + (t :: L).length : Nat) : Int) by rw [ln]; omega]
      rw [eS] at h
      refine h G g1 (fun n j hn => (g2 n j hn).trans (l0 n j hn)) (fun x hx => ?_) (fun n' j hn => ?_) (fun n j => ?_) (fun n j => ?_) (fun n j => ?_) (fun n j => ?_) (fun k k0 k1 k2 k3 k4 k5 => (g9 k k0 k1 k2 k3 k4 k5).trans (t0 k k0 k1))
      · cases hx with
        | head =>
          rw [o1]
          rw [g4 (16 * f + t) m (fun ⟨_, x, hx, e⟩ => h4.1 (by rw [show t = x by omega]; exact hx)), l18, if_pos ⟨rfl, rfl⟩]
        | tail _ hx => exact g3 x hx
      · rw [g4 n' j (fun ⟨e, x, hx, e2⟩ => hn ⟨e, x, List.mem_cons_of_mem _ hx, e2⟩), l18, if_neg (fun e => hn ⟨e.1, t, List.mem_cons_self, e.2⟩)]
      · rw [g5, show (fun h => uGb (cH τ h 0) ((uSv w L (uTake (w t) t q)).2.2.1 h)) = (fun h => uGb (cH σ h 0) ((uSv w L (uTake (w t) t q)).2.2.1 h)) from funext (fun h => by rw [aH]), t0 24 (by decide) (by decide)]
        show _ = if _ then b + (uGb (cH σ t 0) ((uSv w L (uTake (w t) t q)).2.2.1 t) + uLs _ L) else _
        rw [o1, Int.add_assoc]
      · rw [g6, t0 25 (by decide) (by decide)]
        show _ = if _ then s + ((uSv w L (uTake (w t) t q)).2.2.2 t + uLs _ L) else _
        rw [o2, Int.add_assoc]
      · rw [g7, t0 22 (by decide) (by decide)]
      · rw [g8, t0 23 (by decide) (by decide)]
