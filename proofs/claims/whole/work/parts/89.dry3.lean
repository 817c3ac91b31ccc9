-- dry, the class (wip/whole/gen/laws61.py)
def dStep (H : Nat) (g : Nat → Int) (ok : Nat → Bool) (x : Nat) (s : Int × Int) : Int × Int := if x &&& H = x then (if (s.1 = -1 ∨ g x < s.2) ∧ ok x = true then ((x : Int), g x) else s) else s
def dFold (H : Nat) (g : Nat → Int) (ok : Nat → Bool) : Nat → Int × Int
  | 0 => (-1, 0)
  | n + 1 => dStep H g ok n (dFold H g ok n)
theorem dFold_skip {H : Nat} {g : Nat → Int} {ok : Nat → Bool} {a : Nat} : ∀ (k : Nat), (∀ y, a ≤ y → y < a + k → ¬ y &&& H = y) → dFold H g ok (a + k) = dFold H g ok a
  | 0, _ => rfl
  | k + 1, h => by
    show dStep H g ok (a + k) (dFold H g ok (a + k)) = _
    unfold dStep
    rw [if_neg (h (a + k) (Nat.le_add_right _ _) (by omega)), dFold_skip k (fun y h1 h2 => h y h1 (by omega))]
/-- how far the parts are folded before the i-th -/
def dAt (H i : Nat) : Nat := if i < 2 ^ nPc 16 H then nPd 16 H i else H + 1
theorem dAt_0 {H : Nat} : dAt H 0 = 0 := by unfold dAt; rw [if_pos (Nat.two_pow_pos _), nPd_0]
theorem dAt_s {H i : Nat} {g : Nat → Int} {ok : Nat → Bool} (hH : H < 65536) (hi : i < 2 ^ nPc 16 H) : dFold H g ok (dAt H (i + 1)) = dFold H g ok (nPd 16 H i + 1) := by
  have no : ∀ y, nPd 16 H i + 1 ≤ y → y < dAt H (i + 1) → ¬ y &&& H = y := fun y h1 h2 hy => by
    obtain ⟨j, hj, e⟩ := nPd_all 16 H y hH hy
    subst e
    have c1 : i < j := by
      rcases Nat.lt_or_ge i j with c | c
      · exact c
      · exfalso
        rcases Nat.lt_or_ge j i with c2 | c2
        · have := nPd_mono 16 H j i c2 hi; omega
        · have : i = j := by omega
          subst this; omega
    unfold dAt at h2
    by_cases c : i + 1 < 2 ^ nPc 16 H
    · rw [if_pos c] at h2
      rcases Nat.lt_or_ge (i + 1) j with d | d
      · have := nPd_mono 16 H (i + 1) j d hj; omega
      · have : i + 1 = j := by omega
        subst this; omega
    · omega
  have le : nPd 16 H i + 1 ≤ dAt H (i + 1) := by
    unfold dAt
    by_cases c : i + 1 < 2 ^ nPc 16 H
    · rw [if_pos c]; exact nPd_mono 16 H i (i + 1) (by omega) c
    · rw [if_neg c]
      have := @Nat.and_le_right (nPd 16 H i) H
      rw [nPd_sub] at this
      omega
  obtain ⟨k, hk⟩ := Nat.exists_eq_add_of_le le
  rw [hk]
  exact dFold_skip k (fun y h1 h2 => no y h1 (by omega))
theorem dAt_t {H : Nat} (i : Nat) (h : ¬ i < 2 ^ nPc 16 H) : dAt H i = H + 1 := if_neg h
theorem zSubm {a H : Nat} (ha : a < 65536) (hH : H < 65536) (hb : (a + 4294967296 - H) &&& H < 65536) : zBin 3 (zW ((a : Int) - (H : Int))) (H : Int) = (((a + 4294967296 - H) &&& H : Nat) : Int) := by
  have e : zW ((a : Int) - (H : Int)) = (a : Int) - (H : Int) := by unfold zW; omega
  rw [e]
  have b : Int32.ofInt ((a : Int) - (H : Int)) = nI (a + 4294967296 - H) := by
    apply Int32.toBitVec_inj.mp
    show BitVec.ofInt 32 ((a : Int) - (H : Int)) = BitVec.ofNat 32 (a + 4294967296 - H)
    apply BitVec.eq_of_toNat_eq
    rw [BitVec.toNat_ofInt, BitVec.toNat_ofNat]
    omega
  show (Int32.ofInt ((a : Int) - (H : Int)) &&& nI H).toInt = _
  rw [b, zNand, nI_toInt (by omega)]
theorem nAll_t {p : Nat → Bool} : ∀ {n : Nat}, (∀ k, k < n → p k = true) → nAll p n = true
  | 0, _ => rfl
  | n + 1, h => by
    unfold nAll
    rw [h n (Nat.lt_succ_self n), nAll_t (n := n) (fun k hk => h k (Nat.lt_succ_of_lt hk))]; rfl
def dOk (D : uT) (b : Int) (x : Nat) : Bool := nAll (fun m => decide (vShp (uDry D (x : Int)) m ≤ b)) 96
theorem dOk_i {D : uT} {b : Int} {x : Nat} : dOk D b x = true ↔ ∀ m, m < 96 → vShp (uDry D (x : Int)) m ≤ b :=
  ⟨fun h m hm => of_decide_eq_true (nAll_iff h m hm), fun h => nAll_t (fun m hm => decide_eq_true (h m hm))⟩
def vDry (σ : zS) (s b : Int) : Int := if (0 ≤ s ∧ s < ((2 ^ uN (mD σ) : Nat) : Int)) ∧ nPc 16 s.toNat ≤ 6 ∧ 0 ≤ b ∧ b ≤ 99999 then (dFold s.toNat (fun x => uSt (vTot (mD σ)) x (uN (mD σ))) (dOk (mD σ) b) (s.toNat + 1)).1 else -2
theorem yOk_d {σ : zS} (R : yRel σ) {x : Nat} (hx : x < 65536) : uOk (uDry (mD σ) (x : Int)) ∧ mOk (zU σ 10 0 66 (x : Int)) := by
  obtain ⟨S, G, L, H, C, Tx, Ru, K, Tp, Sh, B⟩ := R
  have M := rMok (σ := zU σ 10 0 66 (x : Int)) (v := -1) S G L H C (rRul_1 H Tx Ru) (by show 0 ≤ (x : Int) ∧ (x : Int) < 65536; omega)
  have O := M.1
  rw [mD_dry] at O
  exact ⟨O, M⟩
theorem zs_114 {d : Nat} {σ : zS} {Q : Option zV → zS → Prop} {N : Nat} {s : Int} (n8 : σ.1 8 0 8 = (N : Int)) (N16 : N ≤ 16)
    (q1 : (0 ≤ s ∧ s < ((2 ^ N : Nat) : Int)) ∧ nPc 16 s.toNat ≤ 6 → Q (some (.inl 1)) σ) (q0 : ¬ ((0 ≤ s ∧ s < ((2 ^ N : Nat) : Int)) ∧ nPc 16 s.toNat ≤ 6) → Q (some (.inl 0)) σ) : zM (d + 3) 114 [.inr (.inr (9, 0)), .inl s] σ Q := by
  have p : 2 ^ N ≤ 65536 := Nat.le_trans (Nat.pow_le_pow_right (by decide) N16) (by decide)
  have p0 : 0 < 2 ^ N := Nat.two_pow_pos N
  have z1 : zBin 6 1 (N : Int) = ((2 ^ N : Nat) : Int) := zShl (by omega)
  have z2 : zW (((2 ^ N : Nat) : Int) - 1) = ((2 ^ N : Nat) : Int) - 1 := by
    generalize 2 ^ N = y at *
    unfold zW; omega
  refine zb_114 (d := d) (fun a => ?_) (fun a => ?_)
  · rw [n8, z1, z2] at a
    obtain ⟨x, rfl⟩ := Int.eq_ofNat_of_zero_le a.1
    have hx : x < 65536 := by
      clear z1 z2
      generalize 2 ^ N = y at *
      omega
    have lt : (x : Int) < ((2 ^ N : Nat) : Int) := Int.lt_of_le_sub_one a.2
    refine zX_call rfl rfl ?_
    refine zs_189 (d := d + 2) hx ?_
    refine zb_114b (d := d) (fun c => q0 (fun k => ?_)) (fun c => q1 ⟨⟨a.1, lt⟩, ?_⟩)
    · have k := k.2
      rw [Int.toNat_natCast] at k
      omega
    · rw [Int.toNat_natCast]; omega
  · refine q0 (fun k => a ?_)
    rw [n8, z1, z2]
    exact ⟨k.1.1, Int.le_sub_one_of_lt k.1.2⟩
