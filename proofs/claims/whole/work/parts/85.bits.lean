-- how many bits (wip/whole/gen/laws59.py)
def bc1 (x : Nat) : Nat := x - (x / 2 &&& 1431655765)
def bc2 (x : Nat) : Nat := (x &&& 858993459) + (x / 4 &&& 858993459)
def bc3 (x : Nat) : Nat := (x + x / 16) &&& 252645135
def bc4 (x : Nat) : Nat := x + x / 256
def bc5 (x : Nat) : Nat := (x + x / 65536) &&& 63
def nAll (p : Nat → Bool) : Nat → Bool
  | 0 => true
  | n + 1 => p n && nAll p n
theorem nAll_iff {p : Nat → Bool} : ∀ {n : Nat}, nAll p n = true → ∀ k, k < n → p k = true
  | 0, _, k, h => by omega
  | n + 1, h, k, hk => by
    unfold nAll at h
    rw [Bool.and_eq_true] at h
    by_cases e : k = n
    · rw [e]; exact h.1
    · exact nAll_iff h.2 k (by omega)
theorem nAndp : ∀ (w u v p q : Nat), v < 2 ^ w → q < 2 ^ w → (2 ^ w * u + v) &&& (2 ^ w * p + q) = 2 ^ w * (u &&& p) + (v &&& q)
  | 0, u, v, p, q, hv, hq => by
    have : v = 0 := by omega
    have : q = 0 := by omega
    subst v; subst q
    simp
  | w + 1, u, v, p, q, hv, hq => by
    rw [Nat.pow_succ] at hv hq ⊢
    have I := nAndp w u (v / 2) p (q / 2) (by omega) (by omega)
    have a := nAnd2 (2 ^ w * u + v / 2) (2 ^ w * p + q / 2) (v % 2) (q % 2) (Nat.mod_lt _ (by decide)) (Nat.mod_lt _ (by decide))
    have b := nAnd2 (v / 2) (q / 2) (v % 2) (q % 2) (Nat.mod_lt _ (by decide)) (Nat.mod_lt _ (by decide))
    rw [show 2 * (v / 2) + v % 2 = v by omega, show 2 * (q / 2) + q % 2 = q by omega] at b
    rw [I] at a
    have e1 : 2 ^ w * 2 * u + v = 2 * (2 ^ w * u + v / 2) + v % 2 := by rw [Nat.mul_right_comm]; omega
    have e2 : 2 ^ w * 2 * p + q = 2 * (2 ^ w * p + q / 2) + q % 2 := by rw [Nat.mul_right_comm]; omega
    have e3 : 2 ^ w * 2 * (u &&& p) = 2 * (2 ^ w * (u &&& p)) := by rw [Nat.mul_right_comm, Nat.mul_comm]
    rw [e1, e2, a, b, e3]
    omega
theorem nAnd8 (u v p q : Nat) (hv : v < 256) (hq : q < 256) : (256 * u + v) &&& (256 * p + q) = 256 * (u &&& p) + (v &&& q) := nAndp 8 u v p q hv hq
theorem nAndb (u p q : Nat) (hu : u < 256) (hq : q < 256) : u &&& (256 * p + q) = u &&& q := by
  have h := nAnd8 0 u p q hu hq
  simp only [Nat.zero_and, Nat.mul_zero, Nat.zero_add] at h
  exact h
def nK1 (b : Nat) : Bool := ((b / 2 &&& 85).ble b) && (((128 + b / 2) &&& 85).beq (b / 2 &&& 85))
theorem nK1_all : nAll nK1 256 = true := by decide +kernel
def nK2 (b : Nat) : Bool := ((64 + b / 4) &&& 51).beq (b / 4 &&& 51) && (((128 + b / 4) &&& 51).beq (b / 4 &&& 51) && ((192 + b / 4) &&& 51).beq (b / 4 &&& 51))
theorem nK2_all : nAll nK2 256 = true := by decide +kernel
def nB2 (b : Nat) : Nat := ((b - (b / 2 &&& 85)) &&& 51) + ((b - (b / 2 &&& 85)) / 4 &&& 51)
def nK3 (b : Nat) : Bool := (nB2 b / 16).ble 4 && ((nB2 b % 16).ble 4 && (nB2 b / 16 + nB2 b % 16).beq (nPc 8 b))
theorem nK3_all : nAll nK3 256 = true := by decide +kernel
def nK4 (i j k l : Nat) : Bool := (bc5 (bc4 (bc3 (256 * (16 * i + j) + (16 * k + l))))).beq (i + j + (k + l))
theorem nK4_all : nAll (fun i => nAll (fun j => nAll (fun k => nAll (fun l => nK4 i j k l) 5) 5) 5) 5 = true := by decide +kernel
theorem nPc_add : ∀ (w v x : Nat), nPc (w + v) x = nPc w (x % 2 ^ w) + nPc v (x / 2 ^ w)
  | 0, v, x => by
    rw [Nat.zero_add, Nat.pow_zero, Nat.div_one]
    show _ = 0 + _
    omega
  | w + 1, v, x => by
    rw [show w + 1 + v = (w + v) + 1 by omega]
    show x % 2 + nPc (w + v) (x / 2) = (x % 2 ^ (w + 1) % 2 + nPc w (x % 2 ^ (w + 1) / 2)) + nPc v (x / 2 ^ (w + 1))
    rw [nPc_add w v (x / 2), Nat.pow_succ, Nat.mul_comm (2 ^ w) 2, Nat.div_div_eq_div_mul]
    have a : x % (2 * 2 ^ w) % 2 = x % 2 := Nat.mod_mul_right_mod _ _ _
    have b : x % (2 * 2 ^ w) / 2 = x / 2 % 2 ^ w := Nat.mod_mul_right_div_self _ _ _
    rw [a, b]
    omega
theorem bc_eq {x : Nat} (h : x < 65536) : x / 2 &&& 1431655765 ≤ x ∧ bc5 (bc4 (bc3 (bc2 (bc1 x)))) = nPc 16 x := by
  obtain ⟨a, b, ha, hb, rfl⟩ : ∃ a b, a < 256 ∧ b < 256 ∧ x = 256 * a + b := ⟨x / 256, x % 256, by omega, Nat.mod_lt _ (by decide), by omega⟩
  have ka := nAll_iff nK1_all a ha
  have kb := nAll_iff nK1_all b hb
  unfold nK1 at ka kb
  rw [Bool.and_eq_true] at ka kb
  have ka1 := Nat.le_of_ble_eq_true ka.1
  have kb1 := Nat.le_of_ble_eq_true kb.1
  have kb2 := Nat.eq_of_beq_eq_true kb.2
  have m1 : (256 * a + b) / 2 &&& 1431655765 = 256 * (a / 2 &&& 85) + (b / 2 &&& 85) := by
    have e : (256 * a + b) / 2 = 256 * (a / 2) + (128 * (a % 2) + b / 2) := by omega
    rw [e, show 1431655765 = 256 * 5592405 + 85 from rfl, nAnd8 _ _ _ _ (by omega) (by decide), show 5592405 = 256 * 21845 + 85 from rfl, nAndb _ _ _ (by omega) (by decide)]
    rcases (show a % 2 = 0 ∨ a % 2 = 1 by omega) with c | c
    · rw [c, Nat.mul_zero, Nat.zero_add]
    · rw [c, Nat.mul_one, kb2]
  refine ⟨by rw [m1]; omega, ?_⟩
  have e1 : bc1 (256 * a + b) = 256 * (a - (a / 2 &&& 85)) + (b - (b / 2 &&& 85)) := by unfold bc1; rw [m1]; omega
  rw [e1]
  have A256 : a - (a / 2 &&& 85) < 256 := by omega
  have B256 : b - (b / 2 &&& 85) < 256 := by omega
  have k2B := nAll_iff nK2_all _ B256
  have k3a := nAll_iff nK3_all a ha
  have k3b := nAll_iff nK3_all b hb
  unfold nK3 nB2 at k3a k3b
  generalize a - (a / 2 &&& 85) = A at *
  generalize b - (b / 2 &&& 85) = B at *
  unfold nK2 at k2B
  rw [Bool.and_eq_true, Bool.and_eq_true] at k2B
  have c1 := Nat.eq_of_beq_eq_true k2B.1
  have c2 := Nat.eq_of_beq_eq_true k2B.2.1
  have c3 := Nat.eq_of_beq_eq_true k2B.2.2
  have e2 : bc2 (256 * A + B) = 256 * ((A &&& 51) + (A / 4 &&& 51)) + ((B &&& 51) + (B / 4 &&& 51)) := by
    unfold bc2
    have e : (256 * A + B) / 4 = 256 * (A / 4) + (64 * (A % 4) + B / 4) := by omega
    rw [e, show 858993459 = 256 * 3355443 + 51 from rfl, nAnd8 _ _ _ _ B256 (by decide), nAnd8 _ _ _ _ (by omega) (by decide), show 3355443 = 256 * 13107 + 51 from rfl, nAndb _ _ _ A256 (by decide), nAndb _ _ _ (by omega) (by decide)]
    have f : (64 * (A % 4) + B / 4) &&& 51 = B / 4 &&& 51 := by
      rcases (show A % 4 = 0 ∨ A % 4 = 1 ∨ A % 4 = 2 ∨ A % 4 = 3 by omega) with c | c | c | c
      · rw [c, Nat.mul_zero, Nat.zero_add]
      · rw [c]; exact c1
      · rw [c]; exact c2
      · rw [c]; exact c3
    rw [f]; omega
  rw [e2]
  generalize (A &&& 51) + (A / 4 &&& 51) = C at *
  generalize (B &&& 51) + (B / 4 &&& 51) = D at *
  rw [Bool.and_eq_true, Bool.and_eq_true] at k3a k3b
  have a1 := Nat.le_of_ble_eq_true k3a.1
  have a2 := Nat.le_of_ble_eq_true k3a.2.1
  have a3 := Nat.eq_of_beq_eq_true k3a.2.2
  have d1 := Nat.le_of_ble_eq_true k3b.1
  have d2 := Nat.le_of_ble_eq_true k3b.2.1
  have d3 := Nat.eq_of_beq_eq_true k3b.2.2
  have z := nAll_iff (nAll_iff (nAll_iff (nAll_iff nK4_all (C / 16) (by omega)) (C % 16) (by omega)) (D / 16) (by omega)) (D % 16) (by omega)
  unfold nK4 at z
  have z := Nat.eq_of_beq_eq_true z
  rw [show 16 * (C / 16) + C % 16 = C by omega, show 16 * (D / 16) + D % 16 = D by omega] at z
  rw [z, a3, d3]
  have p := nPc_add 8 8 (256 * a + b)
  rw [show (256 * a + b) % 2 ^ 8 = b by omega, show (256 * a + b) / 2 ^ 8 = a by omega] at p
  show _ = nPc (8 + 8) (256 * a + b)
  rw [p]; omega
theorem bc_b {x : Nat} (h : x < 65536) : bc1 x < 65536 ∧ bc2 (bc1 x) < 131072 := by
  have a : bc1 x < 65536 := by unfold bc1; omega
  refine ⟨a, ?_⟩
  unfold bc2
  have := @Nat.and_le_left (bc1 x) 858993459
  have := @Nat.and_le_left (bc1 x / 4) 858993459
  omega
