-- the parts of a set of holds, in order; how many bits (wip/whole/gen/laws59.py)
theorem nAnd2 (a c b d : Nat) (hb : b < 2) (hd : d < 2) : (2 * a + b) &&& (2 * c + d) = 2 * (a &&& c) + b * d := by
  apply Nat.eq_of_testBit_eq
  intro i
  rw [Nat.testBit_and]
  have hbd : b * d < 2 := by
    rcases (show b = 0 ∨ b = 1 by omega) with rfl | rfl <;> omega
  cases i with
  | zero =>
    rw [Nat.testBit_zero, Nat.testBit_zero, Nat.testBit_zero]
    have h1 : (2 * a + b) % 2 = b := by omega
    have h2 : (2 * c + d) % 2 = d := by omega
    have h3 : (2 * (a &&& c) + b * d) % 2 = b * d := by omega
    rw [h1, h2, h3]
    rcases (show b = 0 ∨ b = 1 by omega) with rfl | rfl <;> rcases (show d = 0 ∨ d = 1 by omega) with rfl | rfl <;> rfl
  | succ i =>
    rw [Nat.testBit_succ, Nat.testBit_succ, Nat.testBit_succ]
    have h1 : (2 * a + b) / 2 = a := by omega
    have h2 : (2 * c + d) / 2 = c := by omega
    have h3 : (2 * (a &&& c) + b * d) / 2 = a &&& c := by omega
    rw [h1, h2, h3, Nat.testBit_and]
def nPc : Nat → Nat → Nat
  | 0, _ => 0
  | w + 1, H => H % 2 + nPc w (H / 2)
def nPd : Nat → Nat → Nat → Nat
  | 0, _, _ => 0
  | w + 1, H, i => if H % 2 = 0 then 2 * nPd w (H / 2) i else 2 * nPd w (H / 2) (i / 2) + i % 2
theorem nPd_0 : ∀ w H, nPd w H 0 = 0
  | 0, _ => rfl
  | w + 1, H => by
    unfold nPd
    split
    · rw [nPd_0 w]
    · rw [show 0 / 2 = 0 from rfl, nPd_0 w]
theorem nPd_sub : ∀ w H i, nPd w H i &&& H = nPd w H i
  | 0, _, _ => Nat.zero_and _
  | w + 1, H, i => by
    have I := nPd_sub w (H / 2)
    have e : H = 2 * (H / 2) + H % 2 := by omega
    unfold nPd
    by_cases h : H % 2 = 0
    · rw [if_pos h]
      have t := nAnd2 (nPd w (H / 2) i) (H / 2) 0 0 (by decide) (by decide)
      rw [I] at t
      rw [show H = 2 * (H / 2) + 0 by omega] 
      simpa using t
    · rw [if_neg h]
      have t := nAnd2 (nPd w (H / 2) (i / 2)) (H / 2) (i % 2) 1 (Nat.mod_lt _ (by decide)) (by decide)
      rw [I, Nat.mul_one] at t
      rw [show H / 2 = H / 2 from rfl]
      conv => lhs; rw [show H = 2 * (H / 2) + 1 by omega]
      have e2 : (2 * (H / 2) + 1) / 2 = H / 2 := by omega
      rw [e2]
      exact t
theorem nPd_top : ∀ w H, H < 2 ^ w → nPd w H (2 ^ nPc w H - 1) = H
  | 0, H, h => by
    have : H = 0 := by omega
    rw [this]; rfl
  | w + 1, H, h => by
    have I := nPd_top w (H / 2) (by rw [Nat.pow_succ] at h; omega)
    unfold nPd nPc
    have p : 0 < 2 ^ nPc w (H / 2) := Nat.two_pow_pos _
    by_cases e : H % 2 = 0
    · rw [if_pos e, e, Nat.zero_add, I]; omega
    · have e1 : H % 2 = 1 := by omega
      rw [if_neg e, e1, Nat.pow_add]
      have a : (2 ^ 1 * 2 ^ nPc w (H / 2) - 1) / 2 = 2 ^ nPc w (H / 2) - 1 := by omega
      have b : (2 ^ 1 * 2 ^ nPc w (H / 2) - 1) % 2 = 1 := by omega
      rw [a, b, I]; omega
theorem nPd_lt : ∀ w H i, nPd w H i < 2 ^ w
  | 0, _, _ => Nat.one_pos
  | w + 1, H, i => by
    have I := nPd_lt w (H / 2)
    unfold nPd
    rw [Nat.pow_succ]
    split
    · have := I i; omega
    · have := I (i / 2); omega
theorem nPd_mono : ∀ w H i j, i < j → j < 2 ^ nPc w H → nPd w H i < nPd w H j
  | 0, H, i, j, h1, h2 => by
    have : (2 : Nat) ^ nPc 0 H = 1 := rfl
    omega
  | w + 1, H, i, j, h1, h2 => by
    unfold nPd
    unfold nPc at h2
    by_cases e : H % 2 = 0
    · rw [if_pos e, if_pos e]
      rw [e, Nat.zero_add] at h2
      have := nPd_mono w (H / 2) i j h1 h2
      omega
    · rw [if_neg e, if_neg e]
      have e1 : H % 2 = 1 := by omega
      rw [e1, Nat.pow_add] at h2
      by_cases c : i / 2 < j / 2
      · have := nPd_mono w (H / 2) (i / 2) (j / 2) c (by omega)
        omega
      · have : i / 2 = j / 2 := by omega
        rw [this]; omega
/-- every part of H is one of them -/
theorem nPd_all : ∀ w H x, H < 2 ^ w → x &&& H = x → ∃ j, j < 2 ^ nPc w H ∧ nPd w H j = x
  | 0, H, x, h, hx => by
    have : H = 0 := by omega
    subst this
    rw [Nat.and_zero] at hx
    exact ⟨0, Nat.one_pos, hx⟩
  | w + 1, H, x, h, hx => by
    rw [Nat.pow_succ] at h
    have eH : H = 2 * (H / 2) + H % 2 := by omega
    have ex : x = 2 * (x / 2) + x % 2 := by omega
    have t := nAnd2 (x / 2) (H / 2) (x % 2) (H % 2) (Nat.mod_lt _ (by decide)) (Nat.mod_lt _ (by decide))
    rw [← eH, ← ex, hx] at t
    have m : x % 2 * (H % 2) < 2 := by
      rcases (show x % 2 = 0 ∨ x % 2 = 1 by omega) with a | a <;> rw [a] <;> omega
    have t1 : x / 2 &&& H / 2 = x / 2 := by omega
    have t2 : x % 2 * (H % 2) = x % 2 := by omega
    obtain ⟨j, hj, pj⟩ := nPd_all w (H / 2) (x / 2) (by omega) t1
    by_cases e : H % 2 = 0
    · rw [e, Nat.mul_zero] at t2
      refine ⟨j, by unfold nPc; rw [e, Nat.zero_add]; exact hj, ?_⟩
      unfold nPd
      rw [if_pos e, pj]; omega
    · have e1 : H % 2 = 1 := by omega
      refine ⟨2 * j + x % 2, by unfold nPc; rw [e1, Nat.pow_add]; omega, ?_⟩
      unfold nPd
      rw [if_neg e, show (2 * j + x % 2) / 2 = j by omega, pj]; omega
theorem nAndc : ∀ w s K B, K < 2 ^ w → s &&& K = s → 2 ^ w ∣ B → 0 < B → (s + B - K - 1) &&& K = s
  | 0, s, K, B, h, hs, hB, hp => by
    have : K = 0 := by omega
    subst this
    rw [Nat.and_zero] at hs ⊢
    exact hs
  | w + 1, s, K, B, h, hs, hB, hp => by
    rw [Nat.pow_succ] at h
    obtain ⟨B', rfl⟩ : ∃ B', B = 2 * B' := by
      obtain ⟨c, hc⟩ := hB
      exact ⟨2 ^ w * c, by rw [hc, Nat.pow_succ, Nat.mul_comm (2 ^ w) 2, Nat.mul_assoc]⟩
    have hB' : 2 ^ w ∣ B' := by
      obtain ⟨c, hc⟩ := hB
      exact ⟨c, by rw [Nat.pow_succ, Nat.mul_comm (2 ^ w) 2, Nat.mul_assoc] at hc; omega⟩
    have hw : 2 ^ w ≤ B' := Nat.le_of_dvd (by omega) hB'
    have eK : K = 2 * (K / 2) + K % 2 := by omega
    have es : s = 2 * (s / 2) + s % 2 := by omega
    have t := nAnd2 (s / 2) (K / 2) (s % 2) (K % 2) (Nat.mod_lt _ (by decide)) (Nat.mod_lt _ (by decide))
    rw [← eK, ← es, hs] at t
    have m : s % 2 * (K % 2) < 2 := by
      rcases (show s % 2 = 0 ∨ s % 2 = 1 by omega) with a | a <;> rw [a] <;> omega
    have t1 : s / 2 &&& K / 2 = s / 2 := by omega
    have t2 : s % 2 * (K % 2) = s % 2 := by omega
    have I := nAndc w (s / 2) (K / 2) B' (by omega) t1 hB' (by omega)
    by_cases e : K % 2 = 0
    · rw [e, Nat.mul_zero] at t2
      have u := nAnd2 (s / 2 + B' - K / 2 - 1) (K / 2) 1 0 (by decide) (by decide)
      rw [I] at u
      have a3 : s + 2 * B' - K - 1 = 2 * (s / 2 + B' - K / 2 - 1) + 1 := by omega
      have a4 : K = 2 * (K / 2) + 0 := by omega
      rw [a3]
      generalize K / 2 = k at *
      rw [a4]
      omega
    · have e1 : K % 2 = 1 := by omega
      have u := nAnd2 (s / 2 + B' - K / 2 - 1) (K / 2) (s % 2) 1 (Nat.mod_lt _ (by decide)) (by decide)
      rw [I, Nat.mul_one] at u
      have a3 : s + 2 * B' - K - 1 = 2 * (s / 2 + B' - K / 2 - 1) + s % 2 := by omega
      have a4 : K = 2 * (K / 2) + 1 := by omega
      rw [a3]
      generalize K / 2 = k at *
      rw [a4]
      omega
/-- the next one: the borrow runs through the bits that are not in H -/
theorem nPd_nx : ∀ w H i B, H < 2 ^ w → i + 1 < 2 ^ nPc w H → 2 ^ w ∣ B → 0 < B → (nPd w H i + B - H) &&& H = nPd w H (i + 1)
  | 0, H, i, B, h, hi, hB, hp => by
    have : (2 : Nat) ^ nPc 0 H = 1 := rfl
    omega
  | w + 1, H, i, B, h, hi, hB, hp => by
    rw [Nat.pow_succ] at h
    obtain ⟨B', rfl⟩ : ∃ B', B = 2 * B' := by
      obtain ⟨c, hc⟩ := hB
      exact ⟨2 ^ w * c, by rw [hc, Nat.pow_succ, Nat.mul_comm (2 ^ w) 2, Nat.mul_assoc]⟩
    have hB' : 2 ^ w ∣ B' := by
      obtain ⟨c, hc⟩ := hB
      exact ⟨c, by rw [Nat.pow_succ, Nat.mul_comm (2 ^ w) 2, Nat.mul_assoc] at hc; omega⟩
    have hw : 2 ^ w ≤ B' := Nat.le_of_dvd (by omega) hB'
    have P := nPd_lt w (H / 2)
    unfold nPc at hi
    unfold nPd
    by_cases e : H % 2 = 0
    · rw [if_pos e, if_pos e]
      rw [e, Nat.zero_add] at hi
      have I := nPd_nx w (H / 2) i B' (by omega) hi hB' (by omega)
      have t := nAnd2 (nPd w (H / 2) i + B' - H / 2) (H / 2) 0 0 (by decide) (by decide)
      rw [I] at t
      have e1 : 2 * nPd w (H / 2) i + 2 * B' - H = 2 * (nPd w (H / 2) i + B' - H / 2) + 0 := by omega
      rw [e1]
      have e2 : H = 2 * (H / 2) + 0 := by omega
      generalize H / 2 = K at *
      rw [e2]
      omega
    · rw [if_neg e, if_neg e]
      have e1 : H % 2 = 1 := by omega
      rw [e1, Nat.pow_add] at hi
      have eH : H = 2 * (H / 2) + 1 := by omega
      by_cases c : i % 2 = 0
      · -- the low bit comes in
        have S := nPd_sub w (H / 2) (i / 2)
        have key : (nPd w (H / 2) (i / 2) + B' - H / 2 - 1) &&& (H / 2) = nPd w (H / 2) (i / 2) := nAndc w _ _ B' (by omega) S hB' (by omega)
        have t := nAnd2 (nPd w (H / 2) (i / 2) + B' - H / 2 - 1) (H / 2) 1 1 (by decide) (by decide)
        rw [key] at t
        have a1 : (i + 1) / 2 = i / 2 := by omega
        have a2 : (i + 1) % 2 = 1 := by omega
        have a3 : 2 * nPd w (H / 2) (i / 2) + i % 2 + 2 * B' - H = 2 * (nPd w (H / 2) (i / 2) + B' - H / 2 - 1) + 1 := by
          have := P (i / 2)
          omega
        rw [a1, a2, a3]
        generalize H / 2 = K at *
        rw [eH]
        omega
      · have a1 : (i + 1) / 2 = i / 2 + 1 := by omega
        have a2 : (i + 1) % 2 = 0 := by omega
        have I := nPd_nx w (H / 2) (i / 2) B' (by omega) (by omega) hB' (by omega)
        have t := nAnd2 (nPd w (H / 2) (i / 2) + B' - H / 2) (H / 2) 0 1 (by decide) (by decide)
        rw [I] at t
        have a3 : 2 * nPd w (H / 2) (i / 2) + i % 2 + 2 * B' - H = 2 * (nPd w (H / 2) (i / 2) + B' - H / 2) + 0 := by omega
        rw [a1, a2, a3]
        generalize H / 2 = K at *
        rw [eH]
        omega
