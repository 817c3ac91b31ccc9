-- bits of whole numbers
theorem zNi (n : Nat) : Int32.ofInt (n : Int) = nI n := rfl
theorem zs_l : ∀ n, n < 32 → ((nI n &&& 31).toBitVec.smod 32).toNat = n := by decide +kernel
theorem zNor (a b : Nat) : nI a ||| nI b = nI (a ||| b) := by
  apply Int32.toBitVec_inj.mp
  show BitVec.ofNat 32 a ||| BitVec.ofNat 32 b = BitVec.ofNat 32 (a ||| b)
  apply BitVec.eq_of_getLsbD_eq
  intro i hi
  simp [BitVec.getLsbD_ofNat, hi, Nat.testBit_or]
theorem zNand (a b : Nat) : nI a &&& nI b = nI (a &&& b) := by
  apply Int32.toBitVec_inj.mp
  show BitVec.ofNat 32 a &&& BitVec.ofNat 32 b = BitVec.ofNat 32 (a &&& b)
  apply BitVec.eq_of_getLsbD_eq
  intro i hi
  simp [BitVec.getLsbD_ofNat, hi, Nat.testBit_and]
theorem zShr {x h : Nat} (hx : x < 2 ^ 31) (hh : h < 31) : zBin 7 (x : Int) (h : Int) = ((x / 2 ^ h : Nat) : Int) := by
  show (nI x >>> (nI h &&& 31)).toInt = _
  rw [pk_shrN hx _ h (zs_l h (by omega)), nI_toInt (Nat.lt_of_le_of_lt (Nat.div_le_self _ _) hx)]
theorem zAnd1 {x : Nat} (hx : x < 2 ^ 31) : zBin 3 (x : Int) 1 = ((x % 2 : Nat) : Int) := by
  show (nI x &&& 1).toInt = _
  rw [pk_andN (by omega) 1 (by decide), nI_toInt (by omega)]
theorem zAnd3 {x : Nat} (hx : x < 2 ^ 31) : zBin 3 (x : Int) 3 = ((x % 4 : Nat) : Int) := by
  show (nI x &&& 3).toInt = _
  rw [pk_andN (by omega) 2 (by decide), nI_toInt (by omega)]
theorem zBit {x h : Nat} (hx : x < 2 ^ 31) (hh : h < 31) : zBin 3 (zBin 7 (x : Int) (h : Int)) 1 = ((x / 2 ^ h % 2 : Nat) : Int) := by
  rw [zShr hx hh, zAnd1 (Nat.lt_of_le_of_lt (Nat.div_le_self _ _) hx)]
theorem zOr {a b : Nat} (ha : a < 2 ^ 31) (hb : b < 2 ^ 31) : zBin 4 (a : Int) (b : Int) = ((a ||| b : Nat) : Int) := by
  show (nI a ||| nI b).toInt = _
  rw [zNor, nI_toInt (Nat.or_lt_two_pow ha hb)]
theorem zAnd {a b : Nat} (ha : a < 2 ^ 31) : zBin 3 (a : Int) (b : Int) = ((a &&& b : Nat) : Int) := by
  show (nI a &&& nI b).toInt = _
  rw [zNand, nI_toInt (Nat.lt_of_le_of_lt Nat.and_le_left ha)]
theorem zShl {h : Nat} (hh : h < 31) : zBin 6 1 (h : Int) = ((2 ^ h : Nat) : Int) := by
  show (nI 1 <<< (nI h &&& 31)).toInt = _
  have p : 2 ^ h < 2 ^ 31 := Nat.pow_lt_pow_right (by decide) hh
  rw [pk_shlN _ h (zs_l h (by omega)) (by omega), nI_toInt (by omega), Nat.one_mul]
theorem zBit1 {x h : Nat} : x / 2 ^ h % 2 = if x.testBit h then 1 else 0 := by
  rw [Nat.testBit_eq_decide_div_mod_eq]
  by_cases e : x / 2 ^ h % 2 = 1
  · simp [e]
  · simp [e]; omega
/-- the bits of those for which p holds -/
def uBits (p : Nat → Bool) : Nat → Nat
  | 0 => 0
  | n + 1 => if p n = true then uBits p n ||| 2 ^ n else uBits p n
theorem uBits_lt {p : Nat → Bool} : ∀ {n : Nat}, uBits p n < 2 ^ n
  | 0 => Nat.one_pos
  | n + 1 => by
    have := uBits_lt (p := p) (n := n)
    have e : 2 ^ n < 2 ^ (n + 1) := Nat.pow_lt_pow_right (by decide) (by omega)
    unfold uBits
    split
    · exact Nat.or_lt_two_pow (by omega) e
    · omega
theorem uBits_tb {p : Nat → Bool} {k : Nat} : ∀ {n : Nat}, (uBits p n).testBit k = (decide (k < n) && p k)
  | 0 => by simp [uBits]
  | n + 1 => by
    have I := uBits_tb (p := p) (k := k) (n := n)
    unfold uBits
    split
    · rename_i h
      rw [Nat.testBit_or, I, Nat.testBit_two_pow]
      by_cases e : n = k
      · subst e; simp [h]
      · by_cases l : k < n
        · have : k < n + 1 := by omega
          simp [e, l, this]
        · have : ¬ k < n + 1 := by omega
          simp [e, l, this]
    · rename_i h
      rw [I]
      by_cases e : k = n
      · subst e; simp [h]
      · by_cases l : k < n
        · have : k < n + 1 := by omega
          simp [l, this]
        · have : ¬ k < n + 1 := by omega
          simp [l, this]
def uOrs (q : Nat → Bool) (f : Nat → Nat) : Nat → Nat
  | 0 => 0
  | n + 1 => if q n = true then uOrs q f n ||| f n else uOrs q f n
theorem uOrs_lt {q : Nat → Bool} {f : Nat → Nat} {N : Nat} (hf : ∀ c, f c < 2 ^ N) : ∀ {n : Nat}, uOrs q f n < 2 ^ N
  | 0 => Nat.two_pow_pos N
  | n + 1 => by
    have := uOrs_lt (q := q) hf (n := n)
    unfold uOrs
    split
    · exact Nat.or_lt_two_pow this (hf n)
    · exact this
theorem uOrs_tb {q : Nat → Bool} {f : Nat → Nat} {k : Nat} : ∀ {n : Nat}, (uOrs q f n).testBit k = true ↔ ∃ c, c < n ∧ q c = true ∧ (f c).testBit k = true
  | 0 => by simp [uOrs]
  | n + 1 => by
    have I := uOrs_tb (q := q) (f := f) (k := k) (n := n)
    unfold uOrs
    split
    · rename_i h
      rw [Nat.testBit_or, Bool.or_eq_true, I]
      constructor
      · rintro (⟨c, h1, h2⟩ | h2)
        · exact ⟨c, by omega, h2⟩
        · exact ⟨n, by omega, h, h2⟩
      · rintro ⟨c, h1, h2, h3⟩
        by_cases e : c = n
        · subst e; exact Or.inr h3
        · exact Or.inl ⟨c, by omega, h2, h3⟩
    · rename_i h
      rw [I]
      constructor
      · rintro ⟨c, h1, h2⟩; exact ⟨c, by omega, h2⟩
      · rintro ⟨c, h1, h2, h3⟩
        by_cases e : c = n
        · subst e; exact absurd h2 h
        · exact ⟨c, by omega, h2, h3⟩
