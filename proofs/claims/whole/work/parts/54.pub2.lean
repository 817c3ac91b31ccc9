-- public methods: what is refused, gathered (wip/whole/gen/laws33.py)
theorem zIx1 {a b : Int} (h1 : 0 ≤ a ∧ a ≤ 100000) (h2 : 0 ≤ b ∧ b ≤ 100000) : zW (zW a + b) = a + b := by rw [zW_id (z := a) (by omega), zW_id (by omega)]
theorem z2_68 {d : Nat} {σ : zS} {Q : Option zV → zS → Prop} {r : Int} {m : Int} {n : Int}
    (hb : ¬ ((0 ≤ r ∧ r ≤ 6) ∧ (0 ≤ m ∧ m ≤ 11) ∧ 0 ≤ n ∧ n ≤ 9999) → Q (some (.inl (-2))) σ)
    (h1 : 0 ≤ r ∧ r ≤ 6 → 0 ≤ m ∧ m ≤ 11 → 0 ≤ n ∧ n ≤ 9999 → Q (some (.inl (σ.1 34 0 ((zW ((zW (r * 12)) + m)).toNat)))) (zU (zU σ 34 0 ((zW ((zW (r * 12)) + m)).toNat) n) 0 0 4 1)) :
    zM (d + 3) 68 [.inr (.inr (9, 0)), .inl r, .inl m, .inl n] σ Q :=
  zb_68 (fun a0 a1 a2 => by (try rw [zIx1 (by omega) (by omega)]); omega) h1 (fun a0 a1 a2 => hb (by omega)) (fun a0 a1 => hb (by omega)) (fun a0 => hb (by omega))
theorem z2_122 {d : Nat} {σ : zS} {Q : Option zV → zS → Prop} {r : Int} {m : Int} {n : Int}
    (hb : ¬ ((0 ≤ r ∧ r ≤ 6) ∧ (0 ≤ m ∧ m ≤ 11) ∧ 0 ≤ n ∧ n ≤ 9999) → Q (some (.inl (-2))) σ)
    (h4 : 0 ≤ r ∧ r < 7 → ¬ m < 0 → ¬ 11 < m → ¬ n < 0 → n ≤ 9999 → Q (some (.inl (σ.1 47 0 ((zW ((zW (12 * r)) + m)).toNat)))) (zU σ 47 0 ((zW ((zW (12 * r)) + m)).toNat) n)) :
    zM (d + 3) 122 [.inr (.inr (10, 0)), .inl r, .inl m, .inl n] σ Q :=
  zb_122 (fun a0 a1 a2 a3 a4 => by (try rw [zIx1 (by omega) (by omega)]); omega) (fun a0 a1 => hb (by omega)) (fun a0 a1 a2 => hb (by omega)) (fun a0 a1 a2 a3 => hb (by omega)) h4 (fun a0 a1 a2 a3 a4 => hb (by omega)) (fun a0 => hb (by omega))
theorem z2_69 {d : Nat} {σ : zS} {Q : Option zV → zS → Prop} {r : Int} {n : Int}
    (hb : ¬ ((0 ≤ r ∧ r ≤ 6) ∧ 0 ≤ n ∧ n ≤ 99) → Q (some (.inl (-2))) σ)
    (h1 : 0 ≤ r ∧ r ≤ 6 → 0 ≤ n ∧ n ≤ 99 → Q (some (.inl (σ.1 35 0 (r.toNat)))) (zU (zU σ 35 0 (r.toNat) n) 0 0 4 1)) :
    zM (d + 3) 69 [.inr (.inr (9, 0)), .inl r, .inl n] σ Q :=
  zb_69 (fun a0 a1 => by (try rw [zIx1 (by omega) (by omega)]); omega) h1 (fun a0 a1 => hb (by omega)) (fun a0 => hb (by omega))
theorem z2_123 {d : Nat} {σ : zS} {Q : Option zV → zS → Prop} {r : Int} {n : Int}
    (hb : ¬ ((0 ≤ r ∧ r ≤ 6) ∧ 0 ≤ n ∧ n ≤ 99) → Q (some (.inl (-2))) σ)
    (h2 : 0 ≤ r ∧ r < 7 → ¬ n < 0 → n ≤ 99 → Q (some (.inl (σ.1 48 0 (r.toNat)))) (zU σ 48 0 (r.toNat) n)) :
    zM (d + 3) 123 [.inr (.inr (10, 0)), .inl r, .inl n] σ Q :=
  zb_123 (fun a0 a1 a2 => by (try rw [zIx1 (by omega) (by omega)]); omega) (fun a0 a1 => hb (by omega)) h2 (fun a0 a1 a2 => hb (by omega)) (fun a0 => hb (by omega))
theorem z2_70 {d : Nat} {σ : zS} {Q : Option zV → zS → Prop} {r : Int} {m : Int} {n : Int}
    (hb : ¬ ((0 ≤ r ∧ r ≤ 6) ∧ (0 ≤ m ∧ m ≤ 95) ∧ -9999 ≤ n ∧ n ≤ 9999) → Q (some (.inl (-2))) σ)
    (h1 : 0 ≤ r ∧ r ≤ 6 → 0 ≤ m ∧ m ≤ 95 → (-9999) ≤ n ∧ n ≤ 9999 → σ.1 8 0 3 < 24 → Q (some (.inl (σ.1 8 0 3))) (zU (zU (zU σ 36 0 ((zW ((zW (r * 96)) + m)).toNat) (zW ((σ.1 36 0 ((zW ((zW (r * 96)) + m)).toNat)) + n))) 0 0 4 1) 8 0 3 (zW ((σ.1 8 0 3) + 1))))
    (h2 : 0 ≤ r ∧ r ≤ 6 → 0 ≤ m ∧ m ≤ 95 → (-9999) ≤ n ∧ n ≤ 9999 → ¬ σ.1 8 0 3 < 24 → Q (some (.inl (-4))) σ) :
    zM (d + 3) 70 [.inr (.inr (9, 0)), .inl r, .inl m, .inl n] σ Q :=
  zb_70 (fun a0 a1 a2 a3 => by (try rw [zIx1 (by omega) (by omega)]); omega) h1 h2 (fun a0 a1 a2 => hb (by omega)) (fun a0 a1 => hb (by omega)) (fun a0 => hb (by omega))
theorem z2_124 {d : Nat} {σ : zS} {Q : Option zV → zS → Prop} {r : Int} {m : Int} {n : Int}
    (o1 : 0 ≤ r ∧ r < 7 → 0 ≤ m ∧ m < 96 → ¬ n < (-9999) → n ≤ 9999 → ¬ σ.1 10 0 2 = 24 → (0 : Int) ≤ σ.1 10 0 2 ∧ σ.1 10 0 2 < (24 : Int))
    (hb : ¬ ((0 ≤ r ∧ r ≤ 6) ∧ (0 ≤ m ∧ m ≤ 95) ∧ -9999 ≤ n ∧ n ≤ 9999) → Q (some (.inl (-2))) σ)
    (h2 : 0 ≤ r ∧ r < 7 → 0 ≤ m ∧ m < 96 → ¬ n < (-9999) → n ≤ 9999 → ¬ σ.1 10 0 2 = 24 → Q (some (.inl (σ.1 10 0 2))) (zU (zU (zU (zU σ 49 0 ((σ.1 10 0 2).toNat) r) 50 0 ((σ.1 10 0 2).toNat) m) 51 0 ((σ.1 10 0 2).toNat) n) 10 0 2 (zW ((σ.1 10 0 2) + 1))))
    (h3 : 0 ≤ r ∧ r < 7 → 0 ≤ m ∧ m < 96 → ¬ n < (-9999) → n ≤ 9999 → σ.1 10 0 2 = 24 → Q (some (.inl (-4))) σ) :
    zM (d + 3) 124 [.inr (.inr (10, 0)), .inl r, .inl m, .inl n] σ Q :=
  zb_124 o1 (fun a0 a1 a2 => hb (by omega)) h2 h3 (fun a0 a1 a2 a3 => hb (by omega)) (fun a0 a1 => hb (by omega)) (fun a0 => hb (by omega))
theorem z2_71 {d : Nat} {σ : zS} {Q : Option zV → zS → Prop} {r : Int} {m : Int} {n : Int}
    (hb : ¬ ((0 ≤ r ∧ r ≤ 6) ∧ (0 ≤ m ∧ m ≤ 95) ∧ 0 ≤ n ∧ n ≤ 99999) → Q (some (.inl (-2))) σ)
    (h1 : 0 ≤ r ∧ r ≤ 6 → 0 ≤ m ∧ m ≤ 95 → 0 ≤ n ∧ n ≤ 99999 → σ.1 8 0 5 < 40 → Q (some (.inl (σ.1 8 0 5))) (zU (zU (zU σ 37 0 ((zW ((zW (r * 96)) + m)).toNat) n) 0 0 4 1) 8 0 5 (zW ((σ.1 8 0 5) + 1))))
    (h2 : 0 ≤ r ∧ r ≤ 6 → 0 ≤ m ∧ m ≤ 95 → 0 ≤ n ∧ n ≤ 99999 → ¬ σ.1 8 0 5 < 40 → Q (some (.inl (-4))) σ) :
    zM (d + 3) 71 [.inr (.inr (9, 0)), .inl r, .inl m, .inl n] σ Q :=
  zb_71 (fun a0 a1 a2 a3 => by (try rw [zIx1 (by omega) (by omega)]); omega) h1 h2 (fun a0 a1 a2 => hb (by omega)) (fun a0 a1 => hb (by omega)) (fun a0 => hb (by omega))
theorem z2_125 {d : Nat} {σ : zS} {Q : Option zV → zS → Prop} {r : Int} {m : Int} {n : Int}
    (o1 : 0 ≤ r ∧ r < 7 → 0 ≤ m ∧ m < 96 → ¬ n < 0 → n ≤ 99999 → ¬ σ.1 10 0 3 = 40 → (0 : Int) ≤ σ.1 10 0 3 ∧ σ.1 10 0 3 < (40 : Int))
    (hb : ¬ ((0 ≤ r ∧ r ≤ 6) ∧ (0 ≤ m ∧ m ≤ 95) ∧ 0 ≤ n ∧ n ≤ 99999) → Q (some (.inl (-2))) σ)
    (h2 : 0 ≤ r ∧ r < 7 → 0 ≤ m ∧ m < 96 → ¬ n < 0 → n ≤ 99999 → ¬ σ.1 10 0 3 = 40 → Q (some (.inl (σ.1 10 0 3))) (zU (zU (zU (zU σ 52 0 ((σ.1 10 0 3).toNat) r) 53 0 ((σ.1 10 0 3).toNat) m) 54 0 ((σ.1 10 0 3).toNat) n) 10 0 3 (zW ((σ.1 10 0 3) + 1))))
    (h3 : 0 ≤ r ∧ r < 7 → 0 ≤ m ∧ m < 96 → ¬ n < 0 → n ≤ 99999 → σ.1 10 0 3 = 40 → Q (some (.inl (-4))) σ) :
    zM (d + 3) 125 [.inr (.inr (10, 0)), .inl r, .inl m, .inl n] σ Q :=
  zb_125 o1 (fun a0 a1 a2 => hb (by omega)) h2 h3 (fun a0 a1 a2 a3 => hb (by omega)) (fun a0 a1 => hb (by omega)) (fun a0 => hb (by omega))
theorem z2_73 {d : Nat} {σ : zS} {Q : Option zV → zS → Prop} {r : Int} {o : Int} {l : Int} {s : Int} {e : Int}
    (hb : ¬ ((0 ≤ r ∧ r ≤ 6) ∧ (0 ≤ o ∧ o ≤ 99999) ∧ (0 ≤ l ∧ l ≤ o) ∧ (0 ≤ s ∧ s ≤ 99) ∧ 0 ≤ e ∧ e ≤ 9999) → Q (some (.inl (-2))) σ)
    (h1 : 0 ≤ r ∧ r ≤ 6 → 0 ≤ o ∧ o ≤ 99999 → 0 ≤ l ∧ l ≤ o → 0 ≤ s ∧ s ≤ 99 → 0 ≤ e ∧ e ≤ 9999 → σ.1 3 (7 * 0 + r.toNat) 0 = 0 → Q (some (.inl 1)) (zU (zU (zU (zU (zU (zU σ 3 (7 * 0 + r.toNat) 0 1) 3 (7 * 0 + r.toNat) 1 o) 3 (7 * 0 + r.toNat) 2 l) 3 (7 * 0 + r.toNat) 3 s) 3 (7 * 0 + r.toNat) 4 e) 0 0 4 1))
    (h2 : 0 ≤ r ∧ r ≤ 6 → 0 ≤ o ∧ o ≤ 99999 → 0 ≤ l ∧ l ≤ o → 0 ≤ s ∧ s ≤ 99 → 0 ≤ e ∧ e ≤ 9999 → ¬ σ.1 3 (7 * 0 + r.toNat) 0 = 0 → Q (some (.inl 0)) (zU (zU (zU (zU (zU (zU σ 3 (7 * 0 + r.toNat) 0 1) 3 (7 * 0 + r.toNat) 1 o) 3 (7 * 0 + r.toNat) 2 l) 3 (7 * 0 + r.toNat) 3 s) 3 (7 * 0 + r.toNat) 4 e) 0 0 4 1)) :
    zM (d + 3) 73 [.inr (.inr (9, 0)), .inl r, .inl o, .inl l, .inl s, .inl e] σ Q :=
  zb_73 (fun a0 a1 a2 a3 a4 => by (try rw [zIx1 (by omega) (by omega)]); omega) h1 h2 (fun a0 a1 a2 a3 a4 => hb (by omega)) (fun a0 a1 a2 a3 => hb (by omega)) (fun a0 a1 a2 => hb (by omega)) (fun a0 a1 => hb (by omega)) (fun a0 => hb (by omega))
theorem z2_128 {d : Nat} {σ : zS} {Q : Option zV → zS → Prop} {r : Int} {o : Int} {l : Int} {s : Int} {e : Int}
    (hb : ¬ ((0 ≤ r ∧ r ≤ 6) ∧ (0 ≤ o ∧ o ≤ 99999) ∧ (0 ≤ l ∧ l ≤ o) ∧ (0 ≤ s ∧ s ≤ 99) ∧ 0 ≤ e ∧ e ≤ 9999) → Q (some (.inl (-2))) σ)
    (h8 : 0 ≤ r ∧ r < 7 → ¬ o < 0 → ¬ 99999 < o → ¬ l < 0 → ¬ o < l → ¬ s < 0 → ¬ 99 < s → ¬ e < 0 → e ≤ 9999 → σ.1 55 0 (r.toNat) = 0 → Q (some (.inl 1)) (zU (zU (zU (zU (zU σ 55 0 (r.toNat) 1) 56 0 (r.toNat) o) 57 0 (r.toNat) l) 58 0 (r.toNat) s) 59 0 (r.toNat) e))
    (h9 : 0 ≤ r ∧ r < 7 → ¬ o < 0 → ¬ 99999 < o → ¬ l < 0 → ¬ o < l → ¬ s < 0 → ¬ 99 < s → ¬ e < 0 → e ≤ 9999 → ¬ σ.1 55 0 (r.toNat) = 0 → Q (some (.inl 0)) (zU (zU (zU (zU (zU σ 55 0 (r.toNat) 1) 56 0 (r.toNat) o) 57 0 (r.toNat) l) 58 0 (r.toNat) s) 59 0 (r.toNat) e)) :
    zM (d + 3) 128 [.inr (.inr (10, 0)), .inl r, .inl o, .inl l, .inl s, .inl e] σ Q :=
  zb_128 (fun a0 a1 a2 a3 a4 a5 a6 a7 a8 => by (try rw [zIx1 (by omega) (by omega)]); omega) (fun a0 a1 => hb (by omega)) (fun a0 a1 a2 => hb (by omega)) (fun a0 a1 a2 a3 => hb (by omega)) (fun a0 a1 a2 a3 a4 => hb (by omega)) (fun a0 a1 a2 a3 a4 a5 => hb (by omega)) (fun a0 a1 a2 a3 a4 a5 a6 => hb (by omega)) (fun a0 a1 a2 a3 a4 a5 a6 a7 => hb (by omega)) h8 h9 (fun a0 a1 a2 a3 a4 a5 a6 a7 a8 => hb (by omega)) (fun a0 => hb (by omega))
theorem z2_74 {d : Nat} {σ : zS} {Q : Option zV → zS → Prop} {r : Int} {n : Int}
    (hb : ¬ ((0 ≤ r ∧ r ≤ 6) ∧ 0 ≤ n ∧ n ≤ 9999) → Q (some (.inl (-2))) σ)
    (h1 : 0 ≤ r ∧ r ≤ 6 → 0 ≤ n ∧ n ≤ 9999 → ¬ σ.1 3 (7 * 0 + r.toNat) 0 = 0 → Q (some (.inl (σ.1 3 (7 * 0 + r.toNat) 4))) (zU (zU σ 3 (7 * 0 + r.toNat) 4 n) 0 0 4 1))
    (h2 : 0 ≤ r ∧ r ≤ 6 → 0 ≤ n ∧ n ≤ 9999 → σ.1 3 (7 * 0 + r.toNat) 0 = 0 → Q (some (.inl (-5))) σ) :
    zM (d + 3) 74 [.inr (.inr (9, 0)), .inl r, .inl n] σ Q :=
  zb_74 (fun a0 a1 => by (try rw [zIx1 (by omega) (by omega)]); omega) h1 h2 (fun a0 a1 => hb (by omega)) (fun a0 => hb (by omega))
theorem z2_129 {d : Nat} {σ : zS} {Q : Option zV → zS → Prop} {r : Int} {n : Int}
    (hb : ¬ ((0 ≤ r ∧ r ≤ 6) ∧ 0 ≤ n ∧ n ≤ 9999) → Q (some (.inl (-2))) σ)
    (h2 : 0 ≤ r ∧ r < 7 → ¬ n < 0 → n ≤ 9999 → ¬ σ.1 55 0 (r.toNat) = 0 → Q (some (.inl (σ.1 59 0 (r.toNat)))) (zU σ 59 0 (r.toNat) n))
    (h3 : 0 ≤ r ∧ r < 7 → ¬ n < 0 → n ≤ 9999 → σ.1 55 0 (r.toNat) = 0 → Q (some (.inl (-5))) σ) :
    zM (d + 3) 129 [.inr (.inr (10, 0)), .inl r, .inl n] σ Q :=
  zb_129 (fun a0 a1 a2 => by (try rw [zIx1 (by omega) (by omega)]); omega) (fun a0 a1 => hb (by omega)) h2 h3 (fun a0 a1 a2 => hb (by omega)) (fun a0 => hb (by omega))
theorem z2_75 {d : Nat} {σ : zS} {Q : Option zV → zS → Prop} {k : Int} {s : Int} {r : Int} {n : Int} {e : Int}
    (o1 : (0 ≤ k ∧ k ≤ 5) ∧ (0 ≤ s ∧ s ≤ 3) ∧ (0 ≤ r ∧ r ≤ 6) ∧ (0 ≤ n ∧ n ≤ 9999 ∧ (k = 2 → n ≤ 100)) ∧ 0 ≤ e ∧ e ≤ 9999 → σ.1 8 0 8 < 16 → (0 : Int) ≤ σ.1 8 0 8 ∧ σ.1 8 0 8 < (16 : Int))
    (hb : ¬ ((0 ≤ k ∧ k ≤ 5) ∧ (0 ≤ s ∧ s ≤ 3) ∧ (0 ≤ r ∧ r ≤ 6) ∧ (0 ≤ n ∧ n ≤ 9999 ∧ (k = 2 → n ≤ 100)) ∧ 0 ≤ e ∧ e ≤ 9999) → Q (some (.inl (-2))) σ)
    (h1 : (0 ≤ k ∧ k ≤ 5) ∧ (0 ≤ s ∧ s ≤ 3) ∧ (0 ≤ r ∧ r ≤ 6) ∧ (0 ≤ n ∧ n ≤ 9999 ∧ (k = 2 → n ≤ 100)) ∧ 0 ≤ e ∧ e ≤ 9999 → σ.1 8 0 8 < 16 → Q (some (.inl (σ.1 8 0 8))) (zU (zU (zU (zU (zU (zU (zU (zU (zU σ 1 ((16 * 0 + (σ.1 8 0 8).toNat)) 0 k) 1 ((16 * 0 + (σ.1 8 0 8).toNat)) 1 s) 1 ((16 * 0 + (σ.1 8 0 8).toNat)) 2 r) 1 ((16 * 0 + (σ.1 8 0 8).toNat)) 3 n) 1 ((16 * 0 + (σ.1 8 0 8).toNat)) 4 e) 1 ((16 * 0 + (σ.1 8 0 8).toNat)) 5 0) 1 ((16 * 0 + (σ.1 8 0 8).toNat)) 6 96) 0 0 4 1) 8 0 8 (zW ((σ.1 8 0 8) + 1))))
    (h2 : (0 ≤ k ∧ k ≤ 5) ∧ (0 ≤ s ∧ s ≤ 3) ∧ (0 ≤ r ∧ r ≤ 6) ∧ (0 ≤ n ∧ n ≤ 9999 ∧ (k = 2 → n ≤ 100)) ∧ 0 ≤ e ∧ e ≤ 9999 → ¬ σ.1 8 0 8 < 16 → Q (some (.inl (-4))) σ) :
    zM (d + 4) 75 [.inr (.inr (9, 0)), .inl k, .inl s, .inl r, .inl n, .inl e] σ Q :=
  zb_75 o1 h1 h2 (fun a0 => hb (by omega))
theorem z2_132 {d : Nat} {σ : zS} {Q : Option zV → zS → Prop} {k : Int} {s : Int} {r : Int} {n : Int} {e : Int}
    (o1 : (0 ≤ k ∧ k ≤ 5) ∧ (0 ≤ s ∧ s ≤ 3) ∧ (0 ≤ r ∧ r ≤ 6) ∧ (0 ≤ n ∧ n ≤ 9999 ∧ (k = 2 → n ≤ 100)) ∧ 0 ≤ e ∧ e ≤ 9999 → ¬ σ.1 10 0 4 = 16 → (0 : Int) ≤ (σ.1 10 0 4) ∧ (σ.1 10 0 4) < (17 : Int))
    (hb : ¬ ((0 ≤ k ∧ k ≤ 5) ∧ (0 ≤ s ∧ s ≤ 3) ∧ (0 ≤ r ∧ r ≤ 6) ∧ (0 ≤ n ∧ n ≤ 9999 ∧ (k = 2 → n ≤ 100)) ∧ 0 ≤ e ∧ e ≤ 9999) → Q (some (.inl (-2))) σ)
    (h1 : (0 ≤ k ∧ k ≤ 5) ∧ (0 ≤ s ∧ s ≤ 3) ∧ (0 ≤ r ∧ r ≤ 6) ∧ (0 ≤ n ∧ n ≤ 9999 ∧ (k = 2 → n ≤ 100)) ∧ 0 ≤ e ∧ e ≤ 9999 → ¬ σ.1 10 0 4 = 16 → Q (some (.inl (σ.1 10 0 4))) (zU (zU (zU (zU (zU (zU (zU (zU σ 60 0 ((σ.1 10 0 4).toNat) k) 61 0 ((σ.1 10 0 4).toNat) s) 62 0 ((σ.1 10 0 4).toNat) r) 63 0 ((σ.1 10 0 4).toNat) n) 64 0 ((σ.1 10 0 4).toNat) e) 65 0 ((σ.1 10 0 4).toNat) 0) 66 0 ((σ.1 10 0 4).toNat) 96) 10 0 4 (zW ((σ.1 10 0 4) + 1))))
    (h2 : (0 ≤ k ∧ k ≤ 5) ∧ (0 ≤ s ∧ s ≤ 3) ∧ (0 ≤ r ∧ r ≤ 6) ∧ (0 ≤ n ∧ n ≤ 9999 ∧ (k = 2 → n ≤ 100)) ∧ 0 ≤ e ∧ e ≤ 9999 → σ.1 10 0 4 = 16 → Q (some (.inl (-4))) σ) :
    zM (d + 4) 132 [.inr (.inr (10, 0)), .inl k, .inl s, .inl r, .inl n, .inl e] σ Q :=
  zb_132 o1 h1 h2 (fun a0 => hb (by omega))
