-- calls that only tell, further (wip/whole/gen/p56.py)
theorem uFs_congr {a b c a' b' c' : Nat → Int} {r m : Int} : ∀ {n : Nat}, (∀ g, g < n → a g = a' g ∧ b g = b' g ∧ c g = c' g) → uFs a b c r m n = uFs a' b' c' r m n
  | 0, _ => rfl
  | n + 1, h => by
    have e := h n (by omega)
    unfold uFs
    rw [uFs_congr (fun g hg => h g (by omega)), e.1, e.2.1, e.2.2]
theorem mGl_congr {a b c a' b' c' : Nat → Int} {k m : Nat} : ∀ {n : Nat}, (∀ g, g < n → a g = a' g ∧ b g = b' g ∧ c g = c' g) → mGl a b c k m n = mGl a' b' c' k m n
  | 0, _ => rfl
  | n + 1, h => by
    have e := h n (by omega)
    unfold mGl
    rw [mGl_congr (fun g hg => h g (by omega)), e.1, e.2.1, e.2.2]
theorem yp_flood {d : Nat} {σ : zS} (R : yRel σ) (r m n : Int) : yPi d 70 124 [.inl r, .inl m, .inl n] σ := by
  obtain ⟨S, G, L, H, C, Tx, Ru, K, Tp, Sh, B⟩ := R
  have all : yRel σ := ⟨S, G, L, H, C, Tx, Ru, K, Tp, Sh, B⟩
  obtain ⟨S1, S2, S3, S4⟩ := S
  obtain ⟨q, hq⟩ := Int.eq_ofNat_of_zero_le S2.2.1
  have hq2 : σ.1 8 0 3 = (q : Int) := S2.1.trans hq
  refine z2_70 (d := d + 57) (fun nb => ?_) (fun a b c e => ?_) (fun a b c e => ?_)
  · exact z2_124 (d := d + 57) (fun _ _ _ _ _ => by omega) (fun _ => ⟨⟨-2, rfl, rfl⟩, all⟩) (fun a1 a2 a3 a4 _ => absurd (show _ from ⟨⟨a1.1, by omega⟩, ⟨a2.1, by omega⟩, by omega, a4⟩) nb) (fun a1 a2 a3 a4 _ => absurd (show _ from ⟨⟨a1.1, by omega⟩, ⟨a2.1, by omega⟩, by omega, a4⟩) nb)
  · obtain ⟨r, rfl⟩ := Int.eq_ofNat_of_zero_le a.1
    obtain ⟨m, rfl⟩ := Int.eq_ofNat_of_zero_le b.1
    have e1 : zW ((zW ((r : Int) * 96)) + (m : Int)) = ((96 * r + m : Nat) : Int) := by rw [zIx1 (by omega) (by omega)]; omega
    rw [hq2] at e
    rw [e1, hq2, zWs (by omega)]
    refine z2_124 (d := d + 57) (fun _ _ _ _ _ => by show 0 ≤ σ.1 10 0 2 ∧ σ.1 10 0 2 < 24; omega) (fun nb => absurd ⟨a, b, c⟩ nb) (fun _ _ _ _ _ => ?_) (fun _ _ _ _ f => absurd (show σ.1 10 0 2 = 24 from f) (by omega))
    rw [show (zU (zU (zU σ 36 0 ((96 * r + m : Nat) : Int).toNat (zW (σ.1 36 0 ((96 * r + m : Nat) : Int).toNat + n))) 0 0 4 1) 8 0 3 ((q + 1 : Nat) : Int)).1 10 0 2 = (q : Int) from hq, zWs (by omega)]
    have cb : ∀ g, g < q → -9999 ≤ σ.1 51 0 g ∧ σ.1 51 0 g ≤ 9999 := fun g hg => S3 g (by omega)
    refine ⟨⟨_, rfl, rfl⟩, ⟨S1, ⟨rfl, by show (0 : Int) ≤ ((q + 1 : Nat) : Int); omega, by show ((q + 1 : Nat) : Int) ≤ 24; omega⟩, fun g hg => ?_, fun r' m' hr' hm' => ?_⟩, G, L, H, C, Tx, Ru, K, Tp, Sh, rBase_1 rfl⟩
    · show -9999 ≤ (if 51 = 51 ∧ g = q ∧ 0 = 0 then n else σ.1 51 0 g) ∧ (if 51 = 51 ∧ g = q ∧ 0 = 0 then n else σ.1 51 0 g) ≤ 9999
      have hg : (g : Int) < ((q + 1 : Nat) : Int) := hg
      rw [ifk]
      by_cases e : g = q
      · rw [if_pos e]; exact c
      · rw [if_neg e]; exact cb g (by omega)
    · show (if 36 = 36 ∧ 96 * r' + m' = 96 * r + m ∧ 0 = 0 then zW (σ.1 36 0 (96 * r + m) + n) else σ.1 36 0 (96 * r' + m')) = uFs (fun j => if 49 = 49 ∧ j = q ∧ 0 = 0 then (r : Int) else σ.1 49 0 j) (fun j => if 50 = 50 ∧ j = q ∧ 0 = 0 then (m : Int) else σ.1 50 0 j) (fun j => if 51 = 51 ∧ j = q ∧ 0 = 0 then n else σ.1 51 0 j) (r' : Int) (m' : Int) (q + 1)
      have F := S4 r' m' hr' hm'
      rw [hq] at F
      have F : σ.1 36 0 (96 * r' + m') = uFs (σ.1 49 0) (σ.1 50 0) (σ.1 51 0) (r' : Int) (m' : Int) q := F
      have Bd := uFs_b (a := σ.1 49 0) (b := σ.1 50 0) (c := σ.1 51 0) (r := (r' : Int)) (m := (m' : Int)) cb
      rw [uFs, uFs_congr (a' := σ.1 49 0) (b' := σ.1 50 0) (c' := σ.1 51 0) (fun g hg => ⟨if_neg (by omega), if_neg (by omega), if_neg (by omega)⟩)]
      rw [ifk, ifk, ifk, ifk, if_pos (show q = q from rfl), if_pos (show q = q from rfl), if_pos (show q = q from rfl)]
      by_cases e : 96 * r' + m' = 96 * r + m
      · have e2 : r' = r ∧ m' = m := by omega
        rw [e2.1, e2.2] at F Bd ⊢
        rw [if_pos rfl, if_pos ⟨rfl, rfl⟩, F, zW_id (by omega)]
      · rw [if_neg e, if_neg (by omega)]; exact F
  · rw [hq2] at e
    exact z2_124 (d := d + 57) (fun _ _ _ _ _ => by omega) (fun nb => absurd ⟨a, b, c⟩ nb) (fun _ _ _ _ f => absurd (show σ.1 10 0 2 = 24 by omega) f) (fun _ _ _ _ _ => ⟨⟨-4, rfl, rfl⟩, all⟩)
theorem yp_gauge {d : Nat} {σ : zS} (R : yRel σ) (r m n : Int) : yPi d 71 125 [.inl r, .inl m, .inl n] σ := by
  obtain ⟨S, G, L, H, C, Tx, Ru, K, Tp, Sh, B⟩ := R
  have all : yRel σ := ⟨S, G, L, H, C, Tx, Ru, K, Tp, Sh, B⟩
  obtain ⟨G1, G2, G3⟩ := G
  obtain ⟨q, hq⟩ := Int.eq_ofNat_of_zero_le G1.2.1
  have hq2 : σ.1 8 0 5 = (q : Int) := G1.1.trans hq
  refine z2_71 (d := d + 57) (fun nb => ?_) (fun a b c e => ?_) (fun a b c e => ?_)
  · exact z2_125 (d := d + 57) (fun _ _ _ _ _ => by omega) (fun _ => ⟨⟨-2, rfl, rfl⟩, all⟩) (fun a1 a2 a3 a4 _ => absurd (show _ from ⟨⟨a1.1, by omega⟩, ⟨a2.1, by omega⟩, by omega, a4⟩) nb) (fun a1 a2 a3 a4 _ => absurd (show _ from ⟨⟨a1.1, by omega⟩, ⟨a2.1, by omega⟩, by omega, a4⟩) nb)
  · obtain ⟨r, rfl⟩ := Int.eq_ofNat_of_zero_le a.1
    obtain ⟨m, rfl⟩ := Int.eq_ofNat_of_zero_le b.1
    have e1 : zW ((zW ((r : Int) * 96)) + (m : Int)) = ((96 * r + m : Nat) : Int) := by rw [zIx1 (by omega) (by omega)]; omega
    rw [hq2] at e
    rw [e1, hq2, zWs (by omega)]
    refine z2_125 (d := d + 57) (fun _ _ _ _ _ => by show 0 ≤ σ.1 10 0 3 ∧ σ.1 10 0 3 < 40; omega) (fun nb => absurd ⟨a, b, c⟩ nb) (fun _ _ _ _ _ => ?_) (fun _ _ _ _ f => absurd (show σ.1 10 0 3 = 40 from f) (by omega))
    rw [show (zU (zU (zU σ 37 0 ((96 * r + m : Nat) : Int).toNat n) 0 0 4 1) 8 0 5 ((q + 1 : Nat) : Int)).1 10 0 3 = (q : Int) from hq, zWs (by omega)]
    refine ⟨⟨_, rfl, rfl⟩, S, ⟨⟨rfl, by show (0 : Int) ≤ ((q + 1 : Nat) : Int); omega, by show ((q + 1 : Nat) : Int) ≤ 40; omega⟩, fun g hg => ?_, fun r' m' hr' hm' => ?_⟩, L, H, C, Tx, Ru, K, Tp, Sh, rBase_1 rfl⟩
    · show ((0 ≤ (if 52 = 52 ∧ g = q ∧ 0 = 0 then (r : Int) else σ.1 52 0 g) ∧ (if 52 = 52 ∧ g = q ∧ 0 = 0 then (r : Int) else σ.1 52 0 g) < 7) ∧ (0 ≤ (if 53 = 53 ∧ g = q ∧ 0 = 0 then (m : Int) else σ.1 53 0 g) ∧ (if 53 = 53 ∧ g = q ∧ 0 = 0 then (m : Int) else σ.1 53 0 g) < 96)) ∧ 0 ≤ (if 54 = 54 ∧ g = q ∧ 0 = 0 then n else σ.1 54 0 g) ∧ (if 54 = 54 ∧ g = q ∧ 0 = 0 then n else σ.1 54 0 g) ≤ 99999
      have hg : (g : Int) < ((q + 1 : Nat) : Int) := hg
      rw [ifk, ifk, ifk]
      by_cases e : g = q
      · rw [if_pos e, if_pos e, if_pos e]; exact ⟨⟨by omega, by omega⟩, c⟩
      · rw [if_neg e, if_neg e, if_neg e]; exact G2 g (by omega)
    · show (if 37 = 37 ∧ 96 * r' + m' = 96 * r + m ∧ 0 = 0 then n else σ.1 37 0 (96 * r' + m')) = mGl (fun j => if 52 = 52 ∧ j = q ∧ 0 = 0 then (r : Int) else σ.1 52 0 j) (fun j => if 53 = 53 ∧ j = q ∧ 0 = 0 then (m : Int) else σ.1 53 0 j) (fun j => if 54 = 54 ∧ j = q ∧ 0 = 0 then n else σ.1 54 0 j) r' m' (q + 1)
      have F := G3 r' m' hr' hm'
      unfold mG at F
      rw [hq] at F
      have F : σ.1 37 0 (96 * r' + m') = mGl (σ.1 52 0) (σ.1 53 0) (σ.1 54 0) r' m' q := F
      rw [mGl, mGl_congr (a' := σ.1 52 0) (b' := σ.1 53 0) (c' := σ.1 54 0) (fun g hg => ⟨if_neg (by omega), if_neg (by omega), if_neg (by omega)⟩)]
      rw [ifk, ifk, ifk, ifk, if_pos (show q = q from rfl), if_pos (show q = q from rfl), if_pos (show q = q from rfl)]
      by_cases e : 96 * r' + m' = 96 * r + m
      · have e2 : r' = r ∧ m' = m := by omega
        rw [if_pos e, if_pos (by omega)]
      · rw [if_neg e, if_neg (by omega)]; exact F
  · rw [hq2] at e
    exact z2_125 (d := d + 57) (fun _ _ _ _ _ => by omega) (fun nb => absurd ⟨a, b, c⟩ nb) (fun _ _ _ _ f => absurd (show σ.1 10 0 3 = 40 by omega) f) (fun _ _ _ _ _ => ⟨⟨-4, rfl, rfl⟩, all⟩)
