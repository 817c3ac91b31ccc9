-- calls that only tell, further still (wip/whole/gen/p57.py)
theorem ifo7 {K f j r : Nat} {a b : Int} : (if K = K ∧ f = f ∧ 7 * 0 + j = 7 * 0 + r then a else b) = if j = r then a else b := by
  by_cases e : j = r
  · rw [if_pos ⟨rfl, rfl, by rw [e]⟩, if_pos e]
  · rw [if_neg (fun q => e (by have := q.2.2; omega)), if_neg e]
theorem ifo16 {K f j r : Nat} {a b : Int} : (if K = K ∧ f = f ∧ 16 * 0 + j = 16 * 0 + r then a else b) = if j = r then a else b := by
  by_cases e : j = r
  · rw [if_pos ⟨rfl, rfl, by rw [e]⟩, if_pos e]
  · rw [if_neg (fun q => e (by have := q.2.2; omega)), if_neg e]
theorem yr_lake {σ : zS} (R : yRel σ) {r : Nat} {o l s e : Int} (hr : r < 7) (ho : 0 ≤ o ∧ o ≤ 99999) (hl : 0 ≤ l ∧ l ≤ o) (hs : 0 ≤ s ∧ s ≤ 99) (he : 0 ≤ e ∧ e ≤ 9999) : yRel (zU (zU (zU (zU (zU (zU (zU (zU (zU (zU (zU σ 3 (7 * 0 + r) 0 1) 3 (7 * 0 + r) 1 o) 3 (7 * 0 + r) 2 l) 3 (7 * 0 + r) 3 s) 3 (7 * 0 + r) 4 e) 0 0 4 1) 55 0 r 1) 56 0 r o) 57 0 r l) 58 0 r s) 59 0 r e) := by
  obtain ⟨S, G, L, H, C, Tx, Ru, K, Tp, Sh, B⟩ := R
  have all : yRel σ := ⟨S, G, L, H, C, Tx, Ru, K, Tp, Sh, B⟩
  obtain ⟨L1, L2, L3⟩ := L
  refine ⟨S, G, ⟨L1, fun j hj => ?_, fun j hj ht => ?_⟩, H, C, Tx, Ru, K, Tp, Sh, rBase_1 rfl⟩
  · show (if 3 = 3 ∧ 0 = 0 ∧ 7 * 0 + j = 7 * 0 + r then 1 else σ.1 3 (7 * 0 + j) 0) = (if 55 = 55 ∧ j = r ∧ 0 = 0 then 1 else σ.1 55 0 j) ∧ ((if 55 = 55 ∧ j = r ∧ 0 = 0 then 1 else σ.1 55 0 j) = 0 ∨ (if 55 = 55 ∧ j = r ∧ 0 = 0 then 1 else σ.1 55 0 j) = 1)
    rw [ifo7, ifk]
    by_cases q : j = r
    · rw [if_pos q, if_pos q]; exact ⟨rfl, Or.inr rfl⟩
    · rw [if_neg q, if_neg q]; exact L2 j hj
  · show ((if 3 = 3 ∧ 1 = 1 ∧ 7 * 0 + j = 7 * 0 + r then o else σ.1 3 (7 * 0 + j) 1) = (if 56 = 56 ∧ j = r ∧ 0 = 0 then o else σ.1 56 0 j) ∧ (if 3 = 3 ∧ 2 = 2 ∧ 7 * 0 + j = 7 * 0 + r then l else σ.1 3 (7 * 0 + j) 2) = (if 57 = 57 ∧ j = r ∧ 0 = 0 then l else σ.1 57 0 j) ∧ (if 3 = 3 ∧ 3 = 3 ∧ 7 * 0 + j = 7 * 0 + r then s else σ.1 3 (7 * 0 + j) 3) = (if 58 = 58 ∧ j = r ∧ 0 = 0 then s else σ.1 58 0 j) ∧ (if 3 = 3 ∧ 4 = 4 ∧ 7 * 0 + j = 7 * 0 + r then e else σ.1 3 (7 * 0 + j) 4) = (if 59 = 59 ∧ j = r ∧ 0 = 0 then e else σ.1 59 0 j)) ∧ 0 ≤ (if 57 = 57 ∧ j = r ∧ 0 = 0 then l else σ.1 57 0 j) ∧ (if 57 = 57 ∧ j = r ∧ 0 = 0 then l else σ.1 57 0 j) ≤ (if 56 = 56 ∧ j = r ∧ 0 = 0 then o else σ.1 56 0 j) ∧ (if 56 = 56 ∧ j = r ∧ 0 = 0 then o else σ.1 56 0 j) ≤ 99999 ∧ 0 ≤ (if 58 = 58 ∧ j = r ∧ 0 = 0 then s else σ.1 58 0 j) ∧ (if 58 = 58 ∧ j = r ∧ 0 = 0 then s else σ.1 58 0 j) ≤ 99 ∧ 0 ≤ (if 59 = 59 ∧ j = r ∧ 0 = 0 then e else σ.1 59 0 j) ∧ (if 59 = 59 ∧ j = r ∧ 0 = 0 then e else σ.1 59 0 j) ≤ 9999
    have ht : ¬ (if 55 = 55 ∧ j = r ∧ 0 = 0 then 1 else σ.1 55 0 j) = 0 := ht
    rw [ifk] at ht
    repeat rw [ifo7]
    repeat rw [ifk]
    by_cases q : j = r
    · (repeat rw [if_pos q]); exact ⟨⟨rfl, rfl, rfl, rfl⟩, hl.1, hl.2, ho.2, hs.1, hs.2, he.1, he.2⟩
    · (repeat rw [if_neg q]); rw [if_neg q] at ht; exact L3 j hj ht
theorem yp_lake {d : Nat} {σ : zS} (R : yRel σ) (r o l s e : Int) : yPi d 73 128 [.inl r, .inl o, .inl l, .inl s, .inl e] σ := by
  have L2 := R.2.2.1.2.1
  refine z2_73 (d := d + 57) (fun nb => ?_) (fun a b c f g t => ?_) (fun a b c f g t => ?_)
  · exact z2_128 (d := d + 57) (fun _ => ⟨⟨-2, rfl, rfl⟩, R⟩) (fun a1 a2 a3 a4 a5 a6 a7 a8 a9 _ => absurd (show _ from ⟨⟨a1.1, by omega⟩, ⟨by omega, by omega⟩, ⟨by omega, by omega⟩, ⟨by omega, by omega⟩, by omega, a9⟩) nb) (fun a1 a2 a3 a4 a5 a6 a7 a8 a9 _ => absurd (show _ from ⟨⟨a1.1, by omega⟩, ⟨by omega, by omega⟩, ⟨by omega, by omega⟩, ⟨by omega, by omega⟩, by omega, a9⟩) nb)
  · obtain ⟨r, rfl⟩ := Int.eq_ofNat_of_zero_le a.1
    have u := (L2 r (by omega)).1
    have F := yr_lake R (r := r) (by omega) b c f g
    exact z2_128 (d := d + 57) (fun nb => absurd ⟨a, b, c, f, g⟩ nb) (fun _ _ _ _ _ _ _ _ _ _ => ⟨⟨1, rfl, rfl⟩, F⟩) (fun _ _ _ _ _ _ _ _ _ q => absurd (u.symm.trans t) q)
  · obtain ⟨r, rfl⟩ := Int.eq_ofNat_of_zero_le a.1
    have u := (L2 r (by omega)).1
    have F := yr_lake R (r := r) (by omega) b c f g
    exact z2_128 (d := d + 57) (fun nb => absurd ⟨a, b, c, f, g⟩ nb) (fun _ _ _ _ _ _ _ _ _ q => absurd (u.trans q) t) (fun _ _ _ _ _ _ _ _ _ _ => ⟨⟨0, rfl, rfl⟩, F⟩)
theorem yp_release {d : Nat} {σ : zS} (R : yRel σ) (r n : Int) : yPi d 74 129 [.inl r, .inl n] σ := by
  obtain ⟨S, G, L, H, C, Tx, Ru, K, Tp, Sh, B⟩ := R
  have all : yRel σ := ⟨S, G, L, H, C, Tx, Ru, K, Tp, Sh, B⟩
  obtain ⟨L1, L2, L3⟩ := L
  refine z2_74 (d := d + 57) (fun nb => ?_) (fun a c t => ?_) (fun a c t => ?_)
  · exact z2_129 (d := d + 57) (fun _ => ⟨⟨-2, rfl, rfl⟩, all⟩) (fun a1 a2 a3 _ => absurd (show _ from ⟨⟨a1.1, by omega⟩, by omega, a3⟩) nb) (fun a1 a2 a3 _ => absurd (show _ from ⟨⟨a1.1, by omega⟩, by omega, a3⟩) nb)
  · obtain ⟨r, rfl⟩ := Int.eq_ofNat_of_zero_le a.1
    have u := (L2 r (by omega)).1
    have t2 : ¬ σ.1 55 0 r = 0 := fun q => t (u.trans q)
    refine z2_129 (d := d + 57) (fun nb => absurd ⟨a, c⟩ nb) (fun _ _ _ _ => ?_) (fun _ _ _ q => absurd q t2)
    refine ⟨⟨_, rfl, ?_⟩, S, G, ⟨L1, L2, fun j hj ht => ?_⟩, H, C, Tx, Ru, K, Tp, Sh, rBase_1 rfl⟩
    · show some (Sum.inl (σ.1 59 0 r)) = some (Sum.inl (σ.1 3 (7 * 0 + r) 4))
      rw [(L3 r (by omega) t2).1.2.2.2]
    · have M := L3 j hj ht
      show (_ ∧ _ ∧ _ ∧ (if 3 = 3 ∧ 4 = 4 ∧ 7 * 0 + j = 7 * 0 + r then n else σ.1 3 (7 * 0 + j) 4) = (if 59 = 59 ∧ j = r ∧ 0 = 0 then n else σ.1 59 0 j)) ∧ _ ∧ _ ∧ _ ∧ _ ∧ _ ∧ 0 ≤ (if 59 = 59 ∧ j = r ∧ 0 = 0 then n else σ.1 59 0 j) ∧ (if 59 = 59 ∧ j = r ∧ 0 = 0 then n else σ.1 59 0 j) ≤ 9999
      repeat rw [ifo7]
      repeat rw [ifk]
      by_cases q : j = r
      · (repeat rw [if_pos q]); exact ⟨⟨M.1.1, M.1.2.1, M.1.2.2.1, rfl⟩, M.2.1, M.2.2.1, M.2.2.2.1, M.2.2.2.2.1, M.2.2.2.2.2.1, c.1, c.2⟩
      · (repeat rw [if_neg q]); exact M
  · obtain ⟨r, rfl⟩ := Int.eq_ofNat_of_zero_le a.1
    have u := (L2 r (by omega)).1
    exact z2_129 (d := d + 57) (fun nb => absurd ⟨a, c⟩ nb) (fun _ _ _ q => absurd (u.symm.trans t) q) (fun _ _ _ _ => ⟨⟨-5, rfl, rfl⟩, all⟩)
theorem yr_hold {σ : zS} (R : yRel σ) {q : Nat} {k s r n e : Int} (hq : σ.1 10 0 4 = (q : Int)) (hq2 : q < 16) (P : (0 ≤ k ∧ k ≤ 5) ∧ (0 ≤ s ∧ s ≤ 3) ∧ (0 ≤ r ∧ r ≤ 6) ∧ (0 ≤ n ∧ n ≤ 9999 ∧ (k = 2 → n ≤ 100)) ∧ 0 ≤ e ∧ e ≤ 9999) : yRel (zU (zU (zU (zU (zU (zU (zU (zU (zU (zU (zU (zU (zU (zU (zU (zU (zU σ 1 (16 * 0 + q) 0 k) 1 (16 * 0 + q) 1 s) 1 (16 * 0 + q) 2 r) 1 (16 * 0 + q) 3 n) 1 (16 * 0 + q) 4 e) 1 (16 * 0 + q) 5 0) 1 (16 * 0 + q) 6 96) 0 0 4 1) 8 0 8 ((q + 1 : Nat) : Int)) 60 0 q k) 61 0 q s) 62 0 q r) 63 0 q n) 64 0 q e) 65 0 q 0) 66 0 q 96) 10 0 4 ((q + 1 : Nat) : Int)) := by
  obtain ⟨S, G, L, H, C, Tx, Ru, K, Tp, Sh, B⟩ := R
  have all : yRel σ := ⟨S, G, L, H, C, Tx, Ru, K, Tp, Sh, B⟩
  obtain ⟨H1, H2, H3⟩ := H
  obtain ⟨C1, C2⟩ := C
  refine ⟨S, G, L, ⟨⟨rfl, by show (0 : Int) ≤ ((q + 1 : Nat) : Int); omega, by show ((q + 1 : Nat) : Int) ≤ 16; omega⟩, fun h hh => ?_, fun h hh => ?_⟩, ⟨C1, fun c hc => ⟨(C2 c hc).1, ⟨(C2 c hc).2.1.1, ?_⟩, (C2 c hc).2.2⟩⟩, Tx, Ru, K, Tp, Sh, rBase_1 rfl⟩
  · have hh : (h : Int) < ((q + 1 : Nat) : Int) := hh
    show (if 1 = 1 ∧ 0 = 0 ∧ 16 * 0 + h = 16 * 0 + q then k else σ.1 1 (16 * 0 + h) 0) = (if 60 = 60 ∧ h = q ∧ 0 = 0 then k else σ.1 60 0 h) ∧ (if 1 = 1 ∧ 1 = 1 ∧ 16 * 0 + h = 16 * 0 + q then s else σ.1 1 (16 * 0 + h) 1) = (if 61 = 61 ∧ h = q ∧ 0 = 0 then s else σ.1 61 0 h) ∧ (if 1 = 1 ∧ 2 = 2 ∧ 16 * 0 + h = 16 * 0 + q then r else σ.1 1 (16 * 0 + h) 2) = (if 62 = 62 ∧ h = q ∧ 0 = 0 then r else σ.1 62 0 h) ∧ (if 1 = 1 ∧ 3 = 3 ∧ 16 * 0 + h = 16 * 0 + q then n else σ.1 1 (16 * 0 + h) 3) = (if 63 = 63 ∧ h = q ∧ 0 = 0 then n else σ.1 63 0 h) ∧ (if 1 = 1 ∧ 4 = 4 ∧ 16 * 0 + h = 16 * 0 + q then e else σ.1 1 (16 * 0 + h) 4) = (if 64 = 64 ∧ h = q ∧ 0 = 0 then e else σ.1 64 0 h) ∧ (if 1 = 1 ∧ 5 = 5 ∧ 16 * 0 + h = 16 * 0 + q then 0 else σ.1 1 (16 * 0 + h) 5) = (if 65 = 65 ∧ h = q ∧ 0 = 0 then 0 else σ.1 65 0 h) ∧ (if 1 = 1 ∧ 6 = 6 ∧ 16 * 0 + h = 16 * 0 + q then 96 else σ.1 1 (16 * 0 + h) 6) = (if 66 = 66 ∧ h = q ∧ 0 = 0 then 96 else σ.1 66 0 h)
    repeat rw [ifo16]
    repeat rw [ifk]
    by_cases f : h = q
    · (repeat rw [if_pos f]); exact ⟨rfl, rfl, rfl, rfl, rfl, rfl, rfl⟩
    · (repeat rw [if_neg f]); exact H2 h (by omega)
  · have hh : (h : Int) < ((q + 1 : Nat) : Int) := hh
    show (0 ≤ (if 60 = 60 ∧ h = q ∧ 0 = 0 then k else σ.1 60 0 h) ∧ (if 60 = 60 ∧ h = q ∧ 0 = 0 then k else σ.1 60 0 h) ≤ 5) ∧ (0 ≤ (if 61 = 61 ∧ h = q ∧ 0 = 0 then s else σ.1 61 0 h) ∧ (if 61 = 61 ∧ h = q ∧ 0 = 0 then s else σ.1 61 0 h) ≤ 3) ∧ (0 ≤ (if 62 = 62 ∧ h = q ∧ 0 = 0 then r else σ.1 62 0 h) ∧ (if 62 = 62 ∧ h = q ∧ 0 = 0 then r else σ.1 62 0 h) ≤ 6) ∧ (0 ≤ (if 63 = 63 ∧ h = q ∧ 0 = 0 then n else σ.1 63 0 h) ∧ (if 63 = 63 ∧ h = q ∧ 0 = 0 then n else σ.1 63 0 h) ≤ 9999 ∧ ((if 60 = 60 ∧ h = q ∧ 0 = 0 then k else σ.1 60 0 h) = 2 → (if 63 = 63 ∧ h = q ∧ 0 = 0 then n else σ.1 63 0 h) ≤ 100)) ∧ (0 ≤ (if 64 = 64 ∧ h = q ∧ 0 = 0 then e else σ.1 64 0 h) ∧ (if 64 = 64 ∧ h = q ∧ 0 = 0 then e else σ.1 64 0 h) ≤ 9999)
    repeat rw [ifk]
    by_cases f : h = q
    · (repeat rw [if_pos f]); exact P
    · (repeat rw [if_neg f]); exact H3 h (by omega)
  · have := (C2 c hc).2.1.2
    show σ.1 67 0 c < ((q + 1 : Nat) : Int)
    omega
theorem yp_hold {d : Nat} {σ : zS} (R : yRel σ) (k s r n e : Int) : yPi d 75 132 [.inl k, .inl s, .inl r, .inl n, .inl e] σ := by
  have H1 := R.2.2.2.1.1
  obtain ⟨q, hq⟩ := Int.eq_ofNat_of_zero_le H1.2.1
  have hq2 : σ.1 8 0 8 = (q : Int) := H1.1.trans hq
  refine z2_75 (d := d + 56) (fun _ _ => by omega) (fun nb => ?_) (fun P lt => ?_) (fun P lt => ?_)
  · exact z2_132 (d := d + 56) (fun P _ => absurd P nb) (fun _ => ⟨⟨-2, rfl, rfl⟩, R⟩) (fun P _ => absurd P nb) (fun P _ => absurd P nb)
  · rw [hq2] at lt
    rw [hq2, zWs (by omega), Int.toNat_natCast]
    have F := yr_hold R hq (by omega) P
    refine z2_132 (d := d + 56) (fun _ _ => by show 0 ≤ σ.1 10 0 4 ∧ σ.1 10 0 4 < 17; omega) (fun nb => absurd P nb) (fun _ _ => ?_) (fun _ f => absurd (show σ.1 10 0 4 = 16 from f) (by omega))
    rw [show (zU (zU (zU (zU (zU (zU (zU (zU (zU σ 1 (16 * 0 + q) 0 k) 1 (16 * 0 + q) 1 s) 1 (16 * 0 + q) 2 r) 1 (16 * 0 + q) 3 n) 1 (16 * 0 + q) 4 e) 1 (16 * 0 + q) 5 0) 1 (16 * 0 + q) 6 96) 0 0 4 1) 8 0 8 ((q + 1 : Nat) : Int)).1 10 0 4 = (q : Int) from hq, zWs (by omega), Int.toNat_natCast]
    exact ⟨⟨_, rfl, rfl⟩, F⟩
  · rw [hq2] at lt
    exact z2_132 (d := d + 56) (fun _ _ => by omega) (fun nb => absurd P nb) (fun _ f => absurd (show σ.1 10 0 4 = 16 by omega) f) (fun _ _ => ⟨⟨-4, rfl, rfl⟩, R⟩)
