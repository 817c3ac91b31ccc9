-- calls that only tell: holds, calls, rules (wip/whole/gen/p58.py)
theorem yr_force {σ : zS} (R : yRel σ) {q : Nat} {a b : Int} : yRel (zU (zU (zU (zU (zU σ 1 (16 * 0 + q) 5 a) 1 (16 * 0 + q) 6 b) 0 0 4 1) 65 0 q a) 66 0 q b) := by
  obtain ⟨S, G, L, H, C, Tx, Ru, K, Tp, Sh, B⟩ := R
  obtain ⟨H1, H2, H3⟩ := H
  refine ⟨S, G, L, ⟨H1, fun h hh => ?_, H3⟩, C, Tx, Ru, K, Tp, Sh, rBase_1 rfl⟩
  have M := H2 h hh
  show _ ∧ _ ∧ _ ∧ _ ∧ _ ∧ (if 1 = 1 ∧ 5 = 5 ∧ 16 * 0 + h = 16 * 0 + q then a else σ.1 1 (16 * 0 + h) 5) = (if 65 = 65 ∧ h = q ∧ 0 = 0 then a else σ.1 65 0 h) ∧ (if 1 = 1 ∧ 6 = 6 ∧ 16 * 0 + h = 16 * 0 + q then b else σ.1 1 (16 * 0 + h) 6) = (if 66 = 66 ∧ h = q ∧ 0 = 0 then b else σ.1 66 0 h)
  repeat rw [ifo16]
  repeat rw [ifk]
  by_cases f : h = q
  · (repeat rw [if_pos f]); exact ⟨M.1, M.2.1, M.2.2.1, M.2.2.2.1, M.2.2.2.2.1, rfl, rfl⟩
  · (repeat rw [if_neg f]); exact M
theorem yp_force {d : Nat} {σ : zS} (R : yRel σ) (p a b : Int) : yPi d 76 134 [.inl p, .inl a, .inl b] σ := by
  have H1 := R.2.2.2.1.1
  have e := H1.1
  refine zb_76 (d := d + 57) (by omega) (fun q _ => by omega) (fun q q2 => ?_) (fun q q2 => ?_) (fun q => ?_)
  · obtain ⟨p, rfl⟩ := Int.eq_ofNat_of_zero_le q.1
    have F := yr_force R (q := p) (a := a) (b := b)
    exact zb_134 (d := d + 57) (fun q _ => ⟨q.1, by have := q.2; have := H1.2.2; show (p : Int) < 17; exact Int.lt_of_lt_of_le (show (p : Int) < σ.1 10 0 4 from q.2) (by omega)⟩) (fun _ _ => ⟨⟨_, rfl, rfl⟩, F⟩) (fun _ n => absurd q2 n) (fun n => absurd (show 0 ≤ (p : Int) ∧ (p : Int) < σ.1 10 0 4 by omega) n)
  · exact zb_134 (d := d + 57) (fun _ n => absurd n q2) (fun _ n => absurd n q2) (fun _ _ => ⟨⟨_, rfl, rfl⟩, R⟩) (fun n => absurd (show 0 ≤ p ∧ p < σ.1 10 0 4 by omega) n)
  · exact zb_134 (d := d + 57) (fun n _ => absurd (by omega) q) (fun n _ => absurd (by omega) q) (fun n _ => absurd (by omega) q) (fun _ => ⟨⟨_, rfl, rfl⟩, R⟩)
theorem yp_told {d : Nat} {σ : zS} (R : yRel σ) (p w : Int) : yPi d 77 137 [.inl p, .inl w] σ := by
  have H := R.2.2.2.1
  obtain ⟨H1, H2, H3⟩ := H
  have e := H1.1
  have u := H1.2.2
  have n7 : ∀ {w : Prop}, 0 ≤ p ∧ p < σ.1 10 0 4 → w → 0 ≤ p ∧ p < 17 := fun q _ => by omega
  refine zb_77 (d := d + 57) (by omega) (fun q => by omega) (fun q _ => ?_) (fun q f => ?_) (fun q f => ?_) (fun q f => ?_) (fun q f => ?_) (fun q f => ?_) (fun q f => ?_) (fun q f => ?_) (fun q f => ?_) (fun q => ?_)
  · have M := H2 p.toNat (by omega)
    have P := (H3 p.toNat (by omega)).1
    rw [show σ.1 1 (16 * 0 + p.toNat) 0 = _ from M.1]; exact P
  · exact zb_137 (d := d + 57) n7 n7 n7 n7 n7 n7 n7 (fun _ _ => ⟨⟨_, rfl, rfl⟩, R⟩) (fun _ g => by omega) (fun _ g => by omega) (fun _ g => by omega) (fun _ g => by omega) (fun _ g => by omega) (fun _ g => by omega) (fun _ g => by omega) (fun n => absurd (show 0 ≤ p ∧ p < σ.1 10 0 4 by omega) n)
  · have M := H2 p.toNat (by omega)
    exact zb_137 (d := d + 57) n7 n7 n7 n7 n7 n7 n7 (fun _ g => by omega) (fun _ _ => ⟨⟨_, rfl, congrArg (fun x => some (Sum.inl x)) M.1.symm⟩, R⟩) (fun _ g => by omega) (fun _ g => by omega) (fun _ g => by omega) (fun _ g => by omega) (fun _ g => by omega) (fun _ g => by omega) (fun n => absurd (show 0 ≤ p ∧ p < σ.1 10 0 4 by omega) n)
  · have M := H2 p.toNat (by omega)
    exact zb_137 (d := d + 57) n7 n7 n7 n7 n7 n7 n7 (fun _ g => by omega) (fun _ g => by omega) (fun _ _ => ⟨⟨_, rfl, congrArg (fun x => some (Sum.inl x)) M.2.1.symm⟩, R⟩) (fun _ g => by omega) (fun _ g => by omega) (fun _ g => by omega) (fun _ g => by omega) (fun _ g => by omega) (fun n => absurd (show 0 ≤ p ∧ p < σ.1 10 0 4 by omega) n)
  · have M := H2 p.toNat (by omega)
    exact zb_137 (d := d + 57) n7 n7 n7 n7 n7 n7 n7 (fun _ g => by omega) (fun _ g => by omega) (fun _ g => by omega) (fun _ _ => ⟨⟨_, rfl, congrArg (fun x => some (Sum.inl x)) M.2.2.1.symm⟩, R⟩) (fun _ g => by omega) (fun _ g => by omega) (fun _ g => by omega) (fun _ g => by omega) (fun n => absurd (show 0 ≤ p ∧ p < σ.1 10 0 4 by omega) n)
  · have M := H2 p.toNat (by omega)
    exact zb_137 (d := d + 57) n7 n7 n7 n7 n7 n7 n7 (fun _ g => by omega) (fun _ g => by omega) (fun _ g => by omega) (fun _ g => by omega) (fun _ _ => ⟨⟨_, rfl, congrArg (fun x => some (Sum.inl x)) M.2.2.2.1.symm⟩, R⟩) (fun _ g => by omega) (fun _ g => by omega) (fun _ g => by omega) (fun n => absurd (show 0 ≤ p ∧ p < σ.1 10 0 4 by omega) n)
  · have M := H2 p.toNat (by omega)
    exact zb_137 (d := d + 57) n7 n7 n7 n7 n7 n7 n7 (fun _ g => by omega) (fun _ g => by omega) (fun _ g => by omega) (fun _ g => by omega) (fun _ g => by omega) (fun _ _ => ⟨⟨_, rfl, congrArg (fun x => some (Sum.inl x)) M.2.2.2.2.1.symm⟩, R⟩) (fun _ g => by omega) (fun _ g => by omega) (fun n => absurd (show 0 ≤ p ∧ p < σ.1 10 0 4 by omega) n)
  · have M := H2 p.toNat (by omega)
    exact zb_137 (d := d + 57) n7 n7 n7 n7 n7 n7 n7 (fun _ g => by omega) (fun _ g => by omega) (fun _ g => by omega) (fun _ g => by omega) (fun _ g => by omega) (fun _ g => by omega) (fun _ _ => ⟨⟨_, rfl, by rw [← M.1, ← M.2.2.2.2.1]; rfl⟩, R⟩) (fun _ g => by omega) (fun n => absurd (show 0 ≤ p ∧ p < σ.1 10 0 4 by omega) n)
  · have M := H2 p.toNat (by omega)
    exact zb_137 (d := d + 57) n7 n7 n7 n7 n7 n7 n7 (fun _ g => by omega) (fun _ g => by omega) (fun _ g => by omega) (fun _ g => by omega) (fun _ g => by omega) (fun _ g => by omega) (fun _ g => by omega) (fun _ _ => ⟨⟨_, rfl, by rw [← M.1]; rfl⟩, R⟩) (fun n => absurd (show 0 ≤ p ∧ p < σ.1 10 0 4 by omega) n)
  · exact zb_137 (d := d + 57) n7 n7 n7 n7 n7 n7 n7 (fun n _ => absurd (by omega) q) (fun n _ => absurd (by omega) q) (fun n _ => absurd (by omega) q) (fun n _ => absurd (by omega) q) (fun n _ => absurd (by omega) q) (fun n _ => absurd (by omega) q) (fun n _ => absurd (by omega) q) (fun n _ => absurd (by omega) q) (fun _ => ⟨⟨_, rfl, rfl⟩, R⟩)
theorem yr_call {σ : zS} (R : yRel σ) {q : Nat} {p m : Int} (hq : σ.1 10 0 5 = (q : Int)) (hq2 : q < 16) (hp : 0 ≤ p ∧ p < σ.1 10 0 4) (hm : 0 ≤ m ∧ m < 96) : yRel (zU (zU (zU (zU (zU (zU (zU σ 40 0 q p) 41 0 q m) 0 0 4 1) 8 0 11 ((q + 1 : Nat) : Int)) 67 0 q p) 68 0 q m) 10 0 5 ((q + 1 : Nat) : Int)) := by
  obtain ⟨S, G, L, H, C, Tx, Ru, K, Tp, Sh, B⟩ := R
  obtain ⟨C1, C2⟩ := C
  refine ⟨S, G, L, H, ⟨⟨rfl, by show (0 : Int) ≤ ((q + 1 : Nat) : Int); omega, by show ((q + 1 : Nat) : Int) ≤ 16; omega⟩, fun c hc => ?_⟩, Tx, Ru, K, Tp, Sh, rBase_1 rfl⟩
  have hc : (c : Int) < ((q + 1 : Nat) : Int) := hc
  show ((if 40 = 40 ∧ c = q ∧ 0 = 0 then p else σ.1 40 0 c) = (if 67 = 67 ∧ c = q ∧ 0 = 0 then p else σ.1 67 0 c) ∧ (if 41 = 41 ∧ c = q ∧ 0 = 0 then m else σ.1 41 0 c) = (if 68 = 68 ∧ c = q ∧ 0 = 0 then m else σ.1 68 0 c)) ∧ (0 ≤ (if 67 = 67 ∧ c = q ∧ 0 = 0 then p else σ.1 67 0 c) ∧ (if 67 = 67 ∧ c = q ∧ 0 = 0 then p else σ.1 67 0 c) < σ.1 10 0 4) ∧ 0 ≤ (if 68 = 68 ∧ c = q ∧ 0 = 0 then m else σ.1 68 0 c) ∧ (if 68 = 68 ∧ c = q ∧ 0 = 0 then m else σ.1 68 0 c) < 96
  repeat rw [ifk]
  by_cases f : c = q
  · (repeat rw [if_pos f]); exact ⟨⟨rfl, rfl⟩, hp, hm⟩
  · (repeat rw [if_neg f]); exact C2 c (by omega)
theorem yp_call {d : Nat} {σ : zS} (R : yRel σ) (p m : Int) : yPi d 80 139 [.inl p, .inl m] σ := by
  have H1 := R.2.2.2.1.1
  have C1 := R.2.2.2.2.1.1
  have e := H1.1
  obtain ⟨q, hq⟩ := Int.eq_ofNat_of_zero_le C1.2.1
  have hq2 : σ.1 8 0 11 = (q : Int) := C1.1.trans hq
  refine zb_80 (d := d + 57) (by omega) (fun _ _ f => by omega) (fun a b f => ?_) (fun a b f => ?_) (fun a b => ?_) (fun a => ?_)
  · rw [hq2] at f
    rw [hq2, zWs (by omega), Int.toNat_natCast]
    have F := yr_call R hq (p := p) (m := m) (by omega) (by omega) (by omega)
    refine zb_139 (d := d + 57) (fun _ _ _ => by show 0 ≤ σ.1 10 0 5 ∧ σ.1 10 0 5 < 16; omega) (fun _ _ _ => ?_) (fun _ _ g => absurd (show σ.1 10 0 5 = 16 from g) (by omega)) (fun _ n => absurd (show 0 ≤ m ∧ m < 96 by omega) n) (fun n => absurd (show 0 ≤ p ∧ p < σ.1 10 0 4 by omega) n)
    rw [show (zU (zU (zU (zU σ 40 0 q p) 41 0 q m) 0 0 4 1) 8 0 11 ((q + 1 : Nat) : Int)).1 10 0 5 = (q : Int) from hq, zWs (by omega), Int.toNat_natCast]
    exact ⟨⟨_, rfl, rfl⟩, F⟩
  · exact zb_139 (d := d + 57) (fun _ _ _ => by omega) (fun _ _ _ => by omega) (fun _ _ _ => ⟨⟨_, rfl, rfl⟩, R⟩) (fun _ n => absurd (show 0 ≤ m ∧ m < 96 by omega) n) (fun n => absurd (show 0 ≤ p ∧ p < σ.1 10 0 4 by omega) n)
  · exact zb_139 (d := d + 57) (fun _ n _ => absurd (by omega) b) (fun _ n _ => absurd (by omega) b) (fun _ n _ => absurd (by omega) b) (fun _ _ => ⟨⟨_, rfl, rfl⟩, R⟩) (fun n => absurd (show 0 ≤ p ∧ p < σ.1 10 0 4 by omega) n)
  · exact zb_139 (d := d + 57) (fun n _ _ => absurd (by omega) a) (fun n _ _ => absurd (by omega) a) (fun n _ _ => absurd (by omega) a) (fun n _ => absurd (by omega) a) (fun _ => ⟨⟨_, rfl, rfl⟩, R⟩)
theorem yr_rule {σ : zS} (R : yRel σ) {s : Nat} {t : Int} (ht : 0 ≤ t ∧ t < σ.1 10 0 6) : yRel (zU (zU (zU σ 43 0 s t) 0 0 4 1) 70 0 s t) := by
  obtain ⟨S, G, L, H, C, Tx, Ru, K, Tp, Sh, B⟩ := R
  refine ⟨S, G, L, H, C, Tx, fun j hj => ?_, K, Tp, Sh, rBase_1 rfl⟩
  show (if 43 = 43 ∧ j = s ∧ 0 = 0 then t else σ.1 43 0 j) = (if 70 = 70 ∧ j = s ∧ 0 = 0 then t else σ.1 70 0 j) ∧ 0 ≤ (if 70 = 70 ∧ j = s ∧ 0 = 0 then t else σ.1 70 0 j) ∧ (if 70 = 70 ∧ j = s ∧ 0 = 0 then t else σ.1 70 0 j) < σ.1 10 0 6
  repeat rw [ifk]
  by_cases f : j = s
  · (repeat rw [if_pos f]); exact ⟨rfl, ht⟩
  · (repeat rw [if_neg f]); exact Ru j hj
theorem yp_rule {d : Nat} {σ : zS} (R : yRel σ) (s t : Int) : yPi d 84 152 [.inl s, .inl t] σ := by
  have T1 := R.2.2.2.2.2.1.1
  have Ru := R.2.2.2.2.2.2.1
  have e := T1.1
  refine zb_84 (d := d + 57) (fun _ => by omega) (fun _ _ => by omega) (fun a b => ?_) (fun a b => ?_) (fun a => ?_)
  · obtain ⟨s, rfl⟩ := Int.eq_ofNat_of_zero_le a.1
    have F := yr_rule R (s := s) (t := t) (by omega)
    exact zb_152 (d := d + 57) (fun _ _ _ _ => by omega) (fun n => by omega) (fun _ n => by omega) (fun _ _ n => by omega) (fun _ _ _ _ => ⟨⟨_, rfl, congrArg (fun x => some (Sum.inl x)) (Ru s (by omega)).1.symm⟩, F⟩) (fun _ _ _ n => absurd (show t < σ.1 10 0 6 by omega) n)
  · exact zb_152 (d := d + 57) (fun _ _ _ _ => by omega) (fun n => by omega) (fun _ n => by omega) (fun _ _ _ => ⟨⟨_, rfl, rfl⟩, R⟩) (fun _ _ _ n => by omega) (fun _ _ _ _ => ⟨⟨_, rfl, rfl⟩, R⟩)
  · exact zb_152 (d := d + 57) (fun _ _ _ _ => by omega) (fun _ => ⟨⟨_, rfl, rfl⟩, R⟩) (fun _ _ => ⟨⟨_, rfl, rfl⟩, R⟩) (fun _ _ _ => by omega) (fun _ _ _ _ => by omega) (fun _ _ _ _ => by omega)
