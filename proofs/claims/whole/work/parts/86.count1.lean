-- bitCount (wip/whole/gen/laws59.py)
-- J6_bitCount_0f7a4
theorem zb_189 {d : Nat} {σ : zS} {Q : Option zV → zS → Prop} {x : Int}
    (h1 : Q (some (.inl (zBin 3 (zW ((zW ((zBin 3 (zW ((zW ((zBin 3 (zW (x - (zBin 3 (zBin 10 x 1) 1431655765))) 858993459) + (zBin 3 (zBin 10 (zW (x - (zBin 3 (zBin 10 x 1) 1431655765))) 2) 858993459))) + (zBin 10 (zW ((zBin 3 (zW (x - (zBin 3 (zBin 10 x 1) 1431655765))) 858993459) + (zBin 3 (zBin 10 (zW (x - (zBin 3 (zBin 10 x 1) 1431655765))) 2) 858993459))) 4))) 252645135) + (zBin 10 (zBin 3 (zW ((zW ((zBin 3 (zW (x - (zBin 3 (zBin 10 x 1) 1431655765))) 858993459) + (zBin 3 (zBin 10 (zW (x - (zBin 3 (zBin 10 x 1) 1431655765))) 2) 858993459))) + (zBin 10 (zW ((zBin 3 (zW (x - (zBin 3 (zBin 10 x 1) 1431655765))) 858993459) + (zBin 3 (zBin 10 (zW (x - (zBin 3 (zBin 10 x 1) 1431655765))) 2) 858993459))) 4))) 252645135) 8))) + (zBin 10 (zW ((zBin 3 (zW ((zW ((zBin 3 (zW (x - (zBin 3 (zBin 10 x 1) 1431655765))) 858993459) + (zBin 3 (zBin 10 (zW (x - (zBin 3 (zBin 10 x 1) 1431655765))) 2) 858993459))) + (zBin 10 (zW ((zBin 3 (zW (x - (zBin 3 (zBin 10 x 1) 1431655765))) 858993459) + (zBin 3 (zBin 10 (zW (x - (zBin 3 (zBin 10 x 1) 1431655765))) 2) 858993459))) 4))) 252645135) + (zBin 10 (zBin 3 (zW ((zW ((zBin 3 (zW (x - (zBin 3 (zBin 10 x 1) 1431655765))) 858993459) + (zBin 3 (zBin 10 (zW (x - (zBin 3 (zBin 10 x 1) 1431655765))) 2) 858993459))) + (zBin 10 (zW ((zBin 3 (zW (x - (zBin 3 (zBin 10 x 1) 1431655765))) 858993459) + (zBin 3 (zBin 10 (zW (x - (zBin 3 (zBin 10 x 1) 1431655765))) 2) 858993459))) 4))) 252645135) 8))) 16))) 63))) σ) :
    zM (d + 0) 189 [.inl x] σ Q := by
  refine zX_run (n' := 41) (ls' := [some (.inl (zW ((zW ((zBin 3 (zW ((zW ((zBin 3 (zW (x - (zBin 3 (zBin 10 x 1) 1431655765))) 858993459) + (zBin 3 (zBin 10 (zW (x - (zBin 3 (zBin 10 x 1) 1431655765))) 2) 858993459))) + (zBin 10 (zW ((zBin 3 (zW (x - (zBin 3 (zBin 10 x 1) 1431655765))) 858993459) + (zBin 3 (zBin 10 (zW (x - (zBin 3 (zBin 10 x 1) 1431655765))) 2) 858993459))) 4))) 252645135) + (zBin 10 (zBin 3 (zW ((zW ((zBin 3 (zW (x - (zBin 3 (zBin 10 x 1) 1431655765))) 858993459) + (zBin 3 (zBin 10 (zW (x - (zBin 3 (zBin 10 x 1) 1431655765))) 2) 858993459))) + (zBin 10 (zW ((zBin 3 (zW (x - (zBin 3 (zBin 10 x 1) 1431655765))) 858993459) + (zBin 3 (zBin 10 (zW (x - (zBin 3 (zBin 10 x 1) 1431655765))) 2) 858993459))) 4))) 252645135) 8))) + (zBin 10 (zW ((zBin 3 (zW ((zW ((zBin 3 (zW (x - (zBin 3 (zBin 10 x 1) 1431655765))) 858993459) + (zBin 3 (zBin 10 (zW (x - (zBin 3 (zBin 10 x 1) 1431655765))) 2) 858993459))) + (zBin 10 (zW ((zBin 3 (zW (x - (zBin 3 (zBin 10 x 1) 1431655765))) 858993459) + (zBin 3 (zBin 10 (zW (x - (zBin 3 (zBin 10 x 1) 1431655765))) 2) 858993459))) 4))) 252645135) + (zBin 10 (zBin 3 (zW ((zW ((zBin 3 (zW (x - (zBin 3 (zBin 10 x 1) 1431655765))) 858993459) + (zBin 3 (zBin 10 (zW (x - (zBin 3 (zBin 10 x 1) 1431655765))) 2) 858993459))) + (zBin 10 (zW ((zBin 3 (zW (x - (zBin 3 (zBin 10 x 1) 1431655765))) 858993459) + (zBin 3 (zBin 10 (zW (x - (zBin 3 (zBin 10 x 1) 1431655765))) 2) 858993459))) 4))) 252645135) 8))) 16))))]) (st' := [.inl (zBin 3 (zW ((zW ((zBin 3 (zW ((zW ((zBin 3 (zW (x - (zBin 3 (zBin 10 x 1) 1431655765))) 858993459) + (zBin 3 (zBin 10 (zW (x - (zBin 3 (zBin 10 x 1) 1431655765))) 2) 858993459))) + (zBin 10 (zW ((zBin 3 (zW (x - (zBin 3 (zBin 10 x 1) 1431655765))) 858993459) + (zBin 3 (zBin 10 (zW (x - (zBin 3 (zBin 10 x 1) 1431655765))) 2) 858993459))) 4))) 252645135) + (zBin 10 (zBin 3 (zW ((zW ((zBin 3 (zW (x - (zBin 3 (zBin 10 x 1) 1431655765))) 858993459) + (zBin 3 (zBin 10 (zW (x - (zBin 3 (zBin 10 x 1) 1431655765))) 2) 858993459))) + (zBin 10 (zW ((zBin 3 (zW (x - (zBin 3 (zBin 10 x 1) 1431655765))) 858993459) + (zBin 3 (zBin 10 (zW (x - (zBin 3 (zBin 10 x 1) 1431655765))) 2) 858993459))) 4))) 252645135) 8))) + (zBin 10 (zW ((zBin 3 (zW ((zW ((zBin 3 (zW (x - (zBin 3 (zBin 10 x 1) 1431655765))) 858993459) + (zBin 3 (zBin 10 (zW (x - (zBin 3 (zBin 10 x 1) 1431655765))) 2) 858993459))) + (zBin 10 (zW ((zBin 3 (zW (x - (zBin 3 (zBin 10 x 1) 1431655765))) 858993459) + (zBin 3 (zBin 10 (zW (x - (zBin 3 (zBin 10 x 1) 1431655765))) 2) 858993459))) 4))) 252645135) + (zBin 10 (zBin 3 (zW ((zW ((zBin 3 (zW (x - (zBin 3 (zBin 10 x 1) 1431655765))) 858993459) + (zBin 3 (zBin 10 (zW (x - (zBin 3 (zBin 10 x 1) 1431655765))) 2) 858993459))) + (zBin 10 (zW ((zBin 3 (zW (x - (zBin 3 (zBin 10 x 1) 1431655765))) 858993459) + (zBin 3 (zBin 10 (zW (x - (zBin 3 (zBin 10 x 1) 1431655765))) 2) 858993459))) 4))) 252645135) 8))) 16))) 63)]) (σ' := σ) 41 rfl ?_
  exact zX_ret rfl rfl h1
theorem zUsh {x h : Nat} (hx : x < 2 ^ 31) (hh : h < 31) (hs : (((nI h).toUInt32 &&& Int32.toUInt32 31).toBitVec % 32).toNat = h) : zBin 10 (x : Int) (h : Int) = ((x / 2 ^ h : Nat) : Int) := by
  show (((nI x).toUInt32 >>> ((nI h).toUInt32 &&& Int32.toUInt32 31)).toInt32).toInt = _
  rw [pk_ushrN (by omega) _ h hs, nI_toInt (Nat.lt_of_le_of_lt (Nat.div_le_self _ _) hx)]
theorem zWd {x y : Nat} (h : y ≤ x) (hx : x < 65536) : zW ((x : Int) - (y : Int)) = ((x - y : Nat) : Int) := by unfold zW; omega
theorem zWp {y z : Nat} (h : y + z < 400000) : zW ((y : Int) + (z : Int)) = ((y + z : Nat) : Int) := by unfold zW; omega
theorem zUs {x h p : Nat} {k : Int} (hk : k = (h : Int)) (hx : x < 400000) (hp : 2 ^ h = p) (hh : h < 31) (hs : (((nI h).toUInt32 &&& Int32.toUInt32 31).toBitVec % 32).toNat = h) : zBin 10 (x : Int) k = ((x / p : Nat) : Int) := by
  rw [← hp, hk]; exact zUsh (Nat.lt_of_lt_of_le hx (by decide)) hh hs
theorem zAn {x y : Nat} {k : Int} (hk : k = (y : Int)) (hx : x < 400000) : zBin 3 (x : Int) k = ((x &&& y : Nat) : Int) := by
  rw [hk]; exact zAnd (Nat.lt_of_lt_of_le hx (by decide))
theorem bc_c {c : Nat} (h : c < 131072) : c + c / 16 < 400000 ∧ bc3 c < 150000 := by
  have k := @Nat.and_le_left (c + c / 16) 252645135
  have e : bc3 c = (c + c / 16) &&& 252645135 := rfl
  rw [e]
  generalize (c + c / 16) &&& 252645135 = y at *
  omega
theorem bc_d {e : Nat} (h : e < 150000) : e + e / 256 < 200000 := by omega
theorem bc_e {e : Nat} (h : e < 200000) : e + e / 65536 < 400000 := by omega
/-- the machine's counting, step by step -/
theorem bc_z {x : Nat} (hx : x < 65536) : (zBin 3 (zW ((zW ((zBin 3 (zW ((zW ((zBin 3 (zW ((x : Int) - (zBin 3 (zBin 10 (x : Int) 1) 1431655765))) 858993459) + (zBin 3 (zBin 10 (zW ((x : Int) - (zBin 3 (zBin 10 (x : Int) 1) 1431655765))) 2) 858993459))) + (zBin 10 (zW ((zBin 3 (zW ((x : Int) - (zBin 3 (zBin 10 (x : Int) 1) 1431655765))) 858993459) + (zBin 3 (zBin 10 (zW ((x : Int) - (zBin 3 (zBin 10 (x : Int) 1) 1431655765))) 2) 858993459))) 4))) 252645135) + (zBin 10 (zBin 3 (zW ((zW ((zBin 3 (zW ((x : Int) - (zBin 3 (zBin 10 (x : Int) 1) 1431655765))) 858993459) + (zBin 3 (zBin 10 (zW ((x : Int) - (zBin 3 (zBin 10 (x : Int) 1) 1431655765))) 2) 858993459))) + (zBin 10 (zW ((zBin 3 (zW ((x : Int) - (zBin 3 (zBin 10 (x : Int) 1) 1431655765))) 858993459) + (zBin 3 (zBin 10 (zW ((x : Int) - (zBin 3 (zBin 10 (x : Int) 1) 1431655765))) 2) 858993459))) 4))) 252645135) 8))) + (zBin 10 (zW ((zBin 3 (zW ((zW ((zBin 3 (zW ((x : Int) - (zBin 3 (zBin 10 (x : Int) 1) 1431655765))) 858993459) + (zBin 3 (zBin 10 (zW ((x : Int) - (zBin 3 (zBin 10 (x : Int) 1) 1431655765))) 2) 858993459))) + (zBin 10 (zW ((zBin 3 (zW ((x : Int) - (zBin 3 (zBin 10 (x : Int) 1) 1431655765))) 858993459) + (zBin 3 (zBin 10 (zW ((x : Int) - (zBin 3 (zBin 10 (x : Int) 1) 1431655765))) 2) 858993459))) 4))) 252645135) + (zBin 10 (zBin 3 (zW ((zW ((zBin 3 (zW ((x : Int) - (zBin 3 (zBin 10 (x : Int) 1) 1431655765))) 858993459) + (zBin 3 (zBin 10 (zW ((x : Int) - (zBin 3 (zBin 10 (x : Int) 1) 1431655765))) 2) 858993459))) + (zBin 10 (zW ((zBin 3 (zW ((x : Int) - (zBin 3 (zBin 10 (x : Int) 1) 1431655765))) 858993459) + (zBin 3 (zBin 10 (zW ((x : Int) - (zBin 3 (zBin 10 (x : Int) 1) 1431655765))) 2) 858993459))) 4))) 252645135) 8))) 16))) 63) = (nPc 16 x : Int) := by
  have hx4 : x < 400000 := Nat.lt_trans hx (by decide)
  have LE := (bc_eq hx).1
  have B := bc_b hx
  rw [zUs (h := 1) (p := 2) (k := 1) rfl hx4 rfl (by decide) (by decide), zAn (y := 1431655765) (k := 1431655765) rfl (Nat.lt_of_le_of_lt (Nat.div_le_self _ _) hx4), zWd LE hx]
  show zBin 3 (zW ((zW ((zBin 3 (zW ((zW ((zBin 3 ((bc1 x : Nat) : Int) 858993459) + (zBin 3 (zBin 10 ((bc1 x : Nat) : Int) 2) 858993459))) + (zBin 10 (zW ((zBin 3 ((bc1 x : Nat) : Int) 858993459) + (zBin 3 (zBin 10 ((bc1 x : Nat) : Int) 2) 858993459))) 4))) 252645135) + (zBin 10 (zBin 3 (zW ((zW ((zBin 3 ((bc1 x : Nat) : Int) 858993459) + (zBin 3 (zBin 10 ((bc1 x : Nat) : Int) 2) 858993459))) + (zBin 10 (zW ((zBin 3 ((bc1 x : Nat) : Int) 858993459) + (zBin 3 (zBin 10 ((bc1 x : Nat) : Int) 2) 858993459))) 4))) 252645135) 8))) + (zBin 10 (zW ((zBin 3 (zW ((zW ((zBin 3 ((bc1 x : Nat) : Int) 858993459) + (zBin 3 (zBin 10 ((bc1 x : Nat) : Int) 2) 858993459))) + (zBin 10 (zW ((zBin 3 ((bc1 x : Nat) : Int) 858993459) + (zBin 3 (zBin 10 ((bc1 x : Nat) : Int) 2) 858993459))) 4))) 252645135) + (zBin 10 (zBin 3 (zW ((zW ((zBin 3 ((bc1 x : Nat) : Int) 858993459) + (zBin 3 (zBin 10 ((bc1 x : Nat) : Int) 2) 858993459))) + (zBin 10 (zW ((zBin 3 ((bc1 x : Nat) : Int) 858993459) + (zBin 3 (zBin 10 ((bc1 x : Nat) : Int) 2) 858993459))) 4))) 252645135) 8))) 16))) 63 = _
  rw [← (bc_eq hx).2]
  have B1 : bc1 x < 400000 := Nat.lt_trans B.1 (by decide)
  have B2 := B.2
  clear LE B hx4
  generalize bc1 x = b at *
  rw [zUs (h := 2) (p := 4) (k := 2) rfl B1 rfl (by decide) (by decide), zAn (y := 858993459) (k := 858993459) rfl B1, zAn (y := 858993459) (k := 858993459) rfl (Nat.lt_of_le_of_lt (Nat.div_le_self _ _) B1), zWp (Nat.lt_trans (show (b &&& 858993459) + (b / 4 &&& 858993459) < 131072 from B2) (by decide))]
  rw [show (b &&& 858993459) + (b / 4 &&& 858993459) = bc2 b from rfl]
  generalize bc2 b = c at *
  have C := bc_c B2
  have c4 : c < 400000 := Nat.lt_trans B2 (by decide)
  rw [zUs (h := 4) (p := 16) (k := 4) rfl c4 rfl (by decide) (by decide), zWp C.1, zAn (y := 252645135) (k := 252645135) rfl C.1]
  rw [show (c + c / 16) &&& 252645135 = bc3 c from rfl]
  have C2 := C.2
  clear C c4 B1 B2
  generalize bc3 c = e at *
  have e4 : e < 400000 := Nat.lt_trans C2 (by decide)
  rw [zUs (h := 8) (p := 256) (k := 8) rfl e4 rfl (by decide) (by decide), zWp (Nat.lt_trans (bc_d C2) (by decide))]
  rw [show e + e / 256 = bc4 e from rfl]
  have F : bc4 e < 200000 := bc_d C2
  clear C2 e4
  generalize bc4 e = f at *
  have f4 : f < 400000 := Nat.lt_trans F (by decide)
  rw [zUs (h := 16) (p := 65536) (k := 16) rfl f4 rfl (by decide) (by decide), zWp (bc_e F), zAn (y := 63) (k := 63) rfl (bc_e F)]
  rfl
theorem zs_189 {d : Nat} {σ : zS} {Q : Option zV → zS → Prop} {x : Nat} (hx : x < 65536) (q : Q (some (.inl (nPc 16 x : Int))) σ) : zM (d + 0) 189 [.inl (x : Int)] σ Q := by
  refine zb_189 (d := d) ?_
  rw [bc_z hx]
  exact q
