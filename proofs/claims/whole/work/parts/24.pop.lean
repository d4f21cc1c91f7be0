def bc1 (x : Int) : Int := x - zand (zushr x 1) 1431655765
def bc2 (x : Int) : Int := zand (bc1 x) 858993459 + zand (zushr (bc1 x) 2) 858993459
def bc3 (x : Int) : Int := zand (bc2 x + zushr (bc2 x) 4) 252645135
def bc4 (x : Int) : Int := bc3 x + zushr (bc3 x) 8
def bc5 (x : Int) : Int := bc4 x + zushr (bc4 x) 16
def zpop (x : Int) : Int := (if zbt x 0 then 1 else 0) + (if zbt x 1 then 1 else 0) + (if zbt x 2 then 1 else 0) + (if zbt x 3 then 1 else 0) + (if zbt x 4 then 1 else 0) + (if zbt x 5 then 1 else 0) + (if zbt x 6 then 1 else 0) + (if zbt x 7 then 1 else 0) + (if zbt x 8 then 1 else 0) + (if zbt x 9 then 1 else 0) + (if zbt x 10 then 1 else 0) + (if zbt x 11 then 1 else 0)
def bcchk (n : Nat) : Bool := decide (zand (bc5 (n : Int)) 63 = zpop (n : Int))
theorem bc_all : (List.range 4096).all bcchk = true := by decide +kernel
theorem bc_ok {x : Int} (h0 : 0 ≤ x) (h : x < 4096) : zand (bc5 x) 63 = zpop x := by
  obtain ⟨n, rfl⟩ := zi_of h0
  exact of_decide_eq_true (List.all_eq_true.mp bc_all n (List.mem_range.mpr (by omega)))
def orchk (p : Nat) : Bool := (List.range (2 ^ p)).all (fun b => decide (zor (b : Int) (zshl 1 (p : Int)) = (b : Int) + ((2 ^ p : Nat) : Int) ∧ zpop ((b : Int) + ((2 ^ p : Nat) : Int)) = zpop (b : Int) + 1))
theorem or_all : (List.range 12).all orchk = true := by decide +kernel
theorem or_ok {p : Nat} {b : Int} (hp : p < 12) (h0 : 0 ≤ b) (h : b < ((2 ^ p : Nat) : Int)) : zor b (zshl 1 p) = b + ((2 ^ p : Nat) : Int) ∧ zpop (b + ((2 ^ p : Nat) : Int)) = zpop b + 1 := by
  obtain ⟨n, rfl⟩ := zi_of h0
  have h1 := List.all_eq_true.mp or_all p (List.mem_range.mpr hp)
  exact of_decide_eq_true (List.all_eq_true.mp h1 n (List.mem_range.mpr (by omega)))
def zSvc (C : zCf) : Nat → Int → Int → Int
  | 0, _, a => a
  | m + 1, p, a => zSvc C m (p + 1) (if dl (zD C 23) p = 0 then a + 1 else a)
theorem zSvb_pop (C : zCf) : ∀ (m p : Nat) (b a : Int), p + m ≤ 12 → 0 ≤ b → b < ((2 ^ p : Nat) : Int) → zpop b = a → zpop (zSvb C m p b) = zSvc C m p a ∧ 0 ≤ zSvb C m p b ∧ zSvb C m p b < 4096
  | 0, p, b, a, hp, h0, h, e => by
    refine ⟨e, h0, ?_⟩
    have : (2 : Nat) ^ p ≤ 2 ^ 12 := Nat.pow_le_pow_right (by decide) (by omega)
    have e2 : (2 : Nat) ^ 12 = 4096 := by decide
    show b < 4096
    omega
  | m + 1, p, b, a, hp, h0, h, e => by
    have hpw : (2 : Nat) ^ (p + 1) = 2 * 2 ^ p := by rw [Nat.pow_succ, Nat.mul_comm]
    have hpp : 0 < (2 : Nat) ^ p := Nat.pow_pos (by decide)
    unfold zSvb zSvc
    by_cases hz : dl (zD C 23) p = 0
    · rw [if_pos hz, if_pos hz]
      obtain ⟨o1, o2⟩ := or_ok (p := p) (by omega) h0 h
      rw [o1]
      exact zSvb_pop C m (p + 1) _ _ (by omega) (by omega) (by rw [hpw]; omega) (by rw [o2, e])
    · rw [if_neg hz, if_neg hz]
      exact zSvb_pop C m (p + 1) _ _ (by omega) h0 (by rw [hpw]; omega) e
set_option maxHeartbeats 4000000 in
set_option maxRecDepth 100000 in
/-- bitCount -/
theorem c_bitCount {x : Int} {σ : zSt} {post : Option VV → zSt → Prop} (h0 : 0 ≤ x) (h : x < 4096) (hp : post (some (vZ (zpop x))) σ) : Mc 0 MJ6_bitCount_0f7a4 [vZ x] σ post := by
  show V 0 MJ6_bitCount_0f7a4 0 [some (vZ x)] [] σ post
  refine V_run kJ6_bitCount_0f7a4 8 [] (show V 0 MJ6_bitCount_0f7a4 10 [some (vZ (x - (zand (zushr x 1) 1431655765)))] [] σ post from ?_)
  show V 0 MJ6_bitCount_0f7a4 10 [some (vZ (bc1 x))] [] σ post
  refine V_run kJ6_bitCount_0f7a4 10 [] (show V 0 MJ6_bitCount_0f7a4 24 [some (vZ ((zand (bc1 x) 858993459) + (zand (zushr (bc1 x) 2) 858993459)))] [] σ post from ?_)
  show V 0 MJ6_bitCount_0f7a4 24 [some (vZ (bc2 x))] [] σ post
  refine V_run kJ6_bitCount_0f7a4 8 [] (show V 0 MJ6_bitCount_0f7a4 34 [some (vZ (zand ((bc2 x) + (zushr (bc2 x) 4)) 252645135))] [] σ post from ?_)
  show V 0 MJ6_bitCount_0f7a4 34 [some (vZ (bc3 x))] [] σ post
  refine V_run kJ6_bitCount_0f7a4 6 [] (show V 0 MJ6_bitCount_0f7a4 41 [some (vZ ((bc3 x) + (zushr (bc3 x) 8)))] [] σ post from ?_)
  show V 0 MJ6_bitCount_0f7a4 41 [some (vZ (bc4 x))] [] σ post
  refine V_run kJ6_bitCount_0f7a4 6 [] (show V 0 MJ6_bitCount_0f7a4 48 [some (vZ ((bc4 x) + (zushr (bc4 x) 16)))] [] σ post from ?_)
  show V 0 MJ6_bitCount_0f7a4 48 [some (vZ (bc5 x))] [] σ post
  refine V_run kJ6_bitCount_0f7a4 3 [] (show V 0 MJ6_bitCount_0f7a4 52 [some (vZ (bc5 x))] [vZ (zand (bc5 x) 63)] σ post from ?_)
  refine V_top (bc_ok h0 h) ?_
  exact V_iret kJ6_bitCount_0f7a4 rfl rfl (hp)
set_option maxHeartbeats 4000000 in
set_option maxRecDepth 100000 in
/-- howManyServed -/
theorem c_C_hms {b : Nat} {C : zCf} {σ : zSt} {post : Option VV → zSt → Prop} (hC : zCv C) (hz1 : zlen (b + 1) = 24) (hz2 : zlen (b + 2) = 24) (hco : zCo σ b C 24) (hp : post (some (vZ (zSvc C (cn C).toNat 0 0))) σ) : Mc 4 MX0_howManyServed [vR 0 b] σ post := by
  have hn := hC.1
  obtain ⟨q1, q2, q3⟩ := zSvb_pop C (cn C).toNat 0 0 0 (by omega) (by decide) (by decide) (by decide)
  show V 4 MX0_howManyServed 0 [some (vR 0 b)] [] σ post
  refine V_run kX0_howManyServed 1 [] (show V 4 MX0_howManyServed 1 [some (vR 0 b)] [vR 0 b] σ post from ?_)
  refine V_callV (a := []) (rest := []) kX0_howManyServed rfl oX0_servedBits iX0_servedBits lk_0_113 rfl rfl rfl (Nat.le_of_ble_eq_true rfl) (Nat.le_of_ble_eq_true rfl) (Nat.le_of_ble_eq_true rfl) (post' := fun zv zσ => V 4 MX0_howManyServed 4 [some (vR 0 b)] (zv.toList ++ []) zσ post) (c_C_servedBits hC hz1 hz2 hco ((show V 4 MX0_howManyServed 4 [some (vR 0 b)] [vZ (zSvb C (cn C).toNat 0 0)] σ post from ?_))) (fun _ _ h => h)
  refine V_callS (a := [vZ (zSvb C (cn C).toNat 0 0)]) (rest := []) kX0_howManyServed rfl oJ6_bitCount_0f7a4 iJ6_bitCount_0f7a4 lk_0_116 rfl rfl (Nat.le_of_ble_eq_true rfl) (Nat.le_of_ble_eq_true rfl) (Nat.le_of_ble_eq_true rfl) (post' := fun zv zσ => V 4 MX0_howManyServed 7 [some (vR 0 b)] (zv.toList ++ []) zσ post) (c_bitCount q2 q3 ((show V 4 MX0_howManyServed 7 [some (vR 0 b)] [vZ (zpop (zSvb C (cn C).toNat 0 0))] σ post from ?_))) (fun _ _ h => h)
  refine V_top (q1) ?_
  exact V_iret kX0_howManyServed rfl rfl (hp)
