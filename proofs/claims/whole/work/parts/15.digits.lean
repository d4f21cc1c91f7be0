theorem V_topL {d pc : Nat} {Y : MI} {L : List (Option VV)} {rest : List VV} {σ : zSt} {post : Option VV → zSt → Prop} {x y : Int64} (h : x = y) (kk : V d Y pc L (vL y :: rest) σ post) : V d Y pc L (vL x :: rest) σ post := h ▸ kk
/-- a digit -/
theorem c_digit {r : Nat} {i : Int} {σ : zSt} {post : Option VV → zSt → Prop} (hr : r < 16 ^ 12) (h0 : 0 ≤ i) (h : i < 12) (hp : post (some (vZ (dgt r i))) σ) : Mc 0 MX1_digit [vL (lN r), vZ i] σ post := by
  show V 0 MX1_digit 0 [some (vL (lN r)), none, some (vZ i)] [] σ post
  refine V_run kX1_digit 14 [0, 0] (show (zr i ∧ 0 ≤ i) ∧ (zr i ∧ zr 12 ∧ i < 12) ∧ V 0 MX1_digit 23 [some (vL (lN r)), none, some (vZ i)] [vZ (zand (zl2i (zlushr (lN r) (4 * i))) 15)] σ post from ⟨(by omega), (by omega), ?_⟩)
  refine V_top (row_digit (r12 hr) h0 h) ?_
  exact V_iret kX1_digit rfl rfl (hp)
/-- a digit in place of another -/
theorem c_replaced {r : Nat} {i v : Int} {σ : zSt} {post : Option VV → zSt → Prop} (hr : r < 16 ^ 12) (h0 : 0 ≤ i) (h : i < 12) (hv0 : 0 ≤ v) (hv : v < 16) (hp : post (some (vL (lN (rRep r i v)))) σ) : Mc 0 MX1_replaced [vL (lN r), vZ i, vZ v] σ post := by
  show V 0 MX1_replaced 0 [some (vL (lN r)), none, some (vZ i), some (vZ v)] [] σ post
  refine V_run kX1_replaced 23 [0, 1] (show (zr i ∧ 0 ≤ i) ∧ (zr i ∧ zr 12 ∧ i < 12) ∧ V 0 MX1_replaced 35 [some (vL (lN r)), none, some (vZ i), some (vZ v)] [vL (((lN r) &&& ((zlshl (15 : Int64) (4 * i)) ^^^ (-1 : Int64))) ||| (zlshl (zi2l (zand v 15)) (4 * i)))] σ post from ⟨(by omega), (by omega), ?_⟩)
  refine V_topL (row_rep hr h0 h hv0 hv) ?_
  exact V_lret kX1_replaced rfl rfl (hp)
/-- a digit less by one -/
theorem c_lowered {r : Nat} {i : Int} {σ : zSt} {post : Option VV → zSt → Prop} (hr : r < 16 ^ 12) (h0 : 0 ≤ i) (h : i < 12) (hd : 0 < dgt r i) (hp : post (some (vL (lN (rRep r i (dgt r i - 1))))) σ) : Mc 0 MX1_lowered [vL (lN r), vZ i] σ post := by
  show V 0 MX1_lowered 0 [some (vL (lN r)), none, some (vZ i)] [] σ post
  have hne : zlushr (lN r) (4 * i) &&& (15 : Int64) ≠ (0 : Int64) := by
    rw [zlushr_N (r12 hr) (by omega) (by omega), z4 h0, ← p16]
    exact dgt_lowne (v := 0) hr h0 (by omega) (by omega) (by omega)
  refine V_run kX1_lowered 22 [0, 0, 1] (show (zr i ∧ 0 ≤ i) ∧ (zr i ∧ zr 12 ∧ i < 12) ∧ (zr (zlcmp ((zlushr (lN r) (4 * i)) &&& (15 : Int64)) (0 : Int64)) ∧ ¬ (zlcmp ((zlushr (lN r) (4 * i)) &&& (15 : Int64)) (0 : Int64)) = 0) ∧ V 0 MX1_lowered 33 [some (vL (lN r)), none, some (vZ i)] [vL ((lN r) - (zlshl (1 : Int64) (4 * i)))] σ post from ⟨(by omega), (by omega), (zlcmp_ne hne), ?_⟩)
  refine V_topL (row_low hr h0 h hd) ?_
  exact V_lret kX1_lowered rfl rfl (hp)
/-- a digit put in -/
theorem c_inserted {r : Nat} {i v : Int} {σ : zSt} {post : Option VV → zSt → Prop} (hr : r < 16 ^ 11) (h0 : 0 ≤ i) (h : i < 12) (hv0 : 0 ≤ v) (hv : v < 16) (hp : post (some (vL (lN (rIns r i v)))) σ) : Mc 0 MX1_inserted [vL (lN r), vZ i, vZ v] σ post := by
  show V 0 MX1_inserted 0 [some (vL (lN r)), none, some (vZ i), some (vZ v), none, none, none, none] [] σ post
  refine V_run kX1_inserted 35 [0, 1] (show (zr i ∧ 0 ≤ i) ∧ (zr i ∧ zr 12 ∧ i < 12) ∧ V 0 MX1_inserted 47 [some (vL (lN r)), none, some (vZ i), some (vZ v), some (vL ((lN r) &&& ((zlshl (1 : Int64) (4 * i)) - (1 : Int64)))), none, some (vL (zlushr (lN r) (4 * i))), none] [vL (((lN r) &&& ((zlshl (1 : Int64) (4 * i)) - (1 : Int64))) ||| (zlshl ((zlshl (zlushr (lN r) (4 * i)) 4) ||| (zi2l (zand v 15))) (4 * i)))] σ post from ⟨(by omega), (by omega), ?_⟩)
  refine V_topL (row_ins hr h0 h hv0 hv) ?_
  exact V_lret kX1_inserted rfl rfl (hp)
/-- a digit taken out -/
theorem c_removed {r : Nat} {i : Int} {σ : zSt} {post : Option VV → zSt → Prop} (hr : r < 16 ^ 12) (h0 : 0 ≤ i) (h : i < 12) (hp : post (some (vL (lN (rRem r i)))) σ) : Mc 0 MX1_removed [vL (lN r), vZ i] σ post := by
  show V 0 MX1_removed 0 [some (vL (lN r)), none, some (vZ i), none, none, none, none] [] σ post
  refine V_run kX1_removed 30 [0, 1] (show (zr i ∧ 0 ≤ i) ∧ (zr i ∧ zr 12 ∧ i < 12) ∧ V 0 MX1_removed 39 [some (vL (lN r)), none, some (vZ i), some (vL ((lN r) &&& ((zlshl (1 : Int64) (4 * i)) - (1 : Int64)))), none, some (vL (zlushr (lN r) ((4 * i) + 4))), none] [vL (((lN r) &&& ((zlshl (1 : Int64) (4 * i)) - (1 : Int64))) ||| (zlshl (zlushr (lN r) ((4 * i) + 4)) (4 * i)))] σ post from ⟨(by omega), (by omega), ?_⟩)
  refine V_topL (row_rem hr h0 h) ?_
  exact V_lret kX1_removed rfl rfl (hp)
/-- how many digits ahead of the first 0 -/
theorem c_length {r : Nat} {n : Int} {σ : zSt} {post : Option VV → zSt → Prop} (hr : r < 16 ^ 12) (hn0 : 0 ≤ n) (hn : n ≤ 12) (hn1 : ∀ j : Int, 0 ≤ j → j < n → dgt r j ≠ 0) (hn2 : n < 12 → dgt r n = 0) (hp : post (some (vZ n)) σ) : Mc 0 MX1_length [vL (lN r)] σ post := by
  show V 0 MX1_length 0 [some (vL (lN r)), none, none, none, none] [] σ post
  refine V_run kX1_length 4 [] (show V 0 MX1_length 5 [some (vL (lN r)), none, some (vL (lN r)), none, some (vZ 0)] [] σ post from ?_)
  have loop : ∀ (m : Nat) (i : Int), 0 ≤ i → i + m = n → V 0 MX1_length 5 [some (vL (lN r)), none, some (vL (lN (r / 16 ^ i.toNat))), none, some (vZ i)] [] σ post := by
    intro m
    induction m with
    | zero =>
      intro i hi0 hi
      have hin : i = n := by omega
      subst hin
      rcases Int.lt_or_le i 12 with h | h
      · have hz := hn2 h
        have he : lN (r / 16 ^ i.toNat) &&& (15 : Int64) = (0 : Int64) := by rw [dgt_low hr hi0, hz]; rfl
        refine V_run kX1_length 10 [0, 0] (show (zr i ∧ zr 12 ∧ i < 12) ∧ (zr (zlcmp ((lN (r / 16 ^ i.toNat)) &&& (15 : Int64)) (0 : Int64)) ∧ (zlcmp ((lN (r / 16 ^ i.toNat)) &&& (15 : Int64)) (0 : Int64)) = 0) ∧ V 0 MX1_length 24 [some (vL (lN r)), none, some (vL (lN (r / 16 ^ i.toNat))), none, some (vZ i)] [vZ i] σ post from ⟨(by omega), (zlcmp_eq he), ?_⟩)
        exact V_iret kX1_length rfl rfl (hp)
      · have h12 : i = 12 := by omega
        refine V_run kX1_length 4 [1] (show (zr i ∧ zr 12 ∧ 12 ≤ i) ∧ V 0 MX1_length 37 [some (vL (lN r)), none, some (vL (lN (r / 16 ^ i.toNat))), none, some (vZ i)] [vZ 12] σ post from ⟨(by omega), ?_⟩)
        exact V_iret kX1_length rfl rfl (h12 ▸ hp)
    | succ m ih =>
      intro i hi0 hi
      have hne := dgt_lowne (v := 0) hr hi0 (by omega) (by omega) (hn1 i hi0 (by omega))
      refine V_run kX1_length 15 [0, 1] (show (zr i ∧ zr 12 ∧ i < 12) ∧ (zr (zlcmp ((lN (r / 16 ^ i.toNat)) &&& (15 : Int64)) (0 : Int64)) ∧ ¬ (zlcmp ((lN (r / 16 ^ i.toNat)) &&& (15 : Int64)) (0 : Int64)) = 0) ∧ V 0 MX1_length 5 [some (vL (lN r)), none, some (vL (zlushr (lN (r / 16 ^ i.toNat)) 4)), none, some (vZ (i + 1))] [] σ post from ⟨(by omega), (zlcmp_ne hne), ?_⟩)
      rw [row_next hr hi0]
      exact ih (i + 1) (by omega) (by omega)
  have e0 : r = r / 16 ^ (0 : Int).toNat := by rw [show (0 : Int).toNat = 0 from rfl, Nat.pow_zero, Nat.div_one]
  have h1 := loop n.toNat 0 (by omega) (by omega)
  rw [← e0] at h1
  exact h1
/-- where a digit stands first -/
theorem c_find {r : Nat} {v f : Int} {σ : zSt} {post : Option VV → zSt → Prop} (hr : r < 16 ^ 12) (hv0 : 0 < v) (hv : v < 16) (hf : (f = -1 ∧ ∀ j : Int, 0 ≤ j → j < 12 → dgt r j ≠ v) ∨ (0 ≤ f ∧ f < 12 ∧ dgt r f = v ∧ ∀ j : Int, 0 ≤ j → j < f → dgt r j ≠ v)) (hp : post (some (vZ f)) σ) : Mc 0 MX1_find [vL (lN r), vZ v] σ post := by
  show V 0 MX1_find 0 [some (vL (lN r)), none, some (vZ v), none, none, none] [] σ post
  refine V_run kX1_find 4 [] (show V 0 MX1_find 5 [some (vL (lN r)), none, some (vZ v), some (vL (lN r)), none, some (vZ 0)] [] σ post from ?_)
  have hiv : zi2l v = lN v.toNat := zi2l_N ⟨by omega, by omega⟩ (by omega)
  have loop : ∀ (m : Nat) (i : Int), 0 ≤ i → i + m = 12 → (∀ j : Int, 0 ≤ j → j < i → dgt r j ≠ v) → V 0 MX1_find 5 [some (vL (lN r)), none, some (vZ v), some (vL (lN (r / 16 ^ i.toNat))), none, some (vZ i)] [] σ post := by
    intro m
    induction m with
    | zero =>
      intro i hi0 hi hne
      have h12 : i = 12 := by omega
      have hf1 : f = -1 := by
        rcases hf with h | h
        · exact h.1
        · exact absurd h.2.2.1 (hne f h.1 (by omega))
      subst hf1
      refine V_run kX1_find 4 [1] (show (zr i ∧ zr 12 ∧ 12 ≤ i) ∧ V 0 MX1_find 43 [some (vL (lN r)), none, some (vZ v), some (vL (lN (r / 16 ^ i.toNat))), none, some (vZ i)] [vZ (-1)] σ post from ⟨(by omega), ?_⟩)
      exact V_iret kX1_find rfl rfl (hp)
    | succ m ih =>
      intro i hi0 hi hne
      by_cases hz : r / 16 ^ i.toNat = 0
      · have hd0 : ∀ j : Int, i ≤ j → dgt r j = 0 := by
          intro j hj
          unfold dgt
          have e1 : j.toNat = i.toNat + (j.toNat - i.toNat) := by omega
          rw [e1, Nat.pow_add, ← Nat.div_div_eq_div_mul, hz, Nat.zero_div]
          rfl
        have hf1 : f = -1 := by
          rcases hf with h | h
          · exact h.1
          · rcases Int.lt_or_le f i with h2 | h2
            · exact absurd h.2.2.1 (hne f h.1 h2)
            · have := hd0 f h2
              omega
        subst hf1
        have he : lN (r / 16 ^ i.toNat) = (0 : Int64) := by rw [hz]; rfl
        refine V_run kX1_find 8 [0, 1] (show (zr i ∧ zr 12 ∧ i < 12) ∧ (zr (zlcmp (lN (r / 16 ^ i.toNat)) (0 : Int64)) ∧ (zlcmp (lN (r / 16 ^ i.toNat)) (0 : Int64)) = 0) ∧ V 0 MX1_find 43 [some (vL (lN r)), none, some (vZ v), some (vL (lN (r / 16 ^ i.toNat))), none, some (vZ i)] [vZ (-1)] σ post from ⟨(by omega), (zlcmp_eq he), ?_⟩)
        exact V_iret kX1_find rfl rfl (hp)
      · have hnz : lN (r / 16 ^ i.toNat) ≠ (0 : Int64) := fun q => hz ((lN_inj (Nat.lt_of_le_of_lt (Nat.div_le_self _ _) (r12 hr)) (by decide)).mp q)
        by_cases hv2 : dgt r i = v
        · have hf1 : f = i := by
            rcases hf with h | h
            · exact absurd hv2 (h.2 i hi0 (by omega))
            · rcases Int.lt_trichotomy f i with h2 | h2 | h2
              · exact absurd h.2.2.1 (hne f h.1 h2)
              · exact h2
              · exact absurd hv2 (h.2.2.2 i hi0 h2)
          subst hf1
          have he : lN (r / 16 ^ f.toNat) &&& (15 : Int64) = zi2l v := by rw [dgt_low hr hi0, hiv, hv2]
          refine V_run kX1_find 15 [0, 0, 0] (show (zr f ∧ zr 12 ∧ f < 12) ∧ (zr (zlcmp (lN (r / 16 ^ f.toNat)) (0 : Int64)) ∧ ¬ (zlcmp (lN (r / 16 ^ f.toNat)) (0 : Int64)) = 0) ∧ (zr (zlcmp ((lN (r / 16 ^ f.toNat)) &&& (15 : Int64)) (zi2l v)) ∧ (zlcmp ((lN (r / 16 ^ f.toNat)) &&& (15 : Int64)) (zi2l v)) = 0) ∧ V 0 MX1_find 31 [some (vL (lN r)), none, some (vZ v), some (vL (lN (r / 16 ^ f.toNat))), none, some (vZ f)] [vZ f] σ post from ⟨(by omega), (zlcmp_ne hnz), (zlcmp_eq he), ?_⟩)
          exact V_iret kX1_find rfl rfl (hp)
        · have he : lN (r / 16 ^ i.toNat) &&& (15 : Int64) ≠ zi2l v := by rw [hiv]; exact dgt_lowne hr hi0 (by omega) (by omega) hv2
          refine V_run kX1_find 20 [0, 0, 1] (show (zr i ∧ zr 12 ∧ i < 12) ∧ (zr (zlcmp (lN (r / 16 ^ i.toNat)) (0 : Int64)) ∧ ¬ (zlcmp (lN (r / 16 ^ i.toNat)) (0 : Int64)) = 0) ∧ (zr (zlcmp ((lN (r / 16 ^ i.toNat)) &&& (15 : Int64)) (zi2l v)) ∧ ¬ (zlcmp ((lN (r / 16 ^ i.toNat)) &&& (15 : Int64)) (zi2l v)) = 0) ∧ V 0 MX1_find 5 [some (vL (lN r)), none, some (vZ v), some (vL (zlushr (lN (r / 16 ^ i.toNat)) 4)), none, some (vZ (i + 1))] [] σ post from ⟨(by omega), (zlcmp_ne hnz), (zlcmp_ne he), ?_⟩)
          rw [row_next hr hi0]
          refine ih (i + 1) (by omega) (by omega) (fun j hj1 hj2 => ?_)
          rcases Int.lt_or_le j i with h | h
          · exact hne j hj1 h
          · have : j = i := by omega
            subst this
            exact hv2
  have e0 : r = r / 16 ^ (0 : Int).toNat := by rw [show (0 : Int).toNat = 0 from rfl, Nat.pow_zero, Nat.div_one]
  have h1 := loop 12 0 (by omega) (by omega) (fun j h1 h2 => by omega)
  rw [← e0] at h1
  exact h1
