theorem zno : (-9223372036854775808 : Int64) - zi2l (-2) = lN 9223372036854775810 := by decide +kernel
set_option maxHeartbeats 4000000 in
set_option maxRecDepth 100000 in
/-- no -/
theorem c_M_no {σ : zSt} {post : Option VV → zSt → Prop} (hp : post (some (vL (lN 9223372036854775810))) σ) : Mc 0 MX7_no [vZ (-2)] σ post := by
  show V 0 MX7_no 0 [some (vZ (-2))] [] σ post
  refine V_run kX7_no 4 [] (show V 0 MX7_no 6 [some (vZ (-2))] [vL ((-9223372036854775808 : Int64) - (zi2l (-2)))] σ post from ?_)
  refine V_topL (zno) ?_
  exact V_lret kX7_no rfl rfl (hp)
set_option maxHeartbeats 4000000 in
set_option maxRecDepth 100000 in
/-- chance -/
theorem c_M_chance {c k x : Int} {S : zAb} {σ : zSt} {post : Option VV → zSt → Prop} (hR : RM σ S) (ho : aOk S) (hc : zr c) (hk : zr k) (hx : zr x) (hp : ∀ σ', mKeep σ σ' → post (some (vL (aChance S c k x))) σ') : Mc 8 MX7_chance [vR 6 44, vZ c, vZ k, vZ x] σ post := by
  show V 8 MX7_chance 0 [some (vR 6 44), some (vZ c), some (vZ k), some (vZ x)] [] σ post
  refine V_run kX7_chance 3 [] (show V 8 MX7_chance 4 [some (vR 6 44), some (vZ c), some (vZ k), some (vZ x)] [vZ 16, vZ 0, vZ c] σ post from ?_)
  refine V_callS (a := [vZ c, vZ 0, vZ 16]) (rest := []) kX7_chance rfl oX7_in iX7_in lk_7_104 rfl rfl (Nat.le_of_ble_eq_true rfl) (Nat.le_of_ble_eq_true rfl) (Nat.le_of_ble_eq_true rfl) (post' := fun zv zσ => V 8 MX7_chance 7 [some (vR 6 44), some (vZ c), some (vZ k), some (vZ x)] (zv.toList ++ []) zσ post) (c_M_in (by omega) (by omega) (by omega) ((show V 8 MX7_chance 7 [some (vR 6 44), some (vZ c), some (vZ k), some (vZ x)] [vZ (if 0 ≤ c ∧ c ≤ 16 then 1 else 0)] σ post from ?_))) (fun _ _ h => h)
  by_cases h1 : 0 ≤ c ∧ c ≤ 16
  rotate_left
  · skip
    refine V_top (if_neg h1) ?_
    refine V_run kX7_chance 2 [1] (show (zr 0 ∧ 0 = 0) ∧ V 8 MX7_chance 37 [some (vR 6 44), some (vZ c), some (vZ k), some (vZ x)] [vZ (-2)] σ post from ⟨(by omega), ?_⟩)
    refine V_callS (a := [vZ (-2)]) (rest := []) kX7_chance rfl oX7_no iX7_no lk_7_309 rfl rfl (Nat.le_of_ble_eq_true rfl) (Nat.le_of_ble_eq_true rfl) (Nat.le_of_ble_eq_true rfl) (post' := fun zv zσ => V 8 MX7_chance 40 [some (vR 6 44), some (vZ c), some (vZ k), some (vZ x)] (zv.toList ++ []) zσ post) (c_M_no ((show V 8 MX7_chance 40 [some (vR 6 44), some (vZ c), some (vZ k), some (vZ x)] [vL (lN 9223372036854775810)] σ post from ?_))) (fun _ _ h => h)
    have e9 : aChance S c k x = lN 9223372036854775810 := if_neg (by omega)
    rw [e9] at hp
    exact V_lret kX7_chance rfl rfl (hp _ mKeep.rf)
  refine V_top (if_pos h1) ?_
  refine V_run kX7_chance 3 [0] (show (zr 1 ∧ ¬ 1 = 0) ∧ V 8 MX7_chance 12 [some (vR 6 44), some (vZ c), some (vZ k), some (vZ x)] [vZ k, vR 6 44] σ post from ⟨(by omega), ?_⟩)
  refine V_callV (a := [vZ k]) (rest := []) kX7_chance rfl oX7_isPerson iX7_isPerson lk_7_146 rfl rfl rfl (Nat.le_of_ble_eq_true rfl) (Nat.le_of_ble_eq_true rfl) (Nat.le_of_ble_eq_true rfl) (post' := fun zv zσ => V 8 MX7_chance 15 [some (vR 6 44), some (vZ c), some (vZ k), some (vZ x)] (zv.toList ++ []) zσ post) (c_M_isPerson hR ho (by omega) (fun σ1 hk1 htd1 => (show V 8 MX7_chance 15 [some (vR 6 44), some (vZ c), some (vZ k), some (vZ x)] [vZ (if 0 ≤ k ∧ k < cn (aC S) then 1 else 0)] σ1 post from ?_))) (fun _ _ h => h)
  by_cases h2 : 0 ≤ k ∧ k < cn (aC S)
  rotate_left
  · skip
    refine V_top (if_neg h2) ?_
    refine V_run kX7_chance 2 [1] (show (zr 0 ∧ 0 = 0) ∧ V 8 MX7_chance 37 [some (vR 6 44), some (vZ c), some (vZ k), some (vZ x)] [vZ (-2)] σ1 post from ⟨(by omega), ?_⟩)
    refine V_callS (a := [vZ (-2)]) (rest := []) kX7_chance rfl oX7_no iX7_no lk_7_309 rfl rfl (Nat.le_of_ble_eq_true rfl) (Nat.le_of_ble_eq_true rfl) (Nat.le_of_ble_eq_true rfl) (post' := fun zv zσ => V 8 MX7_chance 40 [some (vR 6 44), some (vZ c), some (vZ k), some (vZ x)] (zv.toList ++ []) zσ post) (c_M_no ((show V 8 MX7_chance 40 [some (vR 6 44), some (vZ c), some (vZ k), some (vZ x)] [vL (lN 9223372036854775810)] σ1 post from ?_))) (fun _ _ h => h)
    have e9 : aChance S c k x = lN 9223372036854775810 := if_neg (by omega)
    rw [e9] at hp
    exact V_lret kX7_chance rfl rfl (hp _ hk1)
  refine V_top (if_pos h2) ?_
  refine V_run kX7_chance 2 [0] (show (zr 1 ∧ ¬ 1 = 0) ∧ V 8 MX7_chance 19 [some (vR 6 44), some (vZ c), some (vZ k), some (vZ x)] [vZ x] σ1 post from ⟨(by omega), ?_⟩)
  refine V_callS (a := [vZ x]) (rest := []) kX7_chance rfl oX7_isTwo iX7_isTwo lk_7_246 rfl rfl (Nat.le_of_ble_eq_true rfl) (Nat.le_of_ble_eq_true rfl) (Nat.le_of_ble_eq_true rfl) (post' := fun zv zσ => V 8 MX7_chance 22 [some (vR 6 44), some (vZ c), some (vZ k), some (vZ x)] (zv.toList ++ []) zσ post) (c_M_isTwo (by omega) ((show V 8 MX7_chance 22 [some (vR 6 44), some (vZ c), some (vZ k), some (vZ x)] [vZ (if 0 ≤ x ∧ x ≤ 1 then 1 else 0)] σ1 post from ?_))) (fun _ _ h => h)
  by_cases h3 : 0 ≤ x ∧ x ≤ 1
  rotate_left
  · skip
    refine V_top (if_neg h3) ?_
    refine V_run kX7_chance 2 [1] (show (zr 0 ∧ 0 = 0) ∧ V 8 MX7_chance 37 [some (vR 6 44), some (vZ c), some (vZ k), some (vZ x)] [vZ (-2)] σ1 post from ⟨(by omega), ?_⟩)
    refine V_callS (a := [vZ (-2)]) (rest := []) kX7_chance rfl oX7_no iX7_no lk_7_309 rfl rfl (Nat.le_of_ble_eq_true rfl) (Nat.le_of_ble_eq_true rfl) (Nat.le_of_ble_eq_true rfl) (post' := fun zv zσ => V 8 MX7_chance 40 [some (vR 6 44), some (vZ c), some (vZ k), some (vZ x)] (zv.toList ++ []) zσ post) (c_M_no ((show V 8 MX7_chance 40 [some (vR 6 44), some (vZ c), some (vZ k), some (vZ x)] [vL (lN 9223372036854775810)] σ1 post from ?_))) (fun _ _ h => h)
    have e9 : aChance S c k x = lN 9223372036854775810 := if_neg (by omega)
    rw [e9] at hp
    exact V_lret kX7_chance rfl rfl (hp _ hk1)
  refine V_top (if_pos h3) ?_
  refine V_run kX7_chance 5 [0] (show (zr 1 ∧ ¬ 1 = 0) ∧ V 8 MX7_chance 29 [some (vR 6 44), some (vZ c), some (vZ k), some (vZ x)] [vZ x, vZ k, vZ c, vR 6 44] σ1 post from ⟨(by omega), ?_⟩)
  refine V_callV (a := [vZ c, vZ k, vZ x]) (rest := []) kX7_chance rfl oX7_chanceOf iX7_chanceOf lk_7_305 rfl rfl rfl (Nat.le_of_ble_eq_true rfl) (Nat.le_of_ble_eq_true rfl) (Nat.le_of_ble_eq_true rfl) (post' := fun zv zσ => V 8 MX7_chance 32 [some (vR 6 44), some (vZ c), some (vZ k), some (vZ x)] (zv.toList ++ []) zσ post) (c_M_chanceOf (RM_k hk1 hR) ho h1.1 h1.2 h2.1 h2.2 (by omega) (fun σ9 hk9 => (show V 8 MX7_chance 32 [some (vR 6 44), some (vZ c), some (vZ k), some (vZ x)] [vL (zCha S c k x)] σ9 post from ?_))) (fun _ _ h => h)
  have e9 : aChance S c k x = zCha S c k x := if_pos ⟨h1, h2, h3⟩
  rw [e9] at hp
  refine V_run kX7_chance 1 [] (show V 8 MX7_chance 40 [some (vR 6 44), some (vZ c), some (vZ k), some (vZ x)] [vL (zCha S c k x)] σ9 post from ?_)
  exact V_lret kX7_chance rfl rfl (hp _ (hk1.tr hk9))
