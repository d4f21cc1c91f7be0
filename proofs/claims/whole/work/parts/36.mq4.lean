def aDone (S : zAb) (k x : Int) : Int := if (0 ≤ k ∧ k < cn (aC S)) ∧ 0 ≤ x ∧ x ≤ 2 then (if x = 0 then zSin (aC S) k 24 0 else if x = 1 then zSto (aC S) k 24 0 0 else zMov (aC S) k (23 + 1) 0 (-1) 0) else -2
set_option maxHeartbeats 4000000 in
set_option maxRecDepth 100000 in
/-- doneOf -/
theorem c_M_doneOf {k x : Int} {S : zAb} {σ : zSt} {post : Option VV → zSt → Prop} (hR : RM σ S) (ho : aOk S) (k0 : 0 ≤ k) (k1 : k < cn (aC S)) (hx : zr x) (hp : ∀ σ', mKeep σ σ' → post (some (vZ (if x = 0 then zSin (aC S) k 24 0 else if x = 1 then zSto (aC S) k 24 0 0 else zMov (aC S) k (23 + 1) 0 (-1) 0))) σ') : Mc 8 MX7_doneOf [vR 6 44, vZ k, vZ x] σ post := by
  have hC := aC_ok ho
  have hcn := hC.1
  show V 8 MX7_doneOf 0 [some (vR 6 44), some (vZ k), some (vZ x)] [] σ post
  refine V_run kX7_doneOf 1 [] (show V 8 MX7_doneOf 1 [some (vR 6 44), some (vZ k), some (vZ x)] [vR 6 44] σ post from ?_)
  refine V_callV (a := []) (rest := []) kX7_doneOf rfl oX7_runsTold iX7_runsTold lk_7_219 rfl rfl rfl (Nat.le_of_ble_eq_true rfl) (Nat.le_of_ble_eq_true rfl) (Nat.le_of_ble_eq_true rfl) (post' := fun zv zσ => V 8 MX7_doneOf 4 [some (vR 6 44), some (vZ k), some (vZ x)] (zv.toList ++ []) zσ post) (c_M_runsTold hR ho (fun σ1 hk1 hc1 hm1 hr1 => (show V 8 MX7_doneOf 4 [some (vR 6 44), some (vZ k), some (vZ x)] [] σ1 post from ?_))) (fun _ _ h => h)
  have hp := hp σ1 hk1
  have h3 := (hm1.2.2 k k0 (by omega)).2.2
  have h4 := (dd_sin hC k0 k1 24).1
  have h5 : σ1.1 60 k = zSin (aC S) k 24 0 := h3.trans h4
  refine V_run kX7_doneOf 1 [] (show V 8 MX7_doneOf 5 [some (vR 6 44), some (vZ k), some (vZ x)] [vZ x] σ1 post from ?_)
  by_cases q0 : x = 0
  · skip
    rw [if_pos q0] at hp
    refine V_run kX7_doneOf 5 [0] (show (zr x ∧ x = 0) ∧ (0 ≤ k ∧ k < 12) ∧ V 8 MX7_doneOf 14 [some (vR 6 44), some (vZ k), some (vZ x)] [vZ (σ1.1 60 k)] σ1 post from ⟨(by omega), (by omega), ?_⟩)
    refine V_top (h5) ?_
    refine V_run kX7_doneOf 1 [] (show V 8 MX7_doneOf 35 [some (vR 6 44), some (vZ k), some (vZ x)] [vZ (zSin (aC S) k 24 0)] σ1 post from ?_)
    exact V_iret kX7_doneOf rfl rfl (hp)
  · skip
    rw [if_neg q0] at hp
    refine V_run kX7_doneOf 3 [1] (show (zr x ∧ ¬ x = 0) ∧ V 8 MX7_doneOf 19 [some (vR 6 44), some (vZ k), some (vZ x)] [vZ 1, vZ x] σ1 post from ⟨(by omega), ?_⟩)
    by_cases q1 : x = 1
    · skip
      rw [if_pos q1] at hp
      refine V_run kX7_doneOf 3 [0] (show (zr x ∧ zr 1 ∧ x = 1) ∧ V 8 MX7_doneOf 24 [some (vR 6 44), some (vZ k), some (vZ x)] [vZ k, vR 6 44] σ1 post from ⟨(by omega), ?_⟩)
      refine V_callV (a := [vZ k]) (rest := []) kX7_doneOf rfl oX7_stoodNow iX7_stoodNow lk_7_237 rfl rfl rfl (Nat.le_of_ble_eq_true rfl) (Nat.le_of_ble_eq_true rfl) (Nat.le_of_ble_eq_true rfl) (post' := fun zv zσ => V 8 MX7_doneOf 27 [some (vR 6 44), some (vZ k), some (vZ x)] (zv.toList ++ []) zσ post) (c_M_stoodNow hC hr1 k0 k1 ((show V 8 MX7_doneOf 27 [some (vR 6 44), some (vZ k), some (vZ x)] [vZ (zSto (aC S) k 24 0 0)] σ1 post from ?_))) (fun _ _ h => h)
      refine V_run kX7_doneOf 1 [] (show V 8 MX7_doneOf 35 [some (vR 6 44), some (vZ k), some (vZ x)] [vZ (zSto (aC S) k 24 0 0)] σ1 post from ?_)
      exact V_iret kX7_doneOf rfl rfl (hp)
    · skip
      rw [if_neg q1] at hp
      refine V_run kX7_doneOf 3 [1] (show (zr x ∧ zr 1 ∧ ¬ x = 1) ∧ V 8 MX7_doneOf 32 [some (vR 6 44), some (vZ k), some (vZ x)] [vZ k, vR 6 44] σ1 post from ⟨(by omega), ?_⟩)
      refine V_callV (a := [vZ k]) (rest := []) kX7_doneOf rfl oX7_movesNow iX7_movesNow lk_7_240 rfl rfl rfl (Nat.le_of_ble_eq_true rfl) (Nat.le_of_ble_eq_true rfl) (Nat.le_of_ble_eq_true rfl) (post' := fun zv zσ => V 8 MX7_doneOf 35 [some (vR 6 44), some (vZ k), some (vZ x)] (zv.toList ++ []) zσ post) (c_M_movesNow hC hr1 k0 k1 ((show V 8 MX7_doneOf 35 [some (vR 6 44), some (vZ k), some (vZ x)] [vZ (zMov (aC S) k (23 + 1) 0 (-1) 0)] σ1 post from ?_))) (fun _ _ h => h)
      exact V_iret kX7_doneOf rfl rfl (hp)
set_option maxHeartbeats 4000000 in
set_option maxRecDepth 100000 in
/-- done -/
theorem c_M_done {k x : Int} {S : zAb} {σ : zSt} {post : Option VV → zSt → Prop} (hR : RM σ S) (ho : aOk S) (hq : zr k) (hx : zr x) (hp : ∀ σ', mKeep σ σ' → post (some (vZ (aDone S k x))) σ') : Mc 9 MX7_done [vR 6 44, vZ k, vZ x] σ post := by
  show V 9 MX7_done 0 [some (vR 6 44), some (vZ k), some (vZ x)] [] σ post
  refine V_run kX7_done 2 [] (show V 9 MX7_done 2 [some (vR 6 44), some (vZ k), some (vZ x)] [vZ k, vR 6 44] σ post from ?_)
  refine V_callV (a := [vZ k]) (rest := []) kX7_done rfl oX7_isPerson iX7_isPerson lk_7_146 rfl rfl rfl (Nat.le_of_ble_eq_true rfl) (Nat.le_of_ble_eq_true rfl) (Nat.le_of_ble_eq_true rfl) (post' := fun zv zσ => V 9 MX7_done 5 [some (vR 6 44), some (vZ k), some (vZ x)] (zv.toList ++ []) zσ post) (c_M_isPerson hR ho (by omega) (fun σp1 hkp1 htd1 => (show V 9 MX7_done 5 [some (vR 6 44), some (vZ k), some (vZ x)] [vZ (if 0 ≤ k ∧ k < cn (aC S) then 1 else 0)] σp1 post from ?_))) (fun _ _ h => h)
  have hRp1 := RM_k hkp1 hR
  by_cases h1 : 0 ≤ k ∧ k < cn (aC S)
  rotate_left
  · skip
    refine V_top (if_neg h1) ?_
    refine V_run kX7_done 2 [1] (show (zr 0 ∧ 0 = 0) ∧ V 9 MX7_done 26 [some (vR 6 44), some (vZ k), some (vZ x)] [vZ (-2)] σp1 post from ⟨(by omega), ?_⟩)
    have e9 : aDone S k x = -2 := if_neg (by omega)
    rw [e9] at hp
    exact V_iret kX7_done rfl rfl (hp _ hkp1)
  refine V_top (if_pos h1) ?_
  refine V_run kX7_done 2 [0] (show (zr 1 ∧ ¬ 1 = 0) ∧ V 9 MX7_done 9 [some (vR 6 44), some (vZ k), some (vZ x)] [vZ x] σp1 post from ⟨(by omega), ?_⟩)
  refine V_callS (a := [vZ x]) (rest := []) kX7_done rfl oX7_isThree iX7_isThree lk_7_149 rfl rfl (Nat.le_of_ble_eq_true rfl) (Nat.le_of_ble_eq_true rfl) (Nat.le_of_ble_eq_true rfl) (post' := fun zv zσ => V 9 MX7_done 12 [some (vR 6 44), some (vZ k), some (vZ x)] (zv.toList ++ []) zσ post) (c_M_isThree (by omega) ((show V 9 MX7_done 12 [some (vR 6 44), some (vZ k), some (vZ x)] [vZ (if 0 ≤ x ∧ x ≤ 2 then 1 else 0)] σp1 post from ?_))) (fun _ _ h => h)
  by_cases h2 : 0 ≤ x ∧ x ≤ 2
  rotate_left
  · skip
    refine V_top (if_neg h2) ?_
    refine V_run kX7_done 2 [1] (show (zr 0 ∧ 0 = 0) ∧ V 9 MX7_done 26 [some (vR 6 44), some (vZ k), some (vZ x)] [vZ (-2)] σp1 post from ⟨(by omega), ?_⟩)
    have e9 : aDone S k x = -2 := if_neg (by omega)
    rw [e9] at hp
    exact V_iret kX7_done rfl rfl (hp _ hkp1)
  refine V_top (if_pos h2) ?_
  refine V_run kX7_done 4 [0] (show (zr 1 ∧ ¬ 1 = 0) ∧ V 9 MX7_done 18 [some (vR 6 44), some (vZ k), some (vZ x)] [vZ x, vZ k, vR 6 44] σp1 post from ⟨(by omega), ?_⟩)
  refine V_callV (a := [vZ k, vZ x]) (rest := []) kX7_done rfl oX7_doneOf iX7_doneOf lk_7_243 rfl rfl rfl (Nat.le_of_ble_eq_true rfl) (Nat.le_of_ble_eq_true rfl) (Nat.le_of_ble_eq_true rfl) (post' := fun zv zσ => V 9 MX7_done 21 [some (vR 6 44), some (vZ k), some (vZ x)] (zv.toList ++ []) zσ post) (c_M_doneOf hRp1 ho h1.1 h1.2 (by omega) (fun σ9 hk9 => (show V 9 MX7_done 21 [some (vR 6 44), some (vZ k), some (vZ x)] [vZ (if x = 0 then zSin (aC S) k 24 0 else if x = 1 then zSto (aC S) k 24 0 0 else zMov (aC S) k (23 + 1) 0 (-1) 0)] σ9 post from ?_))) (fun _ _ h => h)
  have e9 : aDone S k x = if x = 0 then zSin (aC S) k 24 0 else if x = 1 then zSto (aC S) k 24 0 0 else zMov (aC S) k (23 + 1) 0 (-1) 0 := if_pos ⟨h1, h2⟩
  rw [e9] at hp
  refine V_run kX7_done 1 [] (show V 9 MX7_done 26 [some (vR 6 44), some (vZ k), some (vZ x)] [vZ (if x = 0 then zSin (aC S) k 24 0 else if x = 1 then zSto (aC S) k 24 0 0 else zMov (aC S) k (23 + 1) 0 (-1) 0)] σ9 post from ?_)
  exact V_iret kX7_done rfl rfl (hp _ (hkp1.tr hk9))
