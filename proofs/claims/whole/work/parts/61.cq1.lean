theorem ds_cases {C : zCf} {t k : Int} (hC : zCv C) (t0 : 0 ≤ t) (k0 : 0 ≤ k) (k1 : k < cn C) : ds (zD C t) k = if t < cCm C k then 0 else if dl (zD C t) k = 0 then 2 else if zPla C t k = -1 then 3 else 1 := by
  have hJ := zJ_D hC t
  have h0 := (zJ_day hC (t.toNat + 1)).2 k k0 k1
  have h2 := hJ.2.2.2.2.2.1 k k0 k1
  have hr := hJ.2.2.2.2.2.2.1 k
  have hp := (zPla_rng hC t k0).2.2
  have h0 : ds (zD C t) k = 0 ↔ (((t.toNat + 1 : Nat) : Int) < cCm C k ∨ (cCm C k = ((t.toNat + 1 : Nat) : Int) ∧ 0 ≤ k)) := h0
  by_cases q1 : t < cCm C k
  · rw [if_pos q1]; exact h0.mpr (by omega)
  · have n0 : ¬ ds (zD C t) k = 0 := fun z => by have := h0.mp z; omega
    rw [if_neg q1]
    by_cases q2 : dl (zD C t) k = 0
    · rw [if_pos q2]; exact h2.mpr q2
    · have n2 : ¬ ds (zD C t) k = 2 := fun z => q2 (h2.mp z)
      rw [if_neg q2]
      by_cases q3 : zPla C t k = -1
      · rw [if_pos q3]
        have := hp.mp q3
        omega
      · rw [if_neg q3]
        by_cases q4 : ds (zD C t) k = 1
        · exact q4
        · exact absurd (hp.mpr (fun z => q4 z.2)) q3
theorem zWho_r0 {C : zCf} (hC : zCv C) {t j : Int} (j0 : 0 ≤ j) : zr (zWho C t j) := by have := zWho_rng hC t j0; exact ⟨by omega, by omega⟩
set_option maxHeartbeats 4000000 in
set_option maxRecDepth 100000 in
/-- fault -/
theorem c_N_fault {x : Int} {S : zAb} {σ : zSt} {post : Option VV → zSt → Prop} (hR : RC σ S) (ho : aOk S) (hx : zr x) (hp : ∀ σ', dK σ σ' → RC σ' S → post (some (vZ (aFault S x))) σ') : Mc 3 MX6_fault [vR 5 0, vZ x] σ post := by
  have hok := aC_ok ho
  have hcn := hok.1
  obtain ⟨hT, hPx, hCo, hG, hS, hK, hF⟩ := id hR
  have w1 := RT_w1 hT
  have w3 := RT_w3 hT
  show V 3 MX6_fault 0 [some (vR 5 0), some (vZ x), none] [] σ post
  refine V_run kX6_fault 2 [] (show V 3 MX6_fault 2 [some (vR 5 0), some (vZ x), none] [vZ x, vR 5 0] σ post from ?_)
  by_cases h1 : 0 ≤ x ∧ x ≤ 1
  rotate_left
  · skip
    refine V_callV (a := [vZ x]) (rest := []) kX6_fault rfl oX6_textOf iX6_textOf lk_6_66 rfl rfl rfl (Nat.le_of_ble_eq_true rfl) (Nat.le_of_ble_eq_true rfl) (Nat.le_of_ble_eq_true rfl) (post' := fun zv zσ => V 3 MX6_fault 5 [some (vR 5 0), some (vZ x), none] (zv.toList ++ []) zσ post) (c_N_textOfN ⟨hx, h1⟩ ((show V 3 MX6_fault 5 [some (vR 5 0), some (vZ x), none] [vN] σ post from ?_))) (fun _ _ h => h)
    refine V_run kX6_fault 5 [] (show V 3 MX6_fault 19 [some (vR 5 0), some (vZ x), some (vN)] [vZ (-2)] σ post from ?_)
    have e9 : aFault S x = -2 := if_neg h1
    rw [e9] at hp
    exact V_iret kX6_fault rfl rfl (hp σ dK.rf hR)
  by_cases h0 : x = 0
  · skip
    have e9 : aFault S x = zflt 1 (σ.1 2) (σ.1 1 2) := by rw [w1.2]; exact (if_pos h1).trans (if_pos h0)
    rw [e9] at hp
    refine V_callV (a := [vZ x]) (rest := []) kX6_fault rfl oX6_textOf iX6_textOf lk_6_66 rfl rfl rfl (Nat.le_of_ble_eq_true rfl) (Nat.le_of_ble_eq_true rfl) (Nat.le_of_ble_eq_true rfl) (post' := fun zv zσ => V 3 MX6_fault 5 [some (vR 5 0), some (vZ x), none] (zv.toList ++ []) zσ post) (c_N_textOf0 h0 ((show V 3 MX6_fault 5 [some (vR 5 0), some (vZ x), none] [vR 4 1] σ post from ?_))) (fun _ _ h => h)
    refine V_run kX6_fault 4 [] (show V 3 MX6_fault 16 [some (vR 5 0), some (vZ x), some (vR 4 1)] [vR 4 1] σ post from ?_)
    refine V_callV (a := []) (rest := []) kX6_fault rfl oX5_firstFault iX5_firstFault lk_6_85 rfl rfl rfl (Nat.le_of_ble_eq_true rfl) (Nat.le_of_ble_eq_true rfl) (Nat.le_of_ble_eq_true rfl) (post' := fun zv zσ => V 3 MX6_fault 19 [some (vR 5 0), some (vZ x), some (vR 4 1)] (zv.toList ++ []) zσ post) (c_T_ff (b := 1) (RT_1 hT ho) ((show V 3 MX6_fault 19 [some (vR 5 0), some (vZ x), some (vR 4 1)] [vZ (zflt (σ.1 1 0) (σ.1 2) (σ.1 1 2))] σ post from ?_))) (fun _ _ h => h)
    refine V_top (show zflt (σ.1 1 0) (σ.1 2) (σ.1 1 2) = zflt 1 (σ.1 2) (σ.1 1 2) by rw [hT.1.1]) ?_
    exact V_iret kX6_fault rfl rfl (hp σ dK.rf hR)
  · skip
    have e9 : aFault S x = zflt 0 (σ.1 4) (σ.1 3 2) := by rw [w3.2]; exact (if_pos h1).trans (if_neg h0)
    rw [e9] at hp
    refine V_callV (a := [vZ x]) (rest := []) kX6_fault rfl oX6_textOf iX6_textOf lk_6_66 rfl rfl rfl (Nat.le_of_ble_eq_true rfl) (Nat.le_of_ble_eq_true rfl) (Nat.le_of_ble_eq_true rfl) (post' := fun zv zσ => V 3 MX6_fault 5 [some (vR 5 0), some (vZ x), none] (zv.toList ++ []) zσ post) (c_N_textOf1 (by omega) ((show V 3 MX6_fault 5 [some (vR 5 0), some (vZ x), none] [vR 4 3] σ post from ?_))) (fun _ _ h => h)
    refine V_run kX6_fault 4 [] (show V 3 MX6_fault 16 [some (vR 5 0), some (vZ x), some (vR 4 3)] [vR 4 3] σ post from ?_)
    refine V_callV (a := []) (rest := []) kX6_fault rfl oX5_firstFault iX5_firstFault lk_6_85 rfl rfl rfl (Nat.le_of_ble_eq_true rfl) (Nat.le_of_ble_eq_true rfl) (Nat.le_of_ble_eq_true rfl) (post' := fun zv zσ => V 3 MX6_fault 19 [some (vR 5 0), some (vZ x), some (vR 4 3)] (zv.toList ++ []) zσ post) (c_T_ff (b := 3) (RT_3 hT ho) ((show V 3 MX6_fault 19 [some (vR 5 0), some (vZ x), some (vR 4 3)] [vZ (zflt (σ.1 3 0) (σ.1 4) (σ.1 3 2))] σ post from ?_))) (fun _ _ h => h)
    refine V_top (show zflt (σ.1 3 0) (σ.1 4) (σ.1 3 2) = zflt 0 (σ.1 4) (σ.1 3 2) by rw [hT.2.1]) ?_
    exact V_iret kX6_fault rfl rfl (hp σ dK.rf hR)
set_option maxHeartbeats 4000000 in
set_option maxRecDepth 100000 in
/-- person -/
theorem c_N_person {k x : Int} {S : zAb} {σ : zSt} {post : Option VV → zSt → Prop} (hR : RC σ S) (ho : aOk S) (hk : zr k) (hx : zr x) (hp : ∀ σ', dK σ σ' → RC σ' S → post (some (vZ (aPerson S k x))) σ') : Mc 2 MX6_person [vR 5 0, vZ k, vZ x] σ post := by
  have hok := aC_ok ho
  have hcn := hok.1
  obtain ⟨hT, hPx, hCo, hG, hS, hK, hF⟩ := id hR
  show V 2 MX6_person 0 [some (vR 5 0), some (vZ k), some (vZ x)] [] σ post
  refine V_run kX6_person 2 [] (show V 2 MX6_person 2 [some (vR 5 0), some (vZ k), some (vZ x)] [vZ k, vR 5 0] σ post from ?_)
  refine V_callV (a := [vZ k]) (rest := []) kX6_person rfl oX6_isPerson iX6_isPerson lk_6_88 rfl rfl rfl (Nat.le_of_ble_eq_true rfl) (Nat.le_of_ble_eq_true rfl) (Nat.le_of_ble_eq_true rfl) (post' := fun zv zσ => V 2 MX6_person 5 [some (vR 5 0), some (vZ k), some (vZ x)] (zv.toList ++ []) zσ post) (c_N_isPerson hok hPx.1.1 (by omega) ((show V 2 MX6_person 5 [some (vR 5 0), some (vZ k), some (vZ x)] [vZ (if 0 ≤ k ∧ k < cn (aC S) then 1 else 0)] σ post from ?_))) (fun _ _ h => h)
  by_cases h1 : 0 ≤ k ∧ k < cn (aC S)
  rotate_left
  · skip
    refine V_top (if_neg h1) ?_
    refine V_run kX6_person 2 [1] (show (zr 0 ∧ 0 = 0) ∧ V 2 MX6_person 18 [some (vR 5 0), some (vZ k), some (vZ x)] [vZ (-2)] σ post from ⟨(by omega), ?_⟩)
    have e9 : aPerson S k x = -2 := if_neg (by omega)
    rw [e9] at hp
    exact V_iret kX6_person rfl rfl (hp σ dK.rf hR)
  refine V_top (if_pos h1) ?_
  refine V_run kX6_person 3 [0] (show (zr 1 ∧ ¬ 1 = 0) ∧ V 2 MX6_person 10 [some (vR 5 0), some (vZ k), some (vZ x)] [vZ 2, vZ x] σ post from ⟨(by omega), ?_⟩)
  refine V_callS (a := [vZ x, vZ 2]) (rest := []) kX6_person rfl oX6_isFrom0To iX6_isFrom0To lk_6_91 rfl rfl (Nat.le_of_ble_eq_true rfl) (Nat.le_of_ble_eq_true rfl) (Nat.le_of_ble_eq_true rfl) (post' := fun zv zσ => V 2 MX6_person 13 [some (vR 5 0), some (vZ k), some (vZ x)] (zv.toList ++ []) zσ post) (c_N_from (by omega) (by omega) ((show V 2 MX6_person 13 [some (vR 5 0), some (vZ k), some (vZ x)] [vZ (if 0 ≤ x ∧ x ≤ 2 then 1 else 0)] σ post from ?_))) (fun _ _ h => h)
  by_cases h2 : 0 ≤ x ∧ x ≤ 2
  rotate_left
  · skip
    refine V_top (if_neg h2) ?_
    refine V_run kX6_person 2 [0] (show (zr 0 ∧ 0 = 0) ∧ V 2 MX6_person 18 [some (vR 5 0), some (vZ k), some (vZ x)] [vZ (-2)] σ post from ⟨(by omega), ?_⟩)
    have e9 : aPerson S k x = -2 := if_neg (by omega)
    rw [e9] at hp
    exact V_iret kX6_person rfl rfl (hp σ dK.rf hR)
  refine V_top (if_pos h2) ?_
  refine V_run kX6_person 2 [1] (show (zr 1 ∧ ¬ 1 = 0) ∧ V 2 MX6_person 20 [some (vR 5 0), some (vZ k), some (vZ x)] [vZ x] σ post from ⟨(by omega), ?_⟩)
  have e9 : aPerson S k x = if x = 0 then cCm (aC S) k else if x = 1 then cSo (aC S) k else cPa (aC S) k := if_pos ⟨h1, h2⟩
  rw [e9] at hp
  have h3 := hPx.1.2.2.1 k h1.1 h1.2
  obtain ⟨w9, w1, w2, w3⟩ := hPx.1.2.2.2.1
  by_cases q0 : x = 0
  · skip
    rw [if_pos q0] at hp
    refine V_run kX6_person 4 [0] (show (zr x ∧ x = 0) ∧ V 2 MX6_person 28 [some (vR 5 0), some (vZ k), some (vZ x)] [vZ k, vR 1 5] σ post from ⟨(by omega), ?_⟩)
    refine V_callV (a := [vZ k]) (rest := []) kX6_person rfl oX2_comingOf iX2_comingOf lk_6_95 rfl rfl rfl (Nat.le_of_ble_eq_true rfl) (Nat.le_of_ble_eq_true rfl) (Nat.le_of_ble_eq_true rfl) (post' := fun zv zσ => V 2 MX6_person 31 [some (vR 5 0), some (vZ k), some (vZ x)] (zv.toList ++ []) zσ post) (e_P_comingOf (b := 5) zPz5 h1.1 (by omega) h3.1 ((show V 2 MX6_person 31 [some (vR 5 0), some (vZ k), some (vZ x)] [vZ (cCm (aC S) k)] σ post from ?_))) (fun _ _ h => h)
    exact V_iret kX6_person rfl rfl (hp σ dK.rf hR)
  · skip
    rw [if_neg q0] at hp
    refine V_run kX6_person 3 [1] (show (zr x ∧ ¬ x = 0) ∧ V 2 MX6_person 34 [some (vR 5 0), some (vZ k), some (vZ x)] [vZ 1, vZ x] σ post from ⟨(by omega), ?_⟩)
    by_cases q1 : x = 1
    · skip
      rw [if_pos q1] at hp
      refine V_run kX6_person 4 [0] (show (zr x ∧ zr 1 ∧ x = 1) ∧ V 2 MX6_person 42 [some (vR 5 0), some (vZ k), some (vZ x)] [vZ k, vR 1 5] σ post from ⟨(by omega), ?_⟩)
      refine V_callV (a := [vZ k]) (rest := []) kX6_person rfl oX2_sortOf iX2_sortOf lk_6_99 rfl rfl rfl (Nat.le_of_ble_eq_true rfl) (Nat.le_of_ble_eq_true rfl) (Nat.le_of_ble_eq_true rfl) (post' := fun zv zσ => V 2 MX6_person 45 [some (vR 5 0), some (vZ k), some (vZ x)] (zv.toList ++ []) zσ post) (e_P_sortOf (b := 5) zPz5 h1.1 (by omega) h3.2 ((show V 2 MX6_person 45 [some (vR 5 0), some (vZ k), some (vZ x)] [vZ (cSo (aC S) k)] σ post from ?_))) (fun _ _ h => h)
      refine V_run kX6_person 1 [] (show V 2 MX6_person 56 [some (vR 5 0), some (vZ k), some (vZ x)] [vZ (cSo (aC S) k)] σ post from ?_)
      exact V_iret kX6_person rfl rfl (hp σ dK.rf hR)
    · skip
      rw [if_neg q1] at hp
      refine V_run kX6_person 4 [1] (show (zr x ∧ zr 1 ∧ ¬ x = 1) ∧ V 2 MX6_person 53 [some (vR 5 0), some (vZ k), some (vZ x)] [vZ k, vR 1 5] σ post from ⟨(by omega), ?_⟩)
      refine V_callV (a := [vZ k]) (rest := []) kX6_person rfl oX2_parcelOf iX2_parcelOf lk_6_102 rfl rfl rfl (Nat.le_of_ble_eq_true rfl) (Nat.le_of_ble_eq_true rfl) (Nat.le_of_ble_eq_true rfl) (post' := fun zv zσ => V 2 MX6_person 56 [some (vR 5 0), some (vZ k), some (vZ x)] (zv.toList ++ []) zσ post) (c_P_parcelOf (b := 5) w1 w2 h1.1 (by omega) ((show V 2 MX6_person 56 [some (vR 5 0), some (vZ k), some (vZ x)] [vZ (dgt w9 k)] σ post from ?_))) (fun _ _ h => h)
      refine V_top ((w3 k h1.1 (by omega)).trans (if_pos h1.2)) ?_
      exact V_iret kX6_person rfl rfl (hp σ dK.rf hR)
set_option maxHeartbeats 4000000 in
set_option maxRecDepth 100000 in
/-- window -/
theorem c_N_window {t : Int} {S : zAb} {σ : zSt} {post : Option VV → zSt → Prop} (hR : RC σ S) (ho : aOk S) (ht : zr t) (hp : ∀ σ', dK σ σ' → RC σ' S → post (some (vZ (aWindow S t))) σ') : Mc 2 MX6_window [vR 5 0, vZ t] σ post := by
  have hok := aC_ok ho
  have hcn := hok.1
  obtain ⟨hT, hPx, hCo, hG, hS, hK, hF⟩ := id hR
  show V 2 MX6_window 0 [some (vR 5 0), some (vZ t)] [] σ post
  refine V_run kX6_window 1 [] (show V 2 MX6_window 1 [some (vR 5 0), some (vZ t)] [vZ t] σ post from ?_)
  refine V_callS (a := [vZ t]) (rest := []) kX6_window rfl oX6_isMinute iX6_isMinute lk_6_105 rfl rfl (Nat.le_of_ble_eq_true rfl) (Nat.le_of_ble_eq_true rfl) (Nat.le_of_ble_eq_true rfl) (post' := fun zv zσ => V 2 MX6_window 4 [some (vR 5 0), some (vZ t)] (zv.toList ++ []) zσ post) (c_N_isMinute (by omega) ((show V 2 MX6_window 4 [some (vR 5 0), some (vZ t)] [vZ (if 0 ≤ t ∧ t ≤ 23 then 1 else 0)] σ post from ?_))) (fun _ _ h => h)
  by_cases h1 : 0 ≤ t ∧ t ≤ 23
  rotate_left
  · skip
    refine V_top (if_neg h1) ?_
    refine V_run kX6_window 2 [1] (show (zr 0 ∧ 0 = 0) ∧ V 2 MX6_window 20 [some (vR 5 0), some (vZ t)] [vZ (-2)] σ post from ⟨(by omega), ?_⟩)
    have e9 : aWindow S t = -2 := if_neg (by omega)
    rw [e9] at hp
    exact V_iret kX6_window rfl rfl (hp σ dK.rf hR)
  refine V_top (if_pos h1) ?_
  refine V_run kX6_window 4 [0] (show (zr 1 ∧ ¬ 1 = 0) ∧ V 2 MX6_window 12 [some (vR 5 0), some (vZ t)] [vZ t, vR 1 5] σ post from ⟨(by omega), ?_⟩)
  have e9 : aWindow S t = cWi (aC S) t := if_pos h1
  rw [e9] at hp
  refine V_callV (a := [vZ t]) (rest := []) kX6_window rfl oX2_openIn iX2_openIn lk_6_108 rfl rfl rfl (Nat.le_of_ble_eq_true rfl) (Nat.le_of_ble_eq_true rfl) (Nat.le_of_ble_eq_true rfl) (post' := fun zv zσ => V 2 MX6_window 15 [some (vR 5 0), some (vZ t)] (zv.toList ++ []) zσ post) (e_P_openIn (b := 5) zPz5 h1.1 (by omega) (hPx.1.2.2.2.2.1 t h1.1 (by omega)) ((show V 2 MX6_window 15 [some (vR 5 0), some (vZ t)] [vZ (cWi (aC S) t)] σ post from ?_))) (fun _ _ h => h)
  refine V_run kX6_window 1 [] (show V 2 MX6_window 20 [some (vR 5 0), some (vZ t)] [vZ (cWi (aC S) t)] σ post from ?_)
  exact V_iret kX6_window rfl rfl (hp σ dK.rf hR)
set_option maxHeartbeats 4000000 in
set_option maxRecDepth 100000 in
/-- stands -/
theorem c_N_stands {t p : Int} {S : zAb} {σ : zSt} {post : Option VV → zSt → Prop} (hR : RC σ S) (ho : aOk S) (ht : zr t) (hq : zr p) (hp : ∀ σ', dK σ σ' → RC σ' S → post (some (vZ (aStands S t p))) σ') : Mc 2 MX6_stands [vR 5 0, vZ t, vZ p] σ post := by
  have hok := aC_ok ho
  have hcn := hok.1
  obtain ⟨hT, hPx, hCo, hG, hS, hK, hF⟩ := id hR
  show V 2 MX6_stands 0 [some (vR 5 0), some (vZ t), some (vZ p)] [] σ post
  refine V_run kX6_stands 1 [] (show V 2 MX6_stands 1 [some (vR 5 0), some (vZ t), some (vZ p)] [vZ t] σ post from ?_)
  refine V_callS (a := [vZ t]) (rest := []) kX6_stands rfl oX6_isMinute iX6_isMinute lk_6_105 rfl rfl (Nat.le_of_ble_eq_true rfl) (Nat.le_of_ble_eq_true rfl) (Nat.le_of_ble_eq_true rfl) (post' := fun zv zσ => V 2 MX6_stands 4 [some (vR 5 0), some (vZ t), some (vZ p)] (zv.toList ++ []) zσ post) (c_N_isMinute (by omega) ((show V 2 MX6_stands 4 [some (vR 5 0), some (vZ t), some (vZ p)] [vZ (if 0 ≤ t ∧ t ≤ 23 then 1 else 0)] σ post from ?_))) (fun _ _ h => h)
  by_cases h1 : 0 ≤ t ∧ t ≤ 23
  rotate_left
  · skip
    refine V_top (if_neg h1) ?_
    refine V_run kX6_stands 2 [1] (show (zr 0 ∧ 0 = 0) ∧ V 2 MX6_stands 30 [some (vR 5 0), some (vZ t), some (vZ p)] [vZ (-2)] σ post from ⟨(by omega), ?_⟩)
    have e9 : aStands S t p = -2 := if_neg (by omega)
    rw [e9] at hp
    exact V_iret kX6_stands rfl rfl (hp σ dK.rf hR)
  refine V_top (if_pos h1) ?_
  refine V_run kX6_stands 3 [0] (show (zr 1 ∧ ¬ 1 = 0) ∧ V 2 MX6_stands 10 [some (vR 5 0), some (vZ t), some (vZ p)] [vZ 11, vZ p] σ post from ⟨(by omega), ?_⟩)
  refine V_callS (a := [vZ p, vZ 11]) (rest := []) kX6_stands rfl oX6_isFrom0To iX6_isFrom0To lk_6_91 rfl rfl (Nat.le_of_ble_eq_true rfl) (Nat.le_of_ble_eq_true rfl) (Nat.le_of_ble_eq_true rfl) (post' := fun zv zσ => V 2 MX6_stands 13 [some (vR 5 0), some (vZ t), some (vZ p)] (zv.toList ++ []) zσ post) (c_N_from (by omega) (by omega) ((show V 2 MX6_stands 13 [some (vR 5 0), some (vZ t), some (vZ p)] [vZ (if 0 ≤ p ∧ p ≤ 11 then 1 else 0)] σ post from ?_))) (fun _ _ h => h)
  by_cases h2 : 0 ≤ p ∧ p ≤ 11
  rotate_left
  · skip
    refine V_top (if_neg h2) ?_
    refine V_run kX6_stands 2 [1] (show (zr 0 ∧ 0 = 0) ∧ V 2 MX6_stands 30 [some (vR 5 0), some (vZ t), some (vZ p)] [vZ (-2)] σ post from ⟨(by omega), ?_⟩)
    have e9 : aStands S t p = -2 := if_neg (by omega)
    rw [e9] at hp
    exact V_iret kX6_stands rfl rfl (hp σ dK.rf hR)
  refine V_top (if_pos h2) ?_
  refine V_run kX6_stands 5 [0] (show (zr 1 ∧ ¬ 1 = 0) ∧ V 2 MX6_stands 22 [some (vR 5 0), some (vZ t), some (vZ p)] [vZ p, vZ t, vR 0 23] σ post from ⟨(by omega), ?_⟩)
  have e9 : aStands S t p = zWho (aC S) t p := if_pos ⟨h1, h2⟩
  rw [e9] at hp
  refine V_callV (a := [vZ t, vZ p]) (rest := []) kX6_stands rfl oX0_whoAt iX0_whoAt lk_6_138 rfl rfl rfl (Nat.le_of_ble_eq_true rfl) (Nat.le_of_ble_eq_true rfl) (Nat.le_of_ble_eq_true rfl) (post' := fun zv zσ => V 2 MX6_stands 25 [some (vR 5 0), some (vZ t), some (vZ p)] (zv.toList ++ []) zσ post) (c_C_whoAt (b := 23) hok rfl rfl hCo h1.1 (by omega) h2.1 (by omega) ((show V 2 MX6_stands 25 [some (vR 5 0), some (vZ t), some (vZ p)] [vZ (zWho (aC S) t p)] σ post from ?_))) (fun _ _ h => h)
  refine V_run kX6_stands 1 [] (show V 2 MX6_stands 30 [some (vR 5 0), some (vZ t), some (vZ p)] [vZ (zWho (aC S) t p)] σ post from ?_)
  exact V_iret kX6_stands rfl rfl (hp σ dK.rf hR)
set_option maxHeartbeats 4000000 in
set_option maxRecDepth 100000 in
/-- many -/
theorem c_N_many {t : Int} {S : zAb} {σ : zSt} {post : Option VV → zSt → Prop} (hR : RC σ S) (ho : aOk S) (ht : zr t) (hp : ∀ σ', dK σ σ' → RC σ' S → post (some (vZ (aMany S t))) σ') : Mc 2 MX6_many [vR 5 0, vZ t] σ post := by
  have hok := aC_ok ho
  have hcn := hok.1
  obtain ⟨hT, hPx, hCo, hG, hS, hK, hF⟩ := id hR
  show V 2 MX6_many 0 [some (vR 5 0), some (vZ t)] [] σ post
  refine V_run kX6_many 1 [] (show V 2 MX6_many 1 [some (vR 5 0), some (vZ t)] [vZ t] σ post from ?_)
  refine V_callS (a := [vZ t]) (rest := []) kX6_many rfl oX6_isMinute iX6_isMinute lk_6_105 rfl rfl (Nat.le_of_ble_eq_true rfl) (Nat.le_of_ble_eq_true rfl) (Nat.le_of_ble_eq_true rfl) (post' := fun zv zσ => V 2 MX6_many 4 [some (vR 5 0), some (vZ t)] (zv.toList ++ []) zσ post) (c_N_isMinute (by omega) ((show V 2 MX6_many 4 [some (vR 5 0), some (vZ t)] [vZ (if 0 ≤ t ∧ t ≤ 23 then 1 else 0)] σ post from ?_))) (fun _ _ h => h)
  by_cases h1 : 0 ≤ t ∧ t ≤ 23
  rotate_left
  · skip
    refine V_top (if_neg h1) ?_
    refine V_run kX6_many 2 [1] (show (zr 0 ∧ 0 = 0) ∧ V 2 MX6_many 20 [some (vR 5 0), some (vZ t)] [vZ (-2)] σ post from ⟨(by omega), ?_⟩)
    have e9 : aMany S t = -2 := if_neg (by omega)
    rw [e9] at hp
    exact V_iret kX6_many rfl rfl (hp σ dK.rf hR)
  refine V_top (if_pos h1) ?_
  refine V_run kX6_many 4 [0] (show (zr 1 ∧ ¬ 1 = 0) ∧ V 2 MX6_many 12 [some (vR 5 0), some (vZ t)] [vZ t, vR 0 23] σ post from ⟨(by omega), ?_⟩)
  have e9 : aMany S t = dn (zD (aC S) t) := if_pos h1
  rw [e9] at hp
  refine V_callV (a := [vZ t]) (rest := []) kX6_many rfl oX0_howMany iX0_howMany lk_6_142 rfl rfl rfl (Nat.le_of_ble_eq_true rfl) (Nat.le_of_ble_eq_true rfl) (Nat.le_of_ble_eq_true rfl) (post' := fun zv zσ => V 2 MX6_many 15 [some (vR 5 0), some (vZ t)] (zv.toList ++ []) zσ post) (c_C_howMany (b := 23) hok rfl rfl hCo h1.1 (by omega) ((show V 2 MX6_many 15 [some (vR 5 0), some (vZ t)] [vZ (dn (zD (aC S) t))] σ post from ?_))) (fun _ _ h => h)
  refine V_run kX6_many 1 [] (show V 2 MX6_many 20 [some (vR 5 0), some (vZ t)] [vZ (dn (zD (aC S) t))] σ post from ?_)
  exact V_iret kX6_many rfl rfl (hp σ dK.rf hR)
set_option maxHeartbeats 4000000 in
set_option maxRecDepth 100000 in
/-- stateOf -/
theorem c_N_stateOf {t k : Int} {S : zAb} {σ : zSt} {post : Option VV → zSt → Prop} (hR : RC σ S) (ho : aOk S) (t0 : 0 ≤ t) (t1 : t < 24) (k0 : 0 ≤ k) (k1 : k < cn (aC S)) (hp : post (some (vZ (ds (zD (aC S) t) k))) σ) : Mc 2 MX6_stateOf [vR 5 0, vZ t, vZ k] σ post := by
  have hok := aC_ok ho
  have hcn := hok.1
  obtain ⟨hT, hPx, hCo, hG, hS, hK, hF⟩ := id hR
  rw [ds_cases hok t0 k0 k1] at hp
  have hcm := (hok.2.2.1 k k0 k1).1
  have hdl := (zJ_D hok t).2.2.2.2.1 k
  have hpl := zPla_rng hok t k0
  show V 2 MX6_stateOf 0 [some (vR 5 0), some (vZ t), some (vZ k)] [] σ post
  refine V_run kX6_stateOf 4 [] (show V 2 MX6_stateOf 6 [some (vR 5 0), some (vZ t), some (vZ k)] [vZ k, vR 1 5, vZ t] σ post from ?_)
  refine V_callV (a := [vZ k]) (rest := [vZ t]) kX6_stateOf rfl oX2_comingOf iX2_comingOf lk_6_95 rfl rfl rfl (Nat.le_of_ble_eq_true rfl) (Nat.le_of_ble_eq_true rfl) (Nat.le_of_ble_eq_true rfl) (post' := fun zv zσ => V 2 MX6_stateOf 9 [some (vR 5 0), some (vZ t), some (vZ k)] (zv.toList ++ [vZ t]) zσ post) (e_P_comingOf (b := 5) zPz5 k0 (by omega) (hPx.1.2.2.1 k k0 k1).1 ((show V 2 MX6_stateOf 9 [some (vR 5 0), some (vZ t), some (vZ k)] [vZ (cCm (aC S) k), vZ t] σ post from ?_))) (fun _ _ h => h)
  rcases Int.lt_or_le t (cCm (aC S) k) with h1 | h1
  · skip
    rw [if_pos h1] at hp
    refine V_run kX6_stateOf 2 [0] (show (zr t ∧ zr (cCm (aC S) k) ∧ t < (cCm (aC S) k)) ∧ V 2 MX6_stateOf 13 [some (vR 5 0), some (vZ t), some (vZ k)] [vZ 0] σ post from ⟨(by omega), ?_⟩)
    exact V_iret kX6_stateOf rfl rfl (hp)
  · skip
    rw [if_neg (by omega)] at hp
    refine V_run kX6_stateOf 5 [1] (show (zr t ∧ zr (cCm (aC S) k) ∧ (cCm (aC S) k) ≤ t) ∧ V 2 MX6_stateOf 20 [some (vR 5 0), some (vZ t), some (vZ k)] [vZ k, vZ t, vR 0 23] σ post from ⟨(by omega), ?_⟩)
    refine V_callV (a := [vZ t, vZ k]) (rest := []) kX6_stateOf rfl oX0_leftOf iX0_leftOf lk_6_148 rfl rfl rfl (Nat.le_of_ble_eq_true rfl) (Nat.le_of_ble_eq_true rfl) (Nat.le_of_ble_eq_true rfl) (post' := fun zv zσ => V 2 MX6_stateOf 23 [some (vR 5 0), some (vZ t), some (vZ k)] (zv.toList ++ []) zσ post) (c_C_leftOf (b := 23) hok rfl rfl hCo t0 t1 k0 (by omega) ((show V 2 MX6_stateOf 23 [some (vR 5 0), some (vZ t), some (vZ k)] [vZ (dl (zD (aC S) t) k)] σ post from ?_))) (fun _ _ h => h)
    by_cases h2 : dl (zD (aC S) t) k = 0
    · skip
      rw [if_pos h2] at hp
      refine V_run kX6_stateOf 2 [0] (show (zr (dl (zD (aC S) t) k) ∧ (dl (zD (aC S) t) k) = 0) ∧ V 2 MX6_stateOf 27 [some (vR 5 0), some (vZ t), some (vZ k)] [vZ 2] σ post from ⟨(by omega), ?_⟩)
      exact V_iret kX6_stateOf rfl rfl (hp)
    · skip
      rw [if_neg h2] at hp
      refine V_run kX6_stateOf 5 [1] (show (zr (dl (zD (aC S) t) k) ∧ ¬ (dl (zD (aC S) t) k) = 0) ∧ V 2 MX6_stateOf 34 [some (vR 5 0), some (vZ t), some (vZ k)] [vZ k, vZ t, vR 0 23] σ post from ⟨(by omega), ?_⟩)
      refine V_callV (a := [vZ t, vZ k]) (rest := []) kX6_stateOf rfl oX0_placeOf iX0_placeOf lk_6_145 rfl rfl rfl (Nat.le_of_ble_eq_true rfl) (Nat.le_of_ble_eq_true rfl) (Nat.le_of_ble_eq_true rfl) (post' := fun zv zσ => V 2 MX6_stateOf 37 [some (vR 5 0), some (vZ t), some (vZ k)] (zv.toList ++ []) zσ post) (c_C_placeOf (b := 23) hok rfl rfl hCo t0 t1 k0 (by omega) ((show V 2 MX6_stateOf 37 [some (vR 5 0), some (vZ t), some (vZ k)] [vZ (zPla (aC S) t k)] σ post from ?_))) (fun _ _ h => h)
      refine V_run kX6_stateOf 1 [] (show V 2 MX6_stateOf 38 [some (vR 5 0), some (vZ t), some (vZ k)] [vZ (-1), vZ (zPla (aC S) t k)] σ post from ?_)
      by_cases h3 : zPla (aC S) t k = -1
      · skip
        rw [if_pos h3] at hp
        refine V_run kX6_stateOf 3 [0] (show (zr (zPla (aC S) t k) ∧ zr (-1) ∧ (zPla (aC S) t k) = (-1)) ∧ V 2 MX6_stateOf 46 [some (vR 5 0), some (vZ t), some (vZ k)] [vZ 3] σ post from ⟨(by omega), ?_⟩)
        exact V_iret kX6_stateOf rfl rfl (hp)
      · skip
        rw [if_neg h3] at hp
        refine V_run kX6_stateOf 2 [1] (show (zr (zPla (aC S) t k) ∧ zr (-1) ∧ ¬ (zPla (aC S) t k) = (-1)) ∧ V 2 MX6_stateOf 46 [some (vR 5 0), some (vZ t), some (vZ k)] [vZ 1] σ post from ⟨(by omega), ?_⟩)
        exact V_iret kX6_stateOf rfl rfl (hp)
set_option maxHeartbeats 4000000 in
set_option maxRecDepth 100000 in
/-- at -/
theorem c_N_at {t k x : Int} {S : zAb} {σ : zSt} {post : Option VV → zSt → Prop} (hR : RC σ S) (ho : aOk S) (ht : zr t) (hk : zr k) (hx : zr x) (hp : ∀ σ', dK σ σ' → RC σ' S → post (some (vZ (aAt S t k x))) σ') : Mc 3 MX6_at [vR 5 0, vZ t, vZ k, vZ x] σ post := by
  have hok := aC_ok ho
  have hcn := hok.1
  obtain ⟨hT, hPx, hCo, hG, hS, hK, hF⟩ := id hR
  show V 3 MX6_at 0 [some (vR 5 0), some (vZ t), some (vZ k), some (vZ x)] [] σ post
  refine V_run kX6_at 1 [] (show V 3 MX6_at 1 [some (vR 5 0), some (vZ t), some (vZ k), some (vZ x)] [vZ t] σ post from ?_)
  refine V_callS (a := [vZ t]) (rest := []) kX6_at rfl oX6_isMinute iX6_isMinute lk_6_105 rfl rfl (Nat.le_of_ble_eq_true rfl) (Nat.le_of_ble_eq_true rfl) (Nat.le_of_ble_eq_true rfl) (post' := fun zv zσ => V 3 MX6_at 4 [some (vR 5 0), some (vZ t), some (vZ k), some (vZ x)] (zv.toList ++ []) zσ post) (c_N_isMinute (by omega) ((show V 3 MX6_at 4 [some (vR 5 0), some (vZ t), some (vZ k), some (vZ x)] [vZ (if 0 ≤ t ∧ t ≤ 23 then 1 else 0)] σ post from ?_))) (fun _ _ h => h)
  by_cases h1 : 0 ≤ t ∧ t ≤ 23
  rotate_left
  · skip
    refine V_top (if_neg h1) ?_
    refine V_run kX6_at 2 [1] (show (zr 0 ∧ 0 = 0) ∧ V 3 MX6_at 25 [some (vR 5 0), some (vZ t), some (vZ k), some (vZ x)] [vZ (-2)] σ post from ⟨(by omega), ?_⟩)
    have e9 : aAt S t k x = -2 := if_neg (by omega)
    rw [e9] at hp
    exact V_iret kX6_at rfl rfl (hp σ dK.rf hR)
  refine V_top (if_pos h1) ?_
  refine V_run kX6_at 3 [0] (show (zr 1 ∧ ¬ 1 = 0) ∧ V 3 MX6_at 9 [some (vR 5 0), some (vZ t), some (vZ k), some (vZ x)] [vZ k, vR 5 0] σ post from ⟨(by omega), ?_⟩)
  refine V_callV (a := [vZ k]) (rest := []) kX6_at rfl oX6_isPerson iX6_isPerson lk_6_88 rfl rfl rfl (Nat.le_of_ble_eq_true rfl) (Nat.le_of_ble_eq_true rfl) (Nat.le_of_ble_eq_true rfl) (post' := fun zv zσ => V 3 MX6_at 12 [some (vR 5 0), some (vZ t), some (vZ k), some (vZ x)] (zv.toList ++ []) zσ post) (c_N_isPerson hok hPx.1.1 (by omega) ((show V 3 MX6_at 12 [some (vR 5 0), some (vZ t), some (vZ k), some (vZ x)] [vZ (if 0 ≤ k ∧ k < cn (aC S) then 1 else 0)] σ post from ?_))) (fun _ _ h => h)
  by_cases h2 : 0 ≤ k ∧ k < cn (aC S)
  rotate_left
  · skip
    refine V_top (if_neg h2) ?_
    refine V_run kX6_at 2 [1] (show (zr 0 ∧ 0 = 0) ∧ V 3 MX6_at 25 [some (vR 5 0), some (vZ t), some (vZ k), some (vZ x)] [vZ (-2)] σ post from ⟨(by omega), ?_⟩)
    have e9 : aAt S t k x = -2 := if_neg (by omega)
    rw [e9] at hp
    exact V_iret kX6_at rfl rfl (hp σ dK.rf hR)
  refine V_top (if_pos h2) ?_
  refine V_run kX6_at 3 [0] (show (zr 1 ∧ ¬ 1 = 0) ∧ V 3 MX6_at 17 [some (vR 5 0), some (vZ t), some (vZ k), some (vZ x)] [vZ 2, vZ x] σ post from ⟨(by omega), ?_⟩)
  refine V_callS (a := [vZ x, vZ 2]) (rest := []) kX6_at rfl oX6_isFrom0To iX6_isFrom0To lk_6_91 rfl rfl (Nat.le_of_ble_eq_true rfl) (Nat.le_of_ble_eq_true rfl) (Nat.le_of_ble_eq_true rfl) (post' := fun zv zσ => V 3 MX6_at 20 [some (vR 5 0), some (vZ t), some (vZ k), some (vZ x)] (zv.toList ++ []) zσ post) (c_N_from (by omega) (by omega) ((show V 3 MX6_at 20 [some (vR 5 0), some (vZ t), some (vZ k), some (vZ x)] [vZ (if 0 ≤ x ∧ x ≤ 2 then 1 else 0)] σ post from ?_))) (fun _ _ h => h)
  by_cases h3 : 0 ≤ x ∧ x ≤ 2
  rotate_left
  · skip
    refine V_top (if_neg h3) ?_
    refine V_run kX6_at 2 [0] (show (zr 0 ∧ 0 = 0) ∧ V 3 MX6_at 25 [some (vR 5 0), some (vZ t), some (vZ k), some (vZ x)] [vZ (-2)] σ post from ⟨(by omega), ?_⟩)
    have e9 : aAt S t k x = -2 := if_neg (by omega)
    rw [e9] at hp
    exact V_iret kX6_at rfl rfl (hp σ dK.rf hR)
  refine V_top (if_pos h3) ?_
  refine V_run kX6_at 3 [1] (show (zr 1 ∧ ¬ 1 = 0) ∧ V 3 MX6_at 28 [some (vR 5 0), some (vZ t), some (vZ k), some (vZ x)] [vZ 1, vZ x] σ post from ⟨(by omega), ?_⟩)
  have e9 : aAt S t k x = if x = 0 then ds (zD (aC S) t) k else if x = 1 then zPla (aC S) t k else dl (zD (aC S) t) k := if_pos ⟨h1, h2, h3⟩
  rw [e9] at hp
  by_cases q1 : x = 1
  · skip
    rw [if_neg (by omega), if_pos q1] at hp
    refine V_run kX6_at 5 [0] (show (zr x ∧ zr 1 ∧ x = 1) ∧ V 3 MX6_at 37 [some (vR 5 0), some (vZ t), some (vZ k), some (vZ x)] [vZ k, vZ t, vR 0 23] σ post from ⟨(by omega), ?_⟩)
    refine V_callV (a := [vZ t, vZ k]) (rest := []) kX6_at rfl oX0_placeOf iX0_placeOf lk_6_145 rfl rfl rfl (Nat.le_of_ble_eq_true rfl) (Nat.le_of_ble_eq_true rfl) (Nat.le_of_ble_eq_true rfl) (post' := fun zv zσ => V 3 MX6_at 40 [some (vR 5 0), some (vZ t), some (vZ k), some (vZ x)] (zv.toList ++ []) zσ post) (c_C_placeOf (b := 23) hok rfl rfl hCo h1.1 (by omega) h2.1 (by omega) ((show V 3 MX6_at 40 [some (vR 5 0), some (vZ t), some (vZ k), some (vZ x)] [vZ (zPla (aC S) t k)] σ post from ?_))) (fun _ _ h => h)
    exact V_iret kX6_at rfl rfl (hp σ dK.rf hR)
  · skip
    refine V_run kX6_at 3 [1] (show (zr x ∧ zr 1 ∧ ¬ x = 1) ∧ V 3 MX6_at 43 [some (vR 5 0), some (vZ t), some (vZ k), some (vZ x)] [vZ 2, vZ x] σ post from ⟨(by omega), ?_⟩)
    by_cases q2 : x = 2
    · skip
      rw [if_neg (by omega), if_neg q1] at hp
      refine V_run kX6_at 5 [0] (show (zr x ∧ zr 2 ∧ x = 2) ∧ V 3 MX6_at 52 [some (vR 5 0), some (vZ t), some (vZ k), some (vZ x)] [vZ k, vZ t, vR 0 23] σ post from ⟨(by omega), ?_⟩)
      refine V_callV (a := [vZ t, vZ k]) (rest := []) kX6_at rfl oX0_leftOf iX0_leftOf lk_6_148 rfl rfl rfl (Nat.le_of_ble_eq_true rfl) (Nat.le_of_ble_eq_true rfl) (Nat.le_of_ble_eq_true rfl) (post' := fun zv zσ => V 3 MX6_at 55 [some (vR 5 0), some (vZ t), some (vZ k), some (vZ x)] (zv.toList ++ []) zσ post) (c_C_leftOf (b := 23) hok rfl rfl hCo h1.1 (by omega) h2.1 (by omega) ((show V 3 MX6_at 55 [some (vR 5 0), some (vZ t), some (vZ k), some (vZ x)] [vZ (dl (zD (aC S) t) k)] σ post from ?_))) (fun _ _ h => h)
      refine V_run kX6_at 1 [] (show V 3 MX6_at 64 [some (vR 5 0), some (vZ t), some (vZ k), some (vZ x)] [vZ (dl (zD (aC S) t) k)] σ post from ?_)
      exact V_iret kX6_at rfl rfl (hp σ dK.rf hR)
    · skip
      rw [if_pos (by omega)] at hp
      refine V_run kX6_at 4 [1] (show (zr x ∧ zr 2 ∧ ¬ x = 2) ∧ V 3 MX6_at 61 [some (vR 5 0), some (vZ t), some (vZ k), some (vZ x)] [vZ k, vZ t, vR 5 0] σ post from ⟨(by omega), ?_⟩)
      refine V_callV (a := [vZ t, vZ k]) (rest := []) kX6_at rfl oX6_stateOf iX6_stateOf lk_6_151 rfl rfl rfl (Nat.le_of_ble_eq_true rfl) (Nat.le_of_ble_eq_true rfl) (Nat.le_of_ble_eq_true rfl) (post' := fun zv zσ => V 3 MX6_at 64 [some (vR 5 0), some (vZ t), some (vZ k), some (vZ x)] (zv.toList ++ []) zσ post) (c_N_stateOf hR ho h1.1 (by omega) h2.1 h2.2 ((show V 3 MX6_at 64 [some (vR 5 0), some (vZ t), some (vZ k), some (vZ x)] [vZ (ds (zD (aC S) t) k)] σ post from ?_))) (fun _ _ h => h)
      exact V_iret kX6_at rfl rfl (hp σ dK.rf hR)
set_option maxHeartbeats 4000000 in
set_option maxRecDepth 100000 in
/-- apart -/
theorem c_N_apart {t k l : Int} {S : zAb} {σ : zSt} {post : Option VV → zSt → Prop} (hR : RC σ S) (ho : aOk S) (ht : zr t) (hk : zr k) (hl : zr l) (hp : ∀ σ', dK σ σ' → RC σ' S → post (some (vZ (aApart S t k l))) σ') : Mc 2 MX6_apart [vR 5 0, vZ t, vZ k, vZ l] σ post := by
  have hok := aC_ok ho
  have hcn := hok.1
  obtain ⟨hT, hPx, hCo, hG, hS, hK, hF⟩ := id hR
  show V 2 MX6_apart 0 [some (vR 5 0), some (vZ t), some (vZ k), some (vZ l), none, none] [] σ post
  refine V_run kX6_apart 1 [] (show V 2 MX6_apart 1 [some (vR 5 0), some (vZ t), some (vZ k), some (vZ l), none, none] [vZ t] σ post from ?_)
  refine V_callS (a := [vZ t]) (rest := []) kX6_apart rfl oX6_isMinute iX6_isMinute lk_6_105 rfl rfl (Nat.le_of_ble_eq_true rfl) (Nat.le_of_ble_eq_true rfl) (Nat.le_of_ble_eq_true rfl) (post' := fun zv zσ => V 2 MX6_apart 4 [some (vR 5 0), some (vZ t), some (vZ k), some (vZ l), none, none] (zv.toList ++ []) zσ post) (c_N_isMinute (by omega) ((show V 2 MX6_apart 4 [some (vR 5 0), some (vZ t), some (vZ k), some (vZ l), none, none] [vZ (if 0 ≤ t ∧ t ≤ 23 then 1 else 0)] σ post from ?_))) (fun _ _ h => h)
  by_cases h1 : 0 ≤ t ∧ t ≤ 23
  rotate_left
  · skip
    refine V_top (if_neg h1) ?_
    refine V_run kX6_apart 2 [1] (show (zr 0 ∧ 0 = 0) ∧ V 2 MX6_apart 30 [some (vR 5 0), some (vZ t), some (vZ k), some (vZ l), none, none] [vZ (-2)] σ post from ⟨(by omega), ?_⟩)
    have e9 : aApart S t k l = -2 := if_neg (by omega)
    rw [e9] at hp
    exact V_iret kX6_apart rfl rfl (hp σ dK.rf hR)
  refine V_top (if_pos h1) ?_
  refine V_run kX6_apart 3 [0] (show (zr 1 ∧ ¬ 1 = 0) ∧ V 2 MX6_apart 9 [some (vR 5 0), some (vZ t), some (vZ k), some (vZ l), none, none] [vZ k, vR 5 0] σ post from ⟨(by omega), ?_⟩)
  refine V_callV (a := [vZ k]) (rest := []) kX6_apart rfl oX6_isPerson iX6_isPerson lk_6_88 rfl rfl rfl (Nat.le_of_ble_eq_true rfl) (Nat.le_of_ble_eq_true rfl) (Nat.le_of_ble_eq_true rfl) (post' := fun zv zσ => V 2 MX6_apart 12 [some (vR 5 0), some (vZ t), some (vZ k), some (vZ l), none, none] (zv.toList ++ []) zσ post) (c_N_isPerson hok hPx.1.1 (by omega) ((show V 2 MX6_apart 12 [some (vR 5 0), some (vZ t), some (vZ k), some (vZ l), none, none] [vZ (if 0 ≤ k ∧ k < cn (aC S) then 1 else 0)] σ post from ?_))) (fun _ _ h => h)
  by_cases h2 : 0 ≤ k ∧ k < cn (aC S)
  rotate_left
  · skip
    refine V_top (if_neg h2) ?_
    refine V_run kX6_apart 2 [1] (show (zr 0 ∧ 0 = 0) ∧ V 2 MX6_apart 30 [some (vR 5 0), some (vZ t), some (vZ k), some (vZ l), none, none] [vZ (-2)] σ post from ⟨(by omega), ?_⟩)
    have e9 : aApart S t k l = -2 := if_neg (by omega)
    rw [e9] at hp
    exact V_iret kX6_apart rfl rfl (hp σ dK.rf hR)
  refine V_top (if_pos h2) ?_
  refine V_run kX6_apart 3 [0] (show (zr 1 ∧ ¬ 1 = 0) ∧ V 2 MX6_apart 17 [some (vR 5 0), some (vZ t), some (vZ k), some (vZ l), none, none] [vZ l, vR 5 0] σ post from ⟨(by omega), ?_⟩)
  refine V_callV (a := [vZ l]) (rest := []) kX6_apart rfl oX6_isPerson iX6_isPerson lk_6_88 rfl rfl rfl (Nat.le_of_ble_eq_true rfl) (Nat.le_of_ble_eq_true rfl) (Nat.le_of_ble_eq_true rfl) (post' := fun zv zσ => V 2 MX6_apart 20 [some (vR 5 0), some (vZ t), some (vZ k), some (vZ l), none, none] (zv.toList ++ []) zσ post) (c_N_isPerson hok hPx.1.1 (by omega) ((show V 2 MX6_apart 20 [some (vR 5 0), some (vZ t), some (vZ k), some (vZ l), none, none] [vZ (if 0 ≤ l ∧ l < cn (aC S) then 1 else 0)] σ post from ?_))) (fun _ _ h => h)
  by_cases h3 : 0 ≤ l ∧ l < cn (aC S)
  rotate_left
  · skip
    refine V_top (if_neg h3) ?_
    refine V_run kX6_apart 2 [1] (show (zr 0 ∧ 0 = 0) ∧ V 2 MX6_apart 30 [some (vR 5 0), some (vZ t), some (vZ k), some (vZ l), none, none] [vZ (-2)] σ post from ⟨(by omega), ?_⟩)
    have e9 : aApart S t k l = -2 := if_neg (by omega)
    rw [e9] at hp
    exact V_iret kX6_apart rfl rfl (hp σ dK.rf hR)
  refine V_top (if_pos h3) ?_
  refine V_run kX6_apart 3 [0] (show (zr 1 ∧ ¬ 1 = 0) ∧ V 2 MX6_apart 25 [some (vR 5 0), some (vZ t), some (vZ k), some (vZ l), none, none] [vZ l, vZ k] σ post from ⟨(by omega), ?_⟩)
  by_cases h4 : k = l
  · skip
    refine V_run kX6_apart 2 [0] (show (zr k ∧ zr l ∧ k = l) ∧ V 2 MX6_apart 30 [some (vR 5 0), some (vZ t), some (vZ k), some (vZ l), none, none] [vZ (-2)] σ post from ⟨(by omega), ?_⟩)
    have e9 : aApart S t k l = -2 := if_neg (by omega)
    rw [e9] at hp
    exact V_iret kX6_apart rfl rfl (hp σ dK.rf hR)
  · skip
    refine V_run kX6_apart 5 [1] (show (zr k ∧ zr l ∧ ¬ k = l) ∧ V 2 MX6_apart 37 [some (vR 5 0), some (vZ t), some (vZ k), some (vZ l), none, none] [vZ k, vZ t, vR 0 23] σ post from ⟨(by omega), ?_⟩)
    have e9 : aApart S t k l = if zPla (aC S) t k = -1 ∨ zPla (aC S) t l = -1 then -1 else if zPla (aC S) t l < zPla (aC S) t k then zPla (aC S) t k - zPla (aC S) t l - 1 else zPla (aC S) t l - zPla (aC S) t k - 1 := if_pos ⟨h1, h2, h3, h4⟩
    rw [e9] at hp
    have r1 := zPla_rng hok t h2.1
    have r2 := zPla_rng hok t h3.1
    refine V_callV (a := [vZ t, vZ k]) (rest := []) kX6_apart rfl oX0_placeOf iX0_placeOf lk_6_145 rfl rfl rfl (Nat.le_of_ble_eq_true rfl) (Nat.le_of_ble_eq_true rfl) (Nat.le_of_ble_eq_true rfl) (post' := fun zv zσ => V 2 MX6_apart 40 [some (vR 5 0), some (vZ t), some (vZ k), some (vZ l), none, none] (zv.toList ++ []) zσ post) (c_C_placeOf (b := 23) hok rfl rfl hCo h1.1 (by omega) h2.1 (by omega) ((show V 2 MX6_apart 40 [some (vR 5 0), some (vZ t), some (vZ k), some (vZ l), none, none] [vZ (zPla (aC S) t k)] σ post from ?_))) (fun _ _ h => h)
    refine V_run kX6_apart 5 [] (show V 2 MX6_apart 48 [some (vR 5 0), some (vZ t), some (vZ k), some (vZ l), some (vZ (zPla (aC S) t k)), none] [vZ l, vZ t, vR 0 23] σ post from ?_)
    refine V_callV (a := [vZ t, vZ l]) (rest := []) kX6_apart rfl oX0_placeOf iX0_placeOf lk_6_145 rfl rfl rfl (Nat.le_of_ble_eq_true rfl) (Nat.le_of_ble_eq_true rfl) (Nat.le_of_ble_eq_true rfl) (post' := fun zv zσ => V 2 MX6_apart 51 [some (vR 5 0), some (vZ t), some (vZ k), some (vZ l), some (vZ (zPla (aC S) t k)), none] (zv.toList ++ []) zσ post) (c_C_placeOf (b := 23) hok rfl rfl hCo h1.1 (by omega) h3.1 (by omega) ((show V 2 MX6_apart 51 [some (vR 5 0), some (vZ t), some (vZ k), some (vZ l), some (vZ (zPla (aC S) t k)), none] [vZ (zPla (aC S) t l)] σ post from ?_))) (fun _ _ h => h)
    refine V_run kX6_apart 3 [] (show V 2 MX6_apart 56 [some (vR 5 0), some (vZ t), some (vZ k), some (vZ l), some (vZ (zPla (aC S) t k)), some (vZ (zPla (aC S) t l))] [vZ (-1), vZ (zPla (aC S) t k)] σ post from ?_)
    by_cases h5 : zPla (aC S) t k = -1
    · skip
      rw [if_pos (Or.inl h5)] at hp
      refine V_run kX6_apart 3 [1] (show (zr (zPla (aC S) t k) ∧ zr (-1) ∧ (zPla (aC S) t k) = (-1)) ∧ V 2 MX6_apart 79 [some (vR 5 0), some (vZ t), some (vZ k), some (vZ l), some (vZ (zPla (aC S) t k)), some (vZ (zPla (aC S) t l))] [vZ (-1)] σ post from ⟨(by omega), ?_⟩)
      exact V_iret kX6_apart rfl rfl (hp σ dK.rf hR)
    · skip
      refine V_run kX6_apart 3 [0] (show (zr (zPla (aC S) t k) ∧ zr (-1) ∧ ¬ (zPla (aC S) t k) = (-1)) ∧ V 2 MX6_apart 62 [some (vR 5 0), some (vZ t), some (vZ k), some (vZ l), some (vZ (zPla (aC S) t k)), some (vZ (zPla (aC S) t l))] [vZ (-1), vZ (zPla (aC S) t l)] σ post from ⟨(by omega), ?_⟩)
      by_cases h6 : zPla (aC S) t l = -1
      · skip
        rw [if_pos (Or.inr h6)] at hp
        refine V_run kX6_apart 3 [0] (show (zr (zPla (aC S) t l) ∧ zr (-1) ∧ (zPla (aC S) t l) = (-1)) ∧ V 2 MX6_apart 79 [some (vR 5 0), some (vZ t), some (vZ k), some (vZ l), some (vZ (zPla (aC S) t k)), some (vZ (zPla (aC S) t l))] [vZ (-1)] σ post from ⟨(by omega), ?_⟩)
        exact V_iret kX6_apart rfl rfl (hp σ dK.rf hR)
      · skip
        rw [if_neg (fun z => z.elim h5 h6)] at hp
        refine V_run kX6_apart 4 [1] (show (zr (zPla (aC S) t l) ∧ zr (-1) ∧ ¬ (zPla (aC S) t l) = (-1)) ∧ V 2 MX6_apart 74 [some (vR 5 0), some (vZ t), some (vZ k), some (vZ l), some (vZ (zPla (aC S) t k)), some (vZ (zPla (aC S) t l))] [vZ ((zPla (aC S) t k) - (zPla (aC S) t l))] σ post from ⟨(by omega), ?_⟩)
        refine V_abs kX6_apart rfl lk_6_154 (by decide) (Nat.le_of_ble_eq_true rfl) (by omega) (show V 2 MX6_apart 77 [some (vR 5 0), some (vZ t), some (vZ k), some (vZ l), some (vZ (zPla (aC S) t k)), some (vZ (zPla (aC S) t l))] [vZ (if 0 ≤ zPla (aC S) t k - zPla (aC S) t l then zPla (aC S) t k - zPla (aC S) t l else 0 - (zPla (aC S) t k - zPla (aC S) t l))] σ post from ?_)
        refine V_top (show (if 0 ≤ zPla (aC S) t k - zPla (aC S) t l then zPla (aC S) t k - zPla (aC S) t l else 0 - (zPla (aC S) t k - zPla (aC S) t l)) = (if zPla (aC S) t l < zPla (aC S) t k then zPla (aC S) t k - zPla (aC S) t l - 1 else zPla (aC S) t l - zPla (aC S) t k - 1) + 1 by (repeat' split) <;> omega) ?_
        refine V_run kX6_apart 2 [] (show V 2 MX6_apart 79 [some (vR 5 0), some (vZ t), some (vZ k), some (vZ l), some (vZ (zPla (aC S) t k)), some (vZ (zPla (aC S) t l))] [vZ (((if zPla (aC S) t l < zPla (aC S) t k then zPla (aC S) t k - zPla (aC S) t l - 1 else zPla (aC S) t l - zPla (aC S) t k - 1) + 1) - 1)] σ post from ?_)
        refine V_top (Int.add_sub_cancel _ _) ?_
        exact V_iret kX6_apart rfl rfl (hp σ dK.rf hR)
set_option maxHeartbeats 4000000 in
set_option maxRecDepth 100000 in
/-- done -/
theorem c_N_done {k x : Int} {S : zAb} {σ : zSt} {post : Option VV → zSt → Prop} (hR : RC σ S) (ho : aOk S) (hk : zr k) (hx : zr x) (hp : ∀ σ', dK σ σ' → RC σ' S → post (some (vZ (aDone S k x))) σ') : Mc 3 MX6_done [vR 5 0, vZ k, vZ x] σ post := by
  have hok := aC_ok ho
  have hcn := hok.1
  obtain ⟨hT, hPx, hCo, hG, hS, hK, hF⟩ := id hR
  show V 3 MX6_done 0 [some (vR 5 0), some (vZ k), some (vZ x)] [] σ post
  refine V_run kX6_done 2 [] (show V 3 MX6_done 2 [some (vR 5 0), some (vZ k), some (vZ x)] [vZ k, vR 5 0] σ post from ?_)
  refine V_callV (a := [vZ k]) (rest := []) kX6_done rfl oX6_isPerson iX6_isPerson lk_6_88 rfl rfl rfl (Nat.le_of_ble_eq_true rfl) (Nat.le_of_ble_eq_true rfl) (Nat.le_of_ble_eq_true rfl) (post' := fun zv zσ => V 3 MX6_done 5 [some (vR 5 0), some (vZ k), some (vZ x)] (zv.toList ++ []) zσ post) (c_N_isPerson hok hPx.1.1 (by omega) ((show V 3 MX6_done 5 [some (vR 5 0), some (vZ k), some (vZ x)] [vZ (if 0 ≤ k ∧ k < cn (aC S) then 1 else 0)] σ post from ?_))) (fun _ _ h => h)
  by_cases h1 : 0 ≤ k ∧ k < cn (aC S)
  rotate_left
  · skip
    refine V_top (if_neg h1) ?_
    refine V_run kX6_done 2 [1] (show (zr 0 ∧ 0 = 0) ∧ V 3 MX6_done 18 [some (vR 5 0), some (vZ k), some (vZ x)] [vZ (-2)] σ post from ⟨(by omega), ?_⟩)
    have e9 : aDone S k x = -2 := if_neg (by omega)
    rw [e9] at hp
    exact V_iret kX6_done rfl rfl (hp σ dK.rf hR)
  refine V_top (if_pos h1) ?_
  refine V_run kX6_done 3 [0] (show (zr 1 ∧ ¬ 1 = 0) ∧ V 3 MX6_done 10 [some (vR 5 0), some (vZ k), some (vZ x)] [vZ 2, vZ x] σ post from ⟨(by omega), ?_⟩)
  refine V_callS (a := [vZ x, vZ 2]) (rest := []) kX6_done rfl oX6_isFrom0To iX6_isFrom0To lk_6_91 rfl rfl (Nat.le_of_ble_eq_true rfl) (Nat.le_of_ble_eq_true rfl) (Nat.le_of_ble_eq_true rfl) (post' := fun zv zσ => V 3 MX6_done 13 [some (vR 5 0), some (vZ k), some (vZ x)] (zv.toList ++ []) zσ post) (c_N_from (by omega) (by omega) ((show V 3 MX6_done 13 [some (vR 5 0), some (vZ k), some (vZ x)] [vZ (if 0 ≤ x ∧ x ≤ 2 then 1 else 0)] σ post from ?_))) (fun _ _ h => h)
  by_cases h2 : 0 ≤ x ∧ x ≤ 2
  rotate_left
  · skip
    refine V_top (if_neg h2) ?_
    refine V_run kX6_done 2 [0] (show (zr 0 ∧ 0 = 0) ∧ V 3 MX6_done 18 [some (vR 5 0), some (vZ k), some (vZ x)] [vZ (-2)] σ post from ⟨(by omega), ?_⟩)
    have e9 : aDone S k x = -2 := if_neg (by omega)
    rw [e9] at hp
    exact V_iret kX6_done rfl rfl (hp σ dK.rf hR)
  refine V_top (if_pos h2) ?_
  refine V_run kX6_done 2 [1] (show (zr 1 ∧ ¬ 1 = 0) ∧ V 3 MX6_done 20 [some (vR 5 0), some (vZ k), some (vZ x)] [vZ x] σ post from ⟨(by omega), ?_⟩)
  have e9 : aDone S k x = if x = 0 then zSin (aC S) k 24 0 else if x = 1 then zSto (aC S) k 24 0 0 else zMov (aC S) k (23 + 1) 0 (-1) 0 := if_pos ⟨h1, h2⟩
  rw [e9] at hp
  by_cases q0 : x = 0
  · skip
    rw [if_pos q0] at hp
    refine V_run kX6_done 4 [0] (show (zr x ∧ x = 0) ∧ V 3 MX6_done 28 [some (vR 5 0), some (vZ k), some (vZ x)] [vZ k, vR 0 23] σ post from ⟨(by omega), ?_⟩)
    refine V_callV (a := [vZ k]) (rest := []) kX6_done rfl oX0_servedIn iX0_servedIn lk_6_159 rfl rfl rfl (Nat.le_of_ble_eq_true rfl) (Nat.le_of_ble_eq_true rfl) (Nat.le_of_ble_eq_true rfl) (post' := fun zv zσ => V 3 MX6_done 31 [some (vR 5 0), some (vZ k), some (vZ x)] (zv.toList ++ []) zσ post) (c_C_servedIn (b := 23) hok rfl rfl hCo h1.1 (by omega) ((show V 3 MX6_done 31 [some (vR 5 0), some (vZ k), some (vZ x)] [vZ (zSin (aC S) k 24 0)] σ post from ?_))) (fun _ _ h => h)
    exact V_iret kX6_done rfl rfl (hp σ dK.rf hR)
  · skip
    rw [if_neg q0] at hp
    refine V_run kX6_done 3 [1] (show (zr x ∧ ¬ x = 0) ∧ V 3 MX6_done 34 [some (vR 5 0), some (vZ k), some (vZ x)] [vZ 1, vZ x] σ post from ⟨(by omega), ?_⟩)
    by_cases q1 : x = 1
    · skip
      rw [if_pos q1] at hp
      refine V_run kX6_done 4 [0] (show (zr x ∧ zr 1 ∧ x = 1) ∧ V 3 MX6_done 42 [some (vR 5 0), some (vZ k), some (vZ x)] [vZ k, vR 0 23] σ post from ⟨(by omega), ?_⟩)
      refine V_callV (a := [vZ k]) (rest := []) kX6_done rfl oX0_stood iX0_stood lk_6_162 rfl rfl rfl (Nat.le_of_ble_eq_true rfl) (Nat.le_of_ble_eq_true rfl) (Nat.le_of_ble_eq_true rfl) (post' := fun zv zσ => V 3 MX6_done 45 [some (vR 5 0), some (vZ k), some (vZ x)] (zv.toList ++ []) zσ post) (c_C_stood (b := 23) hok rfl rfl hCo h1.1 (by omega) ((show V 3 MX6_done 45 [some (vR 5 0), some (vZ k), some (vZ x)] [vZ (zSto (aC S) k 24 0 0)] σ post from ?_))) (fun _ _ h => h)
      refine V_run kX6_done 1 [] (show V 3 MX6_done 56 [some (vR 5 0), some (vZ k), some (vZ x)] [vZ (zSto (aC S) k 24 0 0)] σ post from ?_)
      exact V_iret kX6_done rfl rfl (hp σ dK.rf hR)
    · skip
      rw [if_neg q1] at hp
      refine V_run kX6_done 4 [1] (show (zr x ∧ zr 1 ∧ ¬ x = 1) ∧ V 3 MX6_done 53 [some (vR 5 0), some (vZ k), some (vZ x)] [vZ k, vR 0 23] σ post from ⟨(by omega), ?_⟩)
      refine V_callV (a := [vZ k]) (rest := []) kX6_done rfl oX0_moves iX0_moves lk_6_165 rfl rfl rfl (Nat.le_of_ble_eq_true rfl) (Nat.le_of_ble_eq_true rfl) (Nat.le_of_ble_eq_true rfl) (post' := fun zv zσ => V 3 MX6_done 56 [some (vR 5 0), some (vZ k), some (vZ x)] (zv.toList ++ []) zσ post) (c_C_moves (b := 23) hok rfl rfl hCo h1.1 (by omega) ((show V 3 MX6_done 56 [some (vR 5 0), some (vZ k), some (vZ x)] [vZ (zMov (aC S) k 24 0 (-1) 0)] σ post from ?_))) (fun _ _ h => h)
      exact V_iret kX6_done rfl rfl (hp σ dK.rf hR)
set_option maxHeartbeats 4000000 in
set_option maxRecDepth 100000 in
/-- alfred -/
theorem c_N_alfred {x : Int} {S : zAb} {σ : zSt} {post : Option VV → zSt → Prop} (hR : RC σ S) (ho : aOk S) (hx : zr x) (hp : ∀ σ', dK σ σ' → RC σ' S → post (some (vZ (aAlfred S x))) σ') : Mc 3 MX6_alfred [vR 5 0, vZ x] σ post := by
  have hok := aC_ok ho
  have hcn := hok.1
  obtain ⟨hT, hPx, hCo, hG, hS, hK, hF⟩ := id hR
  show V 3 MX6_alfred 0 [some (vR 5 0), some (vZ x), none, none, none, none] [] σ post
  refine V_run kX6_alfred 2 [] (show V 3 MX6_alfred 2 [some (vR 5 0), some (vZ x), none, none, none, none] [vZ 1, vZ x] σ post from ?_)
  refine V_callS (a := [vZ x, vZ 1]) (rest := []) kX6_alfred rfl oX6_isFrom0To iX6_isFrom0To lk_6_91 rfl rfl (Nat.le_of_ble_eq_true rfl) (Nat.le_of_ble_eq_true rfl) (Nat.le_of_ble_eq_true rfl) (post' := fun zv zσ => V 3 MX6_alfred 5 [some (vR 5 0), some (vZ x), none, none, none, none] (zv.toList ++ []) zσ post) (c_N_from (by omega) (by omega) ((show V 3 MX6_alfred 5 [some (vR 5 0), some (vZ x), none, none, none, none] [vZ (if 0 ≤ x ∧ x ≤ 1 then 1 else 0)] σ post from ?_))) (fun _ _ h => h)
  by_cases h1 : 0 ≤ x ∧ x ≤ 1
  rotate_left
  · skip
    refine V_top (if_neg h1) ?_
    refine V_run kX6_alfred 2 [0] (show (zr 0 ∧ 0 = 0) ∧ V 3 MX6_alfred 10 [some (vR 5 0), some (vZ x), none, none, none, none] [vZ (-2)] σ post from ⟨(by omega), ?_⟩)
    have e9 : aAlfred S x = -2 := if_neg (by omega)
    rw [e9] at hp
    exact V_iret kX6_alfred rfl rfl (hp σ dK.rf hR)
  refine V_top (if_pos h1) ?_
  refine V_run kX6_alfred 7 [1] (show (zr 1 ∧ ¬ 1 = 0) ∧ V 3 MX6_alfred 18 [some (vR 5 0), some (vZ x), some (vZ (-1)), some (vZ (-1)), some (vZ 0), none] [] σ post from ⟨(by omega), ?_⟩)
  have e9 : aAlfred S x = zAlw (zAlf (aC S) (cn (aC S)).toNat 0 (-1) 0) x := if_pos h1
  rw [e9] at hp
  obtain ⟨v, hv⟩ : ∃ v : Int, v = zAlw (zAlf (aC S) (cn (aC S)).toNat 0 (-1) 0) x := ⟨_, rfl⟩
  rw [← hv] at hp
  have loop : ∀ (m : Nat) (p bb y yr : Int), 0 ≤ p → p + m = cn (aC S) → (-1 ≤ bb ∧ bb ≤ 12) → (-1 ≤ y ∧ y ≤ 24) → ((bb = -1 ∧ y = -1 ∧ yr = 0) ∨ (0 ≤ bb ∧ y = yr ∧ 0 < yr)) → zAlw (zAlf (aC S) m p bb yr) x = v → V 3 MX6_alfred 18 [some (vR 5 0), some (vZ x), some (vZ bb), some (vZ y), some (vZ p), none] [] σ post := by
    intro m
    induction m with
    | zero =>
      intro p bb y yr p0 p1 hb hy hrel he
      unfold zAlf zAlw at he
      refine V_run kX6_alfred 3 [] (show V 3 MX6_alfred 24 [some (vR 5 0), some (vZ x), some (vZ bb), some (vZ y), some (vZ p), none] [vR 1 5, vZ p] σ post from ?_)
      refine V_callV (a := []) (rest := [vZ p]) kX6_alfred rfl oX2_people iX2_people lk_6_168 rfl rfl rfl (Nat.le_of_ble_eq_true rfl) (Nat.le_of_ble_eq_true rfl) (Nat.le_of_ble_eq_true rfl) (post' := fun zv zσ => V 3 MX6_alfred 27 [some (vR 5 0), some (vZ x), some (vZ bb), some (vZ y), some (vZ p), none] (zv.toList ++ [vZ p]) zσ post) (c_P_people (b := 5) ((show V 3 MX6_alfred 27 [some (vR 5 0), some (vZ x), some (vZ bb), some (vZ y), some (vZ p), none] [vZ (σ.1 5 0), vZ p] σ post from ?_))) (fun _ _ h => h)
      refine V_top (hPx.1.1) ?_
      refine V_run kX6_alfred 2 [1] (show (zr p ∧ zr (cn (aC S)) ∧ (cn (aC S)) ≤ p) ∧ V 3 MX6_alfred 65 [some (vR 5 0), some (vZ x), some (vZ bb), some (vZ y), some (vZ p), none] [vZ x] σ post from ⟨(by omega), ?_⟩)
      by_cases h2 : x = 0
      · skip
        rw [if_pos (Or.inr h2)] at he
        rw [← he] at hp
        refine V_run kX6_alfred 3 [0] (show (zr x ∧ x = 0) ∧ V 3 MX6_alfred 73 [some (vR 5 0), some (vZ x), some (vZ bb), some (vZ y), some (vZ p), none] [vZ bb] σ post from ⟨(by omega), ?_⟩)
        exact V_iret kX6_alfred rfl rfl (hp σ dK.rf hR)
      · skip
        have e8 : y = v := by
          rw [← he]
          by_cases z : bb = -1
          · rw [if_pos (Or.inl z)]; show y = bb; omega
          · rw [if_neg (fun q => q.elim z h2)]; show y = yr; omega
        rw [← e8] at hp
        refine V_run kX6_alfred 2 [1] (show (zr x ∧ ¬ x = 0) ∧ V 3 MX6_alfred 73 [some (vR 5 0), some (vZ x), some (vZ bb), some (vZ y), some (vZ p), none] [vZ y] σ post from ⟨(by omega), ?_⟩)
        exact V_iret kX6_alfred rfl rfl (hp σ dK.rf hR)
    | succ m ih =>
      intro p bb y yr p0 p1 hb hy hrel he
      unfold zAlf at he
      have hM := zMf_b (C := aC S) (p := p) 24 0 0
      refine V_run kX6_alfred 3 [] (show V 3 MX6_alfred 24 [some (vR 5 0), some (vZ x), some (vZ bb), some (vZ y), some (vZ p), none] [vR 1 5, vZ p] σ post from ?_)
      refine V_callV (a := []) (rest := [vZ p]) kX6_alfred rfl oX2_people iX2_people lk_6_168 rfl rfl rfl (Nat.le_of_ble_eq_true rfl) (Nat.le_of_ble_eq_true rfl) (Nat.le_of_ble_eq_true rfl) (post' := fun zv zσ => V 3 MX6_alfred 27 [some (vR 5 0), some (vZ x), some (vZ bb), some (vZ y), some (vZ p), none] (zv.toList ++ [vZ p]) zσ post) (c_P_people (b := 5) ((show V 3 MX6_alfred 27 [some (vR 5 0), some (vZ x), some (vZ bb), some (vZ y), some (vZ p), none] [vZ (σ.1 5 0), vZ p] σ post from ?_))) (fun _ _ h => h)
      refine V_top (hPx.1.1) ?_
      refine V_run kX6_alfred 4 [0] (show (zr p ∧ zr (cn (aC S)) ∧ p < (cn (aC S))) ∧ V 3 MX6_alfred 36 [some (vR 5 0), some (vZ x), some (vZ bb), some (vZ y), some (vZ p), none] [vZ p, vR 0 23] σ post from ⟨(by omega), ?_⟩)
      refine V_callV (a := [vZ p]) (rest := []) kX6_alfred rfl oX0_minutesFirst iX0_minutesFirst lk_6_171 rfl rfl rfl (Nat.le_of_ble_eq_true rfl) (Nat.le_of_ble_eq_true rfl) (Nat.le_of_ble_eq_true rfl) (post' := fun zv zσ => V 3 MX6_alfred 39 [some (vR 5 0), some (vZ x), some (vZ bb), some (vZ y), some (vZ p), none] (zv.toList ++ []) zσ post) (c_C_minutesFirst (b := 23) hok rfl rfl hCo p0 (by omega) ((show V 3 MX6_alfred 39 [some (vR 5 0), some (vZ x), some (vZ bb), some (vZ y), some (vZ p), none] [vZ (zMf (aC S) p 24 0 0)] σ post from ?_))) (fun _ _ h => h)
      obtain ⟨n9, hn9⟩ : ∃ n : Int, n = zMf (aC S) p 24 0 0 := ⟨_, rfl⟩
      rw [← hn9] at he hM
      rw [← hn9]
      refine V_run kX6_alfred 2 [] (show V 3 MX6_alfred 43 [some (vR 5 0), some (vZ x), some (vZ bb), some (vZ y), some (vZ p), some (vZ n9)] [vZ n9] σ post from ?_)
      rcases Int.lt_or_le yr n9 with h1 | h1
      · skip
        rw [if_pos h1, if_pos h1] at he
        refine V_run kX6_alfred 10 [0, 0] (show (zr n9 ∧ 0 < n9) ∧ (zr n9 ∧ zr y ∧ y < n9) ∧ V 3 MX6_alfred 18 [some (vR 5 0), some (vZ x), some (vZ p), some (vZ n9), some (vZ (p + 1)), some (vZ n9)] [] σ post from ⟨(by omega), (by omega), ?_⟩)
        refine V_drop (L := [some (vR 5 0), some (vZ x), some (vZ p), some (vZ n9), some (vZ (p + 1)), none]) ⟨rfl, ⟨rfl, ⟨rfl, ⟨rfl, ⟨rfl, trivial⟩⟩⟩⟩⟩ ?_
        exact ih (p + 1) p n9 n9 (by omega) (by omega) (by omega) (by omega) (by omega) he
      · skip
        rw [if_neg (by omega), if_neg (by omega)] at he
        rcases Int.lt_or_le 0 n9 with h2 | h2
        · skip
          refine V_run kX6_alfred 6 [0, 1] (show (zr n9 ∧ 0 < n9) ∧ (zr n9 ∧ zr y ∧ n9 ≤ y) ∧ V 3 MX6_alfred 18 [some (vR 5 0), some (vZ x), some (vZ bb), some (vZ y), some (vZ (p + 1)), some (vZ n9)] [] σ post from ⟨(by omega), (by omega), ?_⟩)
          refine V_drop (L := [some (vR 5 0), some (vZ x), some (vZ bb), some (vZ y), some (vZ (p + 1)), none]) ⟨rfl, ⟨rfl, ⟨rfl, ⟨rfl, ⟨rfl, trivial⟩⟩⟩⟩⟩ ?_
          exact ih (p + 1) bb y yr (by omega) (by omega) hb hy hrel he
        · skip
          refine V_run kX6_alfred 3 [1] (show (zr n9 ∧ n9 ≤ 0) ∧ V 3 MX6_alfred 18 [some (vR 5 0), some (vZ x), some (vZ bb), some (vZ y), some (vZ (p + 1)), some (vZ n9)] [] σ post from ⟨(by omega), ?_⟩)
          refine V_drop (L := [some (vR 5 0), some (vZ x), some (vZ bb), some (vZ y), some (vZ (p + 1)), none]) ⟨rfl, ⟨rfl, ⟨rfl, ⟨rfl, ⟨rfl, trivial⟩⟩⟩⟩⟩ ?_
          exact ih (p + 1) bb y yr (by omega) (by omega) hb hy hrel he
  exact loop (cn (aC S)).toNat 0 (-1) (-1) 0 (by omega) (by omega) (by omega) (by omega) (Or.inl ⟨rfl, rfl, rfl⟩) hv.symm
set_option maxHeartbeats 4000000 in
set_option maxRecDepth 100000 in
/-- kettle -/
theorem c_N_kettle {S : zAb} {σ : zSt} {post : Option VV → zSt → Prop} (hR : RC σ S) (ho : aOk S) (hp : ∀ σ', dK σ σ' → RC σ' S → post (some (vZ (aKettle S))) σ') : Mc 3 MX6_kettle [vR 5 0] σ post := by
  have hok := aC_ok ho
  have hcn := hok.1
  obtain ⟨hT, hPx, hCo, hG, hS, hK, hF⟩ := id hR
  unfold aKettle at hp
  obtain ⟨v, hv⟩ : ∃ v : Int, v = zKet (aC S) (cn (aC S)).toNat 0 0 := ⟨_, rfl⟩
  rw [← hv] at hp
  have loop : ∀ (m : Nat) (p a : Int), 0 ≤ p → p + m = cn (aC S) → zKet (aC S) m p a = v → V 3 MX6_kettle 4 [some (vR 5 0), some (vZ a), some (vZ p)] [] σ post := by
    intro m
    induction m with
    | zero =>
      intro p a p0 p1 he
      unfold zKet at he
      rw [← he] at hp
      refine V_run kX6_kettle 3 [] (show V 3 MX6_kettle 9 [some (vR 5 0), some (vZ a), some (vZ p)] [vR 1 5, vZ p] σ post from ?_)
      refine V_callV (a := []) (rest := [vZ p]) kX6_kettle rfl oX2_people iX2_people lk_6_168 rfl rfl rfl (Nat.le_of_ble_eq_true rfl) (Nat.le_of_ble_eq_true rfl) (Nat.le_of_ble_eq_true rfl) (post' := fun zv zσ => V 3 MX6_kettle 12 [some (vR 5 0), some (vZ a), some (vZ p)] (zv.toList ++ [vZ p]) zσ post) (c_P_people (b := 5) ((show V 3 MX6_kettle 12 [some (vR 5 0), some (vZ a), some (vZ p)] [vZ (σ.1 5 0), vZ p] σ post from ?_))) (fun _ _ h => h)
      refine V_top (hPx.1.1) ?_
      refine V_run kX6_kettle 2 [1] (show (zr p ∧ zr (cn (aC S)) ∧ (cn (aC S)) ≤ p) ∧ V 3 MX6_kettle 42 [some (vR 5 0), some (vZ a), some (vZ p)] [vZ a] σ post from ⟨(by omega), ?_⟩)
      exact V_iret kX6_kettle rfl rfl (hp σ dK.rf hR)
    | succ m ih =>
      intro p a p0 p1 he
      unfold zKet at he
      have hpl := zPla_rng hok 23 p0
      refine V_run kX6_kettle 3 [] (show V 3 MX6_kettle 9 [some (vR 5 0), some (vZ a), some (vZ p)] [vR 1 5, vZ p] σ post from ?_)
      refine V_callV (a := []) (rest := [vZ p]) kX6_kettle rfl oX2_people iX2_people lk_6_168 rfl rfl rfl (Nat.le_of_ble_eq_true rfl) (Nat.le_of_ble_eq_true rfl) (Nat.le_of_ble_eq_true rfl) (post' := fun zv zσ => V 3 MX6_kettle 12 [some (vR 5 0), some (vZ a), some (vZ p)] (zv.toList ++ [vZ p]) zσ post) (c_P_people (b := 5) ((show V 3 MX6_kettle 12 [some (vR 5 0), some (vZ a), some (vZ p)] [vZ (σ.1 5 0), vZ p] σ post from ?_))) (fun _ _ h => h)
      refine V_top (hPx.1.1) ?_
      refine V_run kX6_kettle 5 [0] (show (zr p ∧ zr (cn (aC S)) ∧ p < (cn (aC S))) ∧ V 3 MX6_kettle 22 [some (vR 5 0), some (vZ a), some (vZ p)] [vZ p, vZ 23, vR 0 23] σ post from ⟨(by omega), ?_⟩)
      refine V_callV (a := [vZ 23, vZ p]) (rest := []) kX6_kettle rfl oX0_placeOf iX0_placeOf lk_6_145 rfl rfl rfl (Nat.le_of_ble_eq_true rfl) (Nat.le_of_ble_eq_true rfl) (Nat.le_of_ble_eq_true rfl) (post' := fun zv zσ => V 3 MX6_kettle 25 [some (vR 5 0), some (vZ a), some (vZ p)] (zv.toList ++ []) zσ post) (c_C_placeOf (b := 23) hok rfl rfl hCo (by omega) (by omega) p0 (by omega) ((show V 3 MX6_kettle 25 [some (vR 5 0), some (vZ a), some (vZ p)] [vZ (zPla (aC S) 23 p)] σ post from ?_))) (fun _ _ h => h)
      refine V_run kX6_kettle 1 [] (show V 3 MX6_kettle 26 [some (vR 5 0), some (vZ a), some (vZ p)] [vZ (-1), vZ (zPla (aC S) 23 p)] σ post from ?_)
      by_cases h1 : zPla (aC S) 23 p = -1
      · skip
        have h2 : ¬ ds (zD (aC S) 23) p = 1 := fun z => (hpl.2.2.mp h1) ⟨by omega, z⟩
        rw [if_neg h2] at he
        refine V_run kX6_kettle 3 [1] (show (zr (zPla (aC S) 23 p) ∧ zr (-1) ∧ (zPla (aC S) 23 p) = (-1)) ∧ V 3 MX6_kettle 4 [some (vR 5 0), some (vZ a), some (vZ (p + 1))] [] σ post from ⟨(by omega), ?_⟩)
        exact ih (p + 1) _ (by omega) (by omega) he
      · skip
        have h2 : ds (zD (aC S) 23) p = 1 := by
          by_cases z : ds (zD (aC S) 23) p = 1
          · exact z
          · exact absurd (hpl.2.2.mpr (fun q => z q.2)) h1
        rw [if_pos h2] at he
        refine V_run kX6_kettle 9 [0] (show (zr (zPla (aC S) 23 p) ∧ zr (-1) ∧ ¬ (zPla (aC S) 23 p) = (-1)) ∧ V 3 MX6_kettle 4 [some (vR 5 0), some (vZ (zor a (zshl 1 p))), some (vZ (p + 1))] [] σ post from ⟨(by omega), ?_⟩)
        exact ih (p + 1) _ (by omega) (by omega) he
  show V 3 MX6_kettle 0 [some (vR 5 0), none, none] [] σ post
  refine V_run kX6_kettle 4 [] (show V 3 MX6_kettle 4 [some (vR 5 0), some (vZ 0), some (vZ 0)] [] σ post from ?_)
  exact loop (cn (aC S)).toNat 0 0 (by omega) (by omega) hv.symm
