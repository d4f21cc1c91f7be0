set_option maxHeartbeats 4000000 in
set_option maxRecDepth 100000 in
/-- event -/
theorem c_N_event {k t p : Int} {S : zAb} {σ : zSt} {post : Option VV → zSt → Prop} (hR : RC σ S) (ho : aOk S) (hk : zr k) (ht : zr t) (hq : zr p) (hp : ∀ σ', dK σ σ' → RC σ' (tEvent S k t p).1 → post (some (vZ (tEvent S k t p).2)) σ') : Mc 4 MX6_event [vR 5 0, vZ k, vZ t, vZ p] σ post := by
  have hok := aC_ok ho
  have hcn := hok.1
  obtain ⟨hT, hPx, hCo, hG, hS, hK, hF⟩ := id hR
  unfold tEvent at hp
  have hen := ho.2.2.1
  show V 4 MX6_event 0 [some (vR 5 0), some (vZ k), some (vZ t), some (vZ p), none] [] σ post
  refine V_run kX6_event 4 [] (show V 4 MX6_event 4 [some (vR 5 0), some (vZ k), some (vZ t), some (vZ p), none] [vZ p, vZ t, vZ k, vR 5 0] σ post from ?_)
  have kbad : ¬ ((0 ≤ k ∧ k ≤ 2) ∧ (0 ≤ t ∧ t ≤ 23) ∧ 0 ≤ p ∧ p ≤ 11) → V 4 MX6_event 7 [some (vR 5 0), some (vZ k), some (vZ t), some (vZ p), none] [vZ (-2)] σ post := by
    intro q
    rw [if_neg q] at hp
    refine V_run kX6_event 4 [1] (show (zr (-2) ∧ (-2) < 0) ∧ V 4 MX6_event 20 [some (vR 5 0), some (vZ k), some (vZ t), some (vZ p), some (vZ (-2))] [vZ (-2)] σ post from ⟨(by omega), ?_⟩)
    exact V_iret kX6_event rfl rfl (hp σ dK.rf hR)
  have kfull : ((0 ≤ k ∧ k ≤ 2) ∧ (0 ≤ t ∧ t ≤ 23) ∧ 0 ≤ p ∧ p ≤ 11) → a_eN S = 8 → V 4 MX6_event 7 [some (vR 5 0), some (vZ k), some (vZ t), some (vZ p), none] [vZ (-4)] σ post := by
    intro q q8
    rw [if_pos q, if_pos q8] at hp
    refine V_run kX6_event 4 [1] (show (zr (-4) ∧ (-4) < 0) ∧ V 4 MX6_event 20 [some (vR 5 0), some (vZ k), some (vZ t), some (vZ p), some (vZ (-4))] [vZ (-4)] σ post from ⟨(by omega), ?_⟩)
    exact V_iret kX6_event rfl rfl (hp σ dK.rf hR)
  have kgo : ((0 ≤ k ∧ k ≤ 2) ∧ (0 ≤ t ∧ t ≤ 23) ∧ 0 ≤ p ∧ p ≤ 11) → a_eN S < 8 → ∀ σ', dK σ σ' → (∀ a : Nat, a < 44 → ¬ (5 ≤ a ∧ a ≤ 13) → σ'.1 a = σ.1 a) → RCn σ' (aEventS S k t p) → V 4 MX6_event 7 [some (vR 5 0), some (vZ k), some (vZ t), some (vZ p), none] [vZ (a_eN S + 1)] σ' post := by
    intro q q8 σ' hk' _ hR'
    rw [if_pos q, if_neg (by omega)] at hp
    refine V_run kX6_event 4 [0] (show (zr (a_eN S + 1) ∧ 0 ≤ (a_eN S + 1)) ∧ V 4 MX6_event 15 [some (vR 5 0), some (vZ k), some (vZ t), some (vZ p), some (vZ (a_eN S + 1))] [vR 5 0] σ' post from ⟨(by omega), ?_⟩)
    refine V_callV (a := []) (rest := []) kX6_event rfl oX6_happen iX6_happen lk_6_115 rfl rfl rfl (Nat.le_of_ble_eq_true rfl) (Nat.le_of_ble_eq_true rfl) (Nat.le_of_ble_eq_true rfl) (post' := fun zv zσ => V 4 MX6_event 18 [some (vR 5 0), some (vZ k), some (vZ t), some (vZ p), some (vZ (a_eN S + 1))] (zv.toList ++ []) zσ post) (c_N_happen hR'.2.1.1 (fun _ _ _ => rfl) (fun σ9 hf9 hco9 => (show V 4 MX6_event 18 [some (vR 5 0), some (vZ k), some (vZ t), some (vZ p), some (vZ (a_eN S + 1))] [] σ9 post from ?_))) (fun _ _ h => h)
    refine V_run kX6_event 1 [] (show V 4 MX6_event 20 [some (vR 5 0), some (vZ k), some (vZ t), some (vZ p), some (vZ (a_eN S + 1))] [vZ (a_eN S + 1)] σ9 post from ?_)
    exact V_iret kX6_event rfl rfl (hp σ9 (hk'.tr hf9.k) (RC_happen hR' hf9 hco9))
  refine V_callV (a := [vZ k, vZ t, vZ p]) (rest := []) kX6_event rfl oX6_takeEvent iX6_takeEvent lk_6_111 rfl rfl rfl (Nat.le_of_ble_eq_true rfl) (Nat.le_of_ble_eq_true rfl) (Nat.le_of_ble_eq_true rfl) (post' := fun zv zσ => V 4 MX6_event 7 [some (vR 5 0), some (vZ k), some (vZ t), some (vZ p), none] (zv.toList ++ []) zσ post) (c_N_take hR.n ho hk ht hq kbad kfull kgo) (fun _ _ h => h)
set_option maxHeartbeats 4000000 in
set_option maxRecDepth 100000 in
/-- back -/
theorem c_N_back {S : zAb} {σ : zSt} {post : Option VV → zSt → Prop} (hR : RC σ S) (ho : aOk S) (hp : ∀ σ', dK σ σ' → RC σ' (tBack S).1 → post (some (vZ (tBack S).2)) σ') : Mc 4 MX6_back [vR 5 0] σ post := by
  have hok := aC_ok ho
  have hcn := hok.1
  obtain ⟨hT, hPx, hCo, hG, hS, hK, hF⟩ := id hR
  unfold tBack at hp
  have hen := ho.2.2.1
  show V 4 MX6_back 0 [some (vR 5 0)] [] σ post
  refine V_run kX6_back 2 [] (show V 4 MX6_back 4 [some (vR 5 0)] [vR 1 5] σ post from ?_)
  by_cases h1 : a_eN S = 0
  · skip
    rw [if_pos h1] at hp
    refine V_callV (a := []) (rest := []) kX6_back rfl oX2_dropEvent iX2_dropEvent lk_6_118 rfl rfl rfl (Nat.le_of_ble_eq_true rfl) (Nat.le_of_ble_eq_true rfl) (Nat.le_of_ble_eq_true rfl) (post' := fun zv zσ => V 4 MX6_back 7 [some (vR 5 0)] (zv.toList ++ []) zσ post) (c_P_dropEvent0 (b := 5) (hPx.1.2.1.trans h1) ((show V 4 MX6_back 7 [some (vR 5 0)] [vZ 0] σ post from ?_))) (fun _ _ h => h)
    refine V_run kX6_back 2 [0] (show (zr 0 ∧ 0 = 0) ∧ V 4 MX6_back 12 [some (vR 5 0)] [vZ (-3)] σ post from ⟨(by omega), ?_⟩)
    exact V_iret kX6_back rfl rfl (hp σ dK.rf hR)
  · skip
    rw [if_neg h1] at hp
    have hm := (hPx.1.2.2.2.2.2.1 (a_eN S - 1) (by omega) (show a_eN S - 1 < a_eN S by omega)).2.1
    have hv := (hok.2.2.2.2 (a_eN S - 1) (by omega) (show a_eN S - 1 < a_eN S by omega)).2.1
    refine V_callV (a := []) (rest := []) kX6_back rfl oX2_dropEvent iX2_dropEvent lk_6_118 rfl rfl rfl (Nat.le_of_ble_eq_true rfl) (Nat.le_of_ble_eq_true rfl) (Nat.le_of_ble_eq_true rfl) (post' := fun zv zσ => V 4 MX6_back 7 [some (vR 5 0)] (zv.toList ++ []) zσ post) (c_P_dropEvent (b := 5) (e := a_eN S - 1) zPz5 (hPx.1.2.1.trans (show a_eN S = a_eN S - 1 + 1 by omega)) (by omega) (by omega) (by rw [hm]; exact hv.1) (by rw [hm]; omega) ((show V 4 MX6_back 7 [some (vR 5 0)] [vZ 1] (sDrop σ 5 (a_eN S - 1)) post from ?_))) (fun _ _ h => h)
    have hx : zPx (sDrop σ 5 (a_eN S - 1)) 5 (aC (aBackS S)) := zPx_drop (C := aC S) (b := 5) hPx (show 0 < a_eN S by omega)
    have hN2 : RCn (sDrop σ 5 (a_eN S - 1)) (aBackS S) := RCn_fr hR.n (fun a x y => sDrop_ne (by omega)) hx ⟨rfl, rfl, rfl, rfl⟩ ⟨⟨rfl, rfl, rfl, rfl⟩, ⟨rfl, rfl, rfl⟩, rfl⟩
    refine V_run kX6_back 2 [1] (show (zr 1 ∧ ¬ 1 = 0) ∧ V 4 MX6_back 14 [some (vR 5 0)] [vR 5 0] (sDrop σ 5 (a_eN S - 1)) post from ⟨(by omega), ?_⟩)
    refine V_callV (a := []) (rest := []) kX6_back rfl oX6_happen iX6_happen lk_6_115 rfl rfl rfl (Nat.le_of_ble_eq_true rfl) (Nat.le_of_ble_eq_true rfl) (Nat.le_of_ble_eq_true rfl) (post' := fun zv zσ => V 4 MX6_back 17 [some (vR 5 0)] (zv.toList ++ []) zσ post) (c_N_happen hx.1 (fun _ _ _ => rfl) (fun σ9 hf9 hco9 => (show V 4 MX6_back 17 [some (vR 5 0)] [] σ9 post from ?_))) (fun _ _ h => h)
    have hR9 := RC_happen hN2 hf9 hco9
    refine V_run kX6_back 2 [] (show V 4 MX6_back 21 [some (vR 5 0)] [vR 1 5] σ9 post from ?_)
    refine V_callV (a := []) (rest := []) kX6_back rfl oX2_events iX2_events lk_6_121 rfl rfl rfl (Nat.le_of_ble_eq_true rfl) (Nat.le_of_ble_eq_true rfl) (Nat.le_of_ble_eq_true rfl) (post' := fun zv zσ => V 4 MX6_back 24 [some (vR 5 0)] (zv.toList ++ []) zσ post) (e_P_events (b := 5) (x := a_eN S - 1) hR9.2.1.1.2.1 ((show V 4 MX6_back 24 [some (vR 5 0)] [vZ (a_eN S - 1)] σ9 post from ?_))) (fun _ _ h => h)
    exact V_iret kX6_back rfl rfl (hp σ9 (dK.tr (σ' := sDrop σ 5 (a_eN S - 1)) (fun a x => ⟨sDrop_ne (by omega), rfl⟩) hf9.k) hR9)
theorem RCn_sh {σ : zSt} {S : zAb} {s : Int} {b : Nat} (h : RS σ S) (s0 : 0 ≤ s) (s1 : s < 4) (hb : 33 + 1 + 2 * s.toNat = b) : σ.1 b 1 = a_hF S s ∧ σ.1 b 2 = a_hN S s ∧ (a_hF S s ≠ -1 → ∀ i : Int, 0 ≤ i → i < 60 → σ.1 (b + 1) i = a_hI S s i) := by
  subst hb; exact h s s0 s1
theorem RC_11 {σ : zSt} {S : zAb} {f : Int} (h : RC σ S) : RC (uI σ 0 11 f) (aFndS S f) := by
  obtain ⟨h1, h2, h3, h4, h5, h6, h7⟩ := h
  exact ⟨RT_c (uI_ne (by decide)) (uI_ne (by decide)) (uI_ne (by decide)) (uI_ne (by decide)) h1, zPx_cong (fun k a b => uI_ne (by omega)) rfl h2, zCo_cong (by rw [uI_ne (by decide)]) rfl rfl rfl h3, RG_c (uI_ne (by decide)) (uI_ne (by decide)) (uI_ne (by decide)) (uI_ne (by decide)) h4, RS_c (fun a x y => uI_ne (by omega)) h5, RK_c (by rw [uI_at, if_neg (by decide)]) (uI_ne (by decide)) h6, uI_get⟩
set_option maxHeartbeats 8000000 in
set_option maxRecDepth 100000 in
/-- read -/
theorem c_N_read {s : Int} {S : zAb} {σ : zSt} {post : Option VV → zSt → Prop} (hR : RC σ S) (ho : aOk S) (hs : zr s) (hp : ∀ σ', dK σ σ' → RC σ' (tRead S s).1 → post (some (vZ (tRead S s).2)) σ') : Mc 4 MX6_read [vR 5 0, vZ s] σ post := by
  have hok := aC_ok ho
  have hcn := hok.1
  obtain ⟨hT, hPx, hCo, hG, hS, hK, hF⟩ := id hR
  unfold tRead at hp
  show V 4 MX6_read 0 [some (vR 5 0), some (vZ s), none, none, none] [] σ post
  refine V_run kX6_read 2 [] (show V 4 MX6_read 2 [some (vR 5 0), some (vZ s), none, none, none] [vZ s, vR 5 0] σ post from ?_)
  by_cases h1 : 0 ≤ s ∧ s ≤ 3
  rotate_left
  · skip
    rw [if_neg h1] at hp
    refine V_callV (a := [vZ s]) (rest := []) kX6_read rfl oX6_sheetOf iX6_sheetOf lk_6_124 rfl rfl rfl (Nat.le_of_ble_eq_true rfl) (Nat.le_of_ble_eq_true rfl) (Nat.le_of_ble_eq_true rfl) (post' := fun zv zσ => V 4 MX6_read 5 [some (vR 5 0), some (vZ s), none, none, none] (zv.toList ++ []) zσ post) (c_N_sheetOfN hs h1 ((show V 4 MX6_read 5 [some (vR 5 0), some (vZ s), none, none, none] [vN] σ post from ?_))) (fun _ _ h => h)
    refine V_run kX6_read 4 [] (show V 4 MX6_read 12 [some (vR 5 0), some (vZ s), some (vN), none, none] [vZ (-2)] σ post from ?_)
    exact V_iret kX6_read rfl rfl (hp σ dK.rf hR)
  rw [if_pos h1] at hp
  obtain ⟨b, hb⟩ : ∃ b : Nat, 33 + 1 + 2 * s.toNat = b := ⟨_, rfl⟩
  have hsh := RCn_sh hS h1.1 (by omega) hb
  have os := ho.2.2.2.2 s h1.1 (by omega)
  have hz := zl_sh h1.1 (by omega) hb
  refine V_callV (a := [vZ s]) (rest := []) kX6_read rfl oX6_sheetOf iX6_sheetOf lk_6_124 rfl rfl rfl (Nat.le_of_ble_eq_true rfl) (Nat.le_of_ble_eq_true rfl) (Nat.le_of_ble_eq_true rfl) (post' := fun zv zσ => V 4 MX6_read 5 [some (vR 5 0), some (vZ s), none, none, none] (zv.toList ++ []) zσ post) (c_N_sheetOf h1.1 (by omega) hb ((show V 4 MX6_read 5 [some (vR 5 0), some (vZ s), none, none, none] [vR 2 b] σ post from ?_))) (fun _ _ h => h)
  refine V_run kX6_read 4 [] (show V 4 MX6_read 14 [some (vR 5 0), some (vZ s), some (vR 2 b), none, none] [vR 2 b] σ post from ?_)
  refine V_callV (a := []) (rest := []) kX6_read rfl oX3_isLost iX3_isLost lk_6_128 rfl rfl rfl (Nat.le_of_ble_eq_true rfl) (Nat.le_of_ble_eq_true rfl) (Nat.le_of_ble_eq_true rfl) (post' := fun zv zσ => V 4 MX6_read 17 [some (vR 5 0), some (vZ s), some (vR 2 b), none, none] (zv.toList ++ []) zσ post) (c_S_isLost (by rw [hsh.1]; omega) ((show V 4 MX6_read 17 [some (vR 5 0), some (vZ s), some (vR 2 b), none, none] [vZ (if σ.1 b 1 = -1 then 1 else 0)] σ post from ?_))) (fun _ _ h => h)
  refine V_top (show (if σ.1 b 1 = -1 then (1 : Int) else 0) = (if a_hF S s = -1 then 1 else 0) by rw [hsh.1]) ?_
  by_cases h2 : a_hF S s = -1
  · skip
    rw [if_pos h2] at hp
    refine V_top (if_pos h2) ?_
    refine V_run kX6_read 3 [0] (show (zr 1 ∧ ¬ 1 = 0) ∧ V 4 MX6_read 22 [some (vR 5 0), some (vZ s), some (vR 2 b), none, none] [vZ 1, vR 5 0] σ post from ⟨(by omega), ?_⟩)
    refine V_callV (a := [vZ 1]) (rest := []) kX6_read rfl oX6_found iX6_found lk_6_131 rfl rfl rfl (Nat.le_of_ble_eq_true rfl) (Nat.le_of_ble_eq_true rfl) (Nat.le_of_ble_eq_true rfl) (post' := fun zv zσ => V 4 MX6_read 25 [some (vR 5 0), some (vZ s), some (vR 2 b), none, none] (zv.toList ++ []) zσ post) (c_N_found ((show V 4 MX6_read 25 [some (vR 5 0), some (vZ s), some (vR 2 b), none, none] [vZ (-10 - 1)] (uI σ 0 11 1) post from ?_))) (fun _ _ h => h)
    exact V_iret kX6_read rfl rfl (hp _ (dK.rf.u (by decide)) (RC_11 hR))
  · skip
    rw [if_neg h2] at hp
    refine V_top (if_neg h2) ?_
    refine V_run kX6_read 5 [1] (show (zr 0 ∧ 0 = 0) ∧ V 4 MX6_read 31 [some (vR 5 0), some (vZ s), some (vR 2 b), some (vZ 0), some (vZ 0)] [] σ post from ⟨(by omega), ?_⟩)
    obtain ⟨r, hr⟩ : ∃ r, r = zRdN S s 20 0 S := ⟨_, rfl⟩
    rw [← hr] at hp
    have last : ∀ (n i : Int) (T : zAb) (σ2 : zSt), (T, n) = r → dK σ σ2 → RCn σ2 T → V 4 MX6_read 83 [some (vR 5 0), some (vZ s), some (vR 2 b), some (vZ n), some (vZ i)] [] σ2 post := by
      intro n i T σ2 er hk hN
      rw [← er] at hp
      refine V_run kX6_read 1 [] (show V 4 MX6_read 84 [some (vR 5 0), some (vZ s), some (vR 2 b), some (vZ n), some (vZ i)] [vR 5 0] σ2 post from ?_)
      refine V_callV (a := []) (rest := []) kX6_read rfl oX6_happen iX6_happen lk_6_115 rfl rfl rfl (Nat.le_of_ble_eq_true rfl) (Nat.le_of_ble_eq_true rfl) (Nat.le_of_ble_eq_true rfl) (post' := fun zv zσ => V 4 MX6_read 87 [some (vR 5 0), some (vZ s), some (vR 2 b), some (vZ n), some (vZ i)] (zv.toList ++ []) zσ post) (c_N_happen hN.2.1.1 (fun _ _ _ => rfl) (fun σ9 hf9 hco9 => (show V 4 MX6_read 87 [some (vR 5 0), some (vZ s), some (vR 2 b), some (vZ n), some (vZ i)] [] σ9 post from ?_))) (fun _ _ h => h)
      refine V_run kX6_read 1 [] (show V 4 MX6_read 88 [some (vR 5 0), some (vZ s), some (vR 2 b), some (vZ n), some (vZ i)] [vZ n] σ9 post from ?_)
      exact V_iret kX6_read rfl rfl (hp σ9 (hk.tr hf9.k) (RC_happen hN hf9 hco9))
    have loop : ∀ (m : Nat) (n i : Int) (T : zAb), 0 ≤ n → n + m = 20 → i = 3 * n → zRdN S s m n T = r → ∀ σ2 : zSt, dK σ σ2 → RCn σ2 T → aOk T → a_hI T = a_hI S → a_hN T = a_hN S → a_hF T = a_hF S → V 4 MX6_read 31 [some (vR 5 0), some (vZ s), some (vR 2 b), some (vZ n), some (vZ i)] [] σ2 post := by
      intro m
      induction m with
      | zero =>
        intro n i T n0 n1 hi he σ2 hk hN ho2 eI eN eF
        unfold zRdN at he
        have e7 := RCn_sh hN.2.2.2.1 h1.1 (by omega) hb
        rw [eI, eN, eF] at e7
        have e72 := e7.2.1
        have e73 := e7.2.2 h2
        refine V_run kX6_read 4 [] (show V 4 MX6_read 36 [some (vR 5 0), some (vZ s), some (vR 2 b), some (vZ n), some (vZ i)] [vR 2 b, vZ (i + 2)] σ2 post from ?_)
        refine V_callV (a := []) (rest := [vZ (i + 2)]) kX6_read rfl oX3_size iX3_size lk_6_134 rfl rfl rfl (Nat.le_of_ble_eq_true rfl) (Nat.le_of_ble_eq_true rfl) (Nat.le_of_ble_eq_true rfl) (post' := fun zv zσ => V 4 MX6_read 39 [some (vR 5 0), some (vZ s), some (vR 2 b), some (vZ n), some (vZ i)] (zv.toList ++ [vZ (i + 2)]) zσ post) (c_S_size ((show V 4 MX6_read 39 [some (vR 5 0), some (vZ s), some (vR 2 b), some (vZ n), some (vZ i)] [vZ (σ2.1 b 2), vZ (i + 2)] σ2 post from ?_))) (fun _ _ h => h)
        refine V_top (e72) ?_
        refine V_run kX6_read 1 [1] (show (zr (i + 2) ∧ zr (a_hN S s) ∧ (a_hN S s) ≤ (i + 2)) ∧ V 4 MX6_read 83 [some (vR 5 0), some (vZ s), some (vR 2 b), some (vZ n), some (vZ i)] [] σ2 post from ⟨(by omega), ?_⟩)
        exact last n i T σ2 he hk hN
      | succ m ih =>
        intro n i T n0 n1 hi he σ2 hk hN ho2 eI eN eF
        unfold zRdN at he
        have e7 := RCn_sh hN.2.2.2.1 h1.1 (by omega) hb
        rw [eI, eN, eF] at e7
        have e72 := e7.2.1
        have e73 := e7.2.2 h2
        refine V_run kX6_read 4 [] (show V 4 MX6_read 36 [some (vR 5 0), some (vZ s), some (vR 2 b), some (vZ n), some (vZ i)] [vR 2 b, vZ (i + 2)] σ2 post from ?_)
        refine V_callV (a := []) (rest := [vZ (i + 2)]) kX6_read rfl oX3_size iX3_size lk_6_134 rfl rfl rfl (Nat.le_of_ble_eq_true rfl) (Nat.le_of_ble_eq_true rfl) (Nat.le_of_ble_eq_true rfl) (post' := fun zv zσ => V 4 MX6_read 39 [some (vR 5 0), some (vZ s), some (vR 2 b), some (vZ n), some (vZ i)] (zv.toList ++ [vZ (i + 2)]) zσ post) (c_S_size ((show V 4 MX6_read 39 [some (vR 5 0), some (vZ s), some (vR 2 b), some (vZ n), some (vZ i)] [vZ (σ2.1 b 2), vZ (i + 2)] σ2 post from ?_))) (fun _ _ h => h)
        refine V_top (e72) ?_
        rcases Int.lt_or_le (i + 2) (a_hN S s) with h3 | h3
        rotate_left
        · skip
          rw [if_neg (fun q => absurd q.1 (by omega))] at he
          refine V_run kX6_read 1 [1] (show (zr (i + 2) ∧ zr (a_hN S s) ∧ (a_hN S s) ≤ (i + 2)) ∧ V 4 MX6_read 83 [some (vR 5 0), some (vZ s), some (vR 2 b), some (vZ n), some (vZ i)] [] σ2 post from ⟨(by omega), ?_⟩)
          exact last n i T σ2 he hk hN
        refine V_run kX6_read 4 [0] (show (zr (i + 2) ∧ zr (a_hN S s) ∧ (i + 2) < (a_hN S s)) ∧ V 4 MX6_read 46 [some (vR 5 0), some (vZ s), some (vR 2 b), some (vZ n), some (vZ i)] [vZ i, vR 2 b, vR 5 0] σ2 post from ⟨(by omega), ?_⟩)
        subst hi
        refine V_callV (a := [vZ (3 * n)]) (rest := [vR 5 0]) kX6_read rfl oX3_item iX3_item lk_6_135 rfl rfl rfl (Nat.le_of_ble_eq_true rfl) (Nat.le_of_ble_eq_true rfl) (Nat.le_of_ble_eq_true rfl) (post' := fun zv zσ => V 4 MX6_read 49 [some (vR 5 0), some (vZ s), some (vR 2 b), some (vZ n), some (vZ (3 * n))] (zv.toList ++ [vR 5 0]) zσ post) (c_S_item hz (by rw [e72]; omega) (by omega) (by rw [e72]; omega) ((show V 4 MX6_read 49 [some (vR 5 0), some (vZ s), some (vR 2 b), some (vZ n), some (vZ (3 * n))] [vZ (σ2.1 (b + 1) (3 * n)), vR 5 0] σ2 post from ?_))) (fun _ _ h => h)
        refine V_top (e73 (3 * n) (by omega) (by omega)) ?_
        refine V_run kX6_read 4 [] (show V 4 MX6_read 54 [some (vR 5 0), some (vZ s), some (vR 2 b), some (vZ n), some (vZ (3 * n))] [vZ ((3 * n) + 1), vR 2 b, vZ (a_hI S s (3 * n)), vR 5 0] σ2 post from ?_)
        refine V_callV (a := [vZ ((3 * n) + 1)]) (rest := [vZ (a_hI S s (3 * n)), vR 5 0]) kX6_read rfl oX3_item iX3_item lk_6_135 rfl rfl rfl (Nat.le_of_ble_eq_true rfl) (Nat.le_of_ble_eq_true rfl) (Nat.le_of_ble_eq_true rfl) (post' := fun zv zσ => V 4 MX6_read 57 [some (vR 5 0), some (vZ s), some (vR 2 b), some (vZ n), some (vZ (3 * n))] (zv.toList ++ [vZ (a_hI S s (3 * n)), vR 5 0]) zσ post) (c_S_item hz (by rw [e72]; omega) (by omega) (by rw [e72]; omega) ((show V 4 MX6_read 57 [some (vR 5 0), some (vZ s), some (vR 2 b), some (vZ n), some (vZ (3 * n))] [vZ (σ2.1 (b + 1) (3 * n + 1)), vZ (a_hI S s (3 * n)), vR 5 0] σ2 post from ?_))) (fun _ _ h => h)
        refine V_top (e73 (3 * n + 1) (by omega) (by omega)) ?_
        refine V_run kX6_read 4 [] (show V 4 MX6_read 62 [some (vR 5 0), some (vZ s), some (vR 2 b), some (vZ n), some (vZ (3 * n))] [vZ ((3 * n) + 2), vR 2 b, vZ (a_hI S s (3 * n + 1)), vZ (a_hI S s (3 * n)), vR 5 0] σ2 post from ?_)
        refine V_callV (a := [vZ ((3 * n) + 2)]) (rest := [vZ (a_hI S s (3 * n + 1)), vZ (a_hI S s (3 * n)), vR 5 0]) kX6_read rfl oX3_item iX3_item lk_6_135 rfl rfl rfl (Nat.le_of_ble_eq_true rfl) (Nat.le_of_ble_eq_true rfl) (Nat.le_of_ble_eq_true rfl) (post' := fun zv zσ => V 4 MX6_read 65 [some (vR 5 0), some (vZ s), some (vR 2 b), some (vZ n), some (vZ (3 * n))] (zv.toList ++ [vZ (a_hI S s (3 * n + 1)), vZ (a_hI S s (3 * n)), vR 5 0]) zσ post) (c_S_item hz (by rw [e72]; omega) (by omega) (by rw [e72]; omega) ((show V 4 MX6_read 65 [some (vR 5 0), some (vZ s), some (vR 2 b), some (vZ n), some (vZ (3 * n))] [vZ (σ2.1 (b + 1) (3 * n + 2)), vZ (a_hI S s (3 * n + 1)), vZ (a_hI S s (3 * n)), vR 5 0] σ2 post from ?_))) (fun _ _ h => h)
        refine V_top (e73 (3 * n + 2) (by omega) (by omega)) ?_
        have z0 := os.2.2.2 (3 * n) (by omega) (by omega)
        have z1 := os.2.2.2 (3 * n + 1) (by omega) (by omega)
        have z2 := os.2.2.2 (3 * n + 2) (by omega) (by omega)
        have hen := ho2.2.2.1
        have kbad : ¬ ((0 ≤ a_hI S s (3 * n) ∧ a_hI S s (3 * n) ≤ 2) ∧ (0 ≤ a_hI S s (3 * n + 1) ∧ a_hI S s (3 * n + 1) ≤ 23) ∧ 0 ≤ a_hI S s (3 * n + 2) ∧ a_hI S s (3 * n + 2) ≤ 11) → V 4 MX6_read 68 [some (vR 5 0), some (vZ s), some (vR 2 b), some (vZ n), some (vZ (3 * n))] [vZ (-2)] σ2 post := by
          intro q
          rw [if_neg (fun z => q z.2.1)] at he
          refine V_run kX6_read 2 [0] (show (zr (-2) ∧ (-2) < 0) ∧ V 4 MX6_read 83 [some (vR 5 0), some (vZ s), some (vR 2 b), some (vZ n), some (vZ (3 * n))] [] σ2 post from ⟨(by omega), ?_⟩)
          exact last n _ T σ2 he hk hN
        have kfull : ((0 ≤ a_hI S s (3 * n) ∧ a_hI S s (3 * n) ≤ 2) ∧ (0 ≤ a_hI S s (3 * n + 1) ∧ a_hI S s (3 * n + 1) ≤ 23) ∧ 0 ≤ a_hI S s (3 * n + 2) ∧ a_hI S s (3 * n + 2) ≤ 11) → a_eN T = 8 → V 4 MX6_read 68 [some (vR 5 0), some (vZ s), some (vR 2 b), some (vZ n), some (vZ (3 * n))] [vZ (-4)] σ2 post := by
          intro _ q
          rw [if_neg (fun z => absurd z.2.2 (by omega))] at he
          refine V_run kX6_read 2 [0] (show (zr (-4) ∧ (-4) < 0) ∧ V 4 MX6_read 83 [some (vR 5 0), some (vZ s), some (vR 2 b), some (vZ n), some (vZ (3 * n))] [] σ2 post from ⟨(by omega), ?_⟩)
          exact last n _ T σ2 he hk hN
        have kgo : ((0 ≤ a_hI S s (3 * n) ∧ a_hI S s (3 * n) ≤ 2) ∧ (0 ≤ a_hI S s (3 * n + 1) ∧ a_hI S s (3 * n + 1) ≤ 23) ∧ 0 ≤ a_hI S s (3 * n + 2) ∧ a_hI S s (3 * n + 2) ≤ 11) → a_eN T < 8 → ∀ σ', dK σ2 σ' → (∀ a : Nat, a < 44 → ¬ (5 ≤ a ∧ a ≤ 13) → σ'.1 a = σ2.1 a) → RCn σ' (aEventS T (a_hI S s (3 * n)) (a_hI S s (3 * n + 1)) (a_hI S s (3 * n + 2))) → V 4 MX6_read 68 [some (vR 5 0), some (vZ s), some (vR 2 b), some (vZ n), some (vZ (3 * n))] [vZ (a_eN T + 1)] σ' post := by
          intro q q8 σ' hk' _ hR'
          rw [if_pos ⟨h3, q, q8⟩] at he
          refine V_run kX6_read 4 [1] (show (zr (a_eN T + 1) ∧ 0 ≤ (a_eN T + 1)) ∧ V 4 MX6_read 31 [some (vR 5 0), some (vZ s), some (vR 2 b), some (vZ (n + 1)), some (vZ ((3 * n) + 3))] [] σ' post from ⟨(by omega), ?_⟩)
          exact ih (n + 1) (3 * n + 3) _ (by omega) (by omega) (by omega) he σ' (hk.tr hk') hR' (aOk_event ho2 q q8) eI eN eF
        refine V_callV (a := [vZ (a_hI S s (3 * n)), vZ (a_hI S s (3 * n + 1)), vZ (a_hI S s (3 * n + 2))]) (rest := []) kX6_read rfl oX6_takeEvent iX6_takeEvent lk_6_111 rfl rfl rfl (Nat.le_of_ble_eq_true rfl) (Nat.le_of_ble_eq_true rfl) (Nat.le_of_ble_eq_true rfl) (post' := fun zv zσ => V 4 MX6_read 68 [some (vR 5 0), some (vZ s), some (vR 2 b), some (vZ n), some (vZ (3 * n))] (zv.toList ++ []) zσ post) (c_N_take hN ho2 z0 z1 z2 kbad kfull kgo) (fun _ _ h => h)
    exact loop 20 0 0 S (by omega) (by omega) (by omega) hr.symm σ dK.rf hR.n ho rfl rfl rfl
theorem RC_see {σ : zSt} {S : zAb} {t p k : Int} (h : RC σ S) : RC (sSee σ 29 t p k) (aSeenS S t p k) := by
  obtain ⟨h1, h2, h3, ⟨g1, g2⟩, h5, h6, h7⟩ := h
  have e : ∀ a : Nat, ¬ (29 ≤ a ∧ a ≤ 32) → (sSee σ 29 t p k).1 a = σ.1 a := fun a x => by unfold sSee; rw [uI_ne (by omega), uI_ne (by omega), uI_ne (by omega), uI_ne (by omega)]
  refine ⟨RT_c (e 1 (by decide)) (e 2 (by decide)) (e 3 (by decide)) (e 4 (by decide)) h1, zPx_cong (fun k a b => e k (by omega)) rfl h2, zCo_cong (by rw [e 23 (by decide)]) rfl rfl rfl h3, ⟨?_, fun i a b => ?_⟩, RS_c (fun a x y => e a (by omega)) h5, RK_c (by rw [e 0 (by decide)]) (e 43 (by decide)) h6, by rw [e 0 (by decide)]; exact h7⟩
  · unfold sSee; rw [uI_get, g1]; rfl
  · have b : i < a_sN S + 1 := b
    show _ = fPut (a_sM S) (a_sN S) t i ∧ _ = fPut (a_sP S) (a_sN S) p i ∧ _ = (if fPut (a_sW S) (a_sN S) k i = 12 then -1 else fPut (a_sW S) (a_sN S) k i)
    unfold sSee
    rw [uI_ne (by decide), uI_ne (by decide), uI_ne (by decide), uI_at, uI_ne (by decide), uI_ne (by decide), uI_at, uI_ne (by decide), uI_ne (by decide), uI_at, uI_ne (by decide), uI_ne (by decide), g1, fPut_at, fPut_at, fPut_at]
    by_cases z : i = a_sN S
    · rw [if_pos z, if_pos z, if_pos z, if_pos z, if_pos z, if_pos z]; exact ⟨rfl, rfl, rfl⟩
    · rw [if_neg z, if_neg z, if_neg z, if_neg z, if_neg z, if_neg z]
      exact g2 i a (by omega)
theorem RC_fgt {σ : zSt} {S : zAb} (h : RC σ S) : RC (uI σ 29 3 0) (aForgetS S) := by
  obtain ⟨h1, h2, h3, ⟨g1, g2⟩, h5, h6, h7⟩ := h
  exact ⟨RT_c (uI_ne (by decide)) (uI_ne (by decide)) (uI_ne (by decide)) (uI_ne (by decide)) h1, zPx_cong (fun k a b => uI_ne (by omega)) rfl h2, zCo_cong (by rw [uI_ne (by decide)]) rfl rfl rfl h3, ⟨uI_get, fun i a b => absurd b (by show ¬ i < 0; omega)⟩, RS_c (fun a x y => uI_ne (by omega)) h5, RK_c (by rw [uI_ne (by decide)]) (uI_ne (by decide)) h6, by rw [uI_ne (by decide)]; exact h7⟩
set_option maxHeartbeats 4000000 in
set_option maxRecDepth 100000 in
/-- seen -/
theorem c_N_seen {t p k : Int} {S : zAb} {σ : zSt} {post : Option VV → zSt → Prop} (hR : RC σ S) (ho : aOk S) (ht : zr t) (hq : zr p) (hk : zr k) (hp : ∀ σ', dK σ σ' → RC σ' (tSeen S t p k).1 → post (some (vZ (tSeen S t p k).2)) σ') : Mc 2 MX6_seen [vR 5 0, vZ t, vZ p, vZ k] σ post := by
  have hok := aC_ok ho
  have hcn := hok.1
  obtain ⟨hT, hPx, hCo, hG, hS, hK, hF⟩ := id hR
  unfold tSeen at hp
  have hsn := ho.2.2.2.1
  have hg := hG.1
  show V 2 MX6_seen 0 [some (vR 5 0), some (vZ t), some (vZ p), some (vZ k)] [] σ post
  refine V_run kX6_seen 1 [] (show V 2 MX6_seen 1 [some (vR 5 0), some (vZ t), some (vZ p), some (vZ k)] [vZ t] σ post from ?_)
  refine V_callS (a := [vZ t]) (rest := []) kX6_seen rfl oX6_isMinute iX6_isMinute lk_6_105 rfl rfl (Nat.le_of_ble_eq_true rfl) (Nat.le_of_ble_eq_true rfl) (Nat.le_of_ble_eq_true rfl) (post' := fun zv zσ => V 2 MX6_seen 4 [some (vR 5 0), some (vZ t), some (vZ p), some (vZ k)] (zv.toList ++ []) zσ post) (c_N_isMinute (by omega) ((show V 2 MX6_seen 4 [some (vR 5 0), some (vZ t), some (vZ p), some (vZ k)] [vZ (if 0 ≤ t ∧ t ≤ 23 then 1 else 0)] σ post from ?_))) (fun _ _ h => h)
  by_cases h1 : 0 ≤ t ∧ t ≤ 23
  rotate_left
  · skip
    refine V_top (if_neg h1) ?_
    refine V_run kX6_seen 2 [1] (show (zr 0 ∧ 0 = 0) ∧ V 2 MX6_seen 27 [some (vR 5 0), some (vZ t), some (vZ p), some (vZ k)] [vZ (-2)] σ post from ⟨(by omega), ?_⟩)
    rw [if_neg (by omega)] at hp
    exact V_iret kX6_seen rfl rfl (hp σ dK.rf hR)
  refine V_top (if_pos h1) ?_
  refine V_run kX6_seen 3 [0] (show (zr 1 ∧ ¬ 1 = 0) ∧ V 2 MX6_seen 10 [some (vR 5 0), some (vZ t), some (vZ p), some (vZ k)] [vZ 11, vZ p] σ post from ⟨(by omega), ?_⟩)
  refine V_callS (a := [vZ p, vZ 11]) (rest := []) kX6_seen rfl oX6_isFrom0To iX6_isFrom0To lk_6_91 rfl rfl (Nat.le_of_ble_eq_true rfl) (Nat.le_of_ble_eq_true rfl) (Nat.le_of_ble_eq_true rfl) (post' := fun zv zσ => V 2 MX6_seen 13 [some (vR 5 0), some (vZ t), some (vZ p), some (vZ k)] (zv.toList ++ []) zσ post) (c_N_from (by omega) (by omega) ((show V 2 MX6_seen 13 [some (vR 5 0), some (vZ t), some (vZ p), some (vZ k)] [vZ (if 0 ≤ p ∧ p ≤ 11 then 1 else 0)] σ post from ?_))) (fun _ _ h => h)
  by_cases h2 : 0 ≤ p ∧ p ≤ 11
  rotate_left
  · skip
    refine V_top (if_neg h2) ?_
    refine V_run kX6_seen 2 [1] (show (zr 0 ∧ 0 = 0) ∧ V 2 MX6_seen 27 [some (vR 5 0), some (vZ t), some (vZ p), some (vZ k)] [vZ (-2)] σ post from ⟨(by omega), ?_⟩)
    rw [if_neg (by omega)] at hp
    exact V_iret kX6_seen rfl rfl (hp σ dK.rf hR)
  refine V_top (if_pos h2) ?_
  refine V_run kX6_seen 3 [0] (show (zr 1 ∧ ¬ 1 = 0) ∧ V 2 MX6_seen 19 [some (vR 5 0), some (vZ t), some (vZ p), some (vZ k)] [vZ 12, vZ k] σ post from ⟨(by omega), ?_⟩)
  refine V_callS (a := [vZ k, vZ 12]) (rest := []) kX6_seen rfl oX6_isFrom0To iX6_isFrom0To lk_6_91 rfl rfl (Nat.le_of_ble_eq_true rfl) (Nat.le_of_ble_eq_true rfl) (Nat.le_of_ble_eq_true rfl) (post' := fun zv zσ => V 2 MX6_seen 22 [some (vR 5 0), some (vZ t), some (vZ p), some (vZ k)] (zv.toList ++ []) zσ post) (c_N_from (by omega) (by omega) ((show V 2 MX6_seen 22 [some (vR 5 0), some (vZ t), some (vZ p), some (vZ k)] [vZ (if 0 ≤ k ∧ k ≤ 12 then 1 else 0)] σ post from ?_))) (fun _ _ h => h)
  by_cases h3 : 0 ≤ k ∧ k ≤ 12
  rotate_left
  · skip
    refine V_top (if_neg h3) ?_
    refine V_run kX6_seen 2 [0] (show (zr 0 ∧ 0 = 0) ∧ V 2 MX6_seen 27 [some (vR 5 0), some (vZ t), some (vZ p), some (vZ k)] [vZ (-2)] σ post from ⟨(by omega), ?_⟩)
    rw [if_neg (by omega)] at hp
    exact V_iret kX6_seen rfl rfl (hp σ dK.rf hR)
  refine V_top (if_pos h3) ?_
  refine V_run kX6_seen 6 [1] (show (zr 1 ∧ ¬ 1 = 0) ∧ V 2 MX6_seen 35 [some (vR 5 0), some (vZ t), some (vZ p), some (vZ k)] [vZ k, vZ p, vZ t, vR 3 29] σ post from ⟨(by omega), ?_⟩)
  rw [if_pos ⟨h1, h2, h3⟩] at hp
  by_cases h4 : a_sN S = 8
  · skip
    rw [if_pos h4] at hp
    refine V_callV (a := [vZ t, vZ p, vZ k]) (rest := []) kX6_seen rfl oX4_add iX4_add lk_6_210 rfl rfl rfl (Nat.le_of_ble_eq_true rfl) (Nat.le_of_ble_eq_true rfl) (Nat.le_of_ble_eq_true rfl) (post' := fun zv zσ => V 2 MX6_seen 38 [some (vR 5 0), some (vZ t), some (vZ p), some (vZ k)] (zv.toList ++ []) zσ post) (c_G_add (b := 29) (hp := fun q => absurd q (by omega)) rfl rfl rfl (by omega) (by omega) (by omega) (fun _ =>  ((show V 2 MX6_seen 38 [some (vR 5 0), some (vZ t), some (vZ p), some (vZ k)] [vZ 0] σ post from ?_)))) (fun _ _ h => h)
    refine V_run kX6_seen 2 [1] (show (zr 0 ∧ 0 = 0) ∧ V 2 MX6_seen 53 [some (vR 5 0), some (vZ t), some (vZ p), some (vZ k)] [vZ (-4)] σ post from ⟨(by omega), ?_⟩)
    exact V_iret kX6_seen rfl rfl (hp σ dK.rf hR)
  · skip
    rw [if_neg h4] at hp
    refine V_callV (a := [vZ t, vZ p, vZ k]) (rest := []) kX6_seen rfl oX4_add iX4_add lk_6_210 rfl rfl rfl (Nat.le_of_ble_eq_true rfl) (Nat.le_of_ble_eq_true rfl) (Nat.le_of_ble_eq_true rfl) (post' := fun zv zσ => V 2 MX6_seen 38 [some (vR 5 0), some (vZ t), some (vZ p), some (vZ k)] (zv.toList ++ []) zσ post) (c_G_add (b := 29) (hf := fun q => absurd q (by omega)) rfl rfl rfl (by omega) (by omega) (by omega) (fun _ => (show V 2 MX6_seen 38 [some (vR 5 0), some (vZ t), some (vZ p), some (vZ k)] [vZ 1] (sSee σ 29 t p k) post from ?_))) (fun _ _ h => h)
    have hR9 := RC_see (t := t) (p := p) (k := k) hR
    refine V_run kX6_seen 3 [0] (show (zr 1 ∧ ¬ 1 = 0) ∧ V 2 MX6_seen 45 [some (vR 5 0), some (vZ t), some (vZ p), some (vZ k)] [vR 3 29] (sSee σ 29 t p k) post from ⟨(by omega), ?_⟩)
    refine V_callV (a := []) (rest := []) kX6_seen rfl oX4_size iX4_size lk_6_214 rfl rfl rfl (Nat.le_of_ble_eq_true rfl) (Nat.le_of_ble_eq_true rfl) (Nat.le_of_ble_eq_true rfl) (post' := fun zv zσ => V 2 MX6_seen 48 [some (vR 5 0), some (vZ t), some (vZ p), some (vZ k)] (zv.toList ++ []) zσ post) (c_G_size (b := 29) ((show V 2 MX6_seen 48 [some (vR 5 0), some (vZ t), some (vZ p), some (vZ k)] [vZ ((sSee σ 29 t p k).1 29 3)] (sSee σ 29 t p k) post from ?_))) (fun _ _ h => h)
    refine V_top (hR9.2.2.2.1.1) ?_
    refine V_run kX6_seen 1 [] (show V 2 MX6_seen 53 [some (vR 5 0), some (vZ t), some (vZ p), some (vZ k)] [vZ (a_sN S + 1)] (sSee σ 29 t p k) post from ?_)
    exact V_iret kX6_seen rfl rfl (hp _ (fun a x => ⟨by unfold sSee; rw [uI_ne (by omega), uI_ne (by omega), uI_ne (by omega), uI_ne (by omega)], rfl⟩) hR9)
set_option maxHeartbeats 4000000 in
set_option maxRecDepth 100000 in
/-- forget -/
theorem c_N_forget {S : zAb} {σ : zSt} {post : Option VV → zSt → Prop} (hR : RC σ S) (ho : aOk S) (hp : ∀ σ', dK σ σ' → RC σ' (tForget S).1 → post (some (vZ (tForget S).2)) σ') : Mc 2 MX6_forget [vR 5 0] σ post := by
  have hok := aC_ok ho
  have hcn := hok.1
  obtain ⟨hT, hPx, hCo, hG, hS, hK, hF⟩ := id hR
  show V 2 MX6_forget 0 [some (vR 5 0), none] [] σ post
  refine V_run kX6_forget 2 [] (show V 2 MX6_forget 4 [some (vR 5 0), none] [vR 3 29] σ post from ?_)
  refine V_callV (a := []) (rest := []) kX6_forget rfl oX4_size iX4_size lk_6_214 rfl rfl rfl (Nat.le_of_ble_eq_true rfl) (Nat.le_of_ble_eq_true rfl) (Nat.le_of_ble_eq_true rfl) (post' := fun zv zσ => V 2 MX6_forget 7 [some (vR 5 0), none] (zv.toList ++ []) zσ post) (c_G_size (b := 29) ((show V 2 MX6_forget 7 [some (vR 5 0), none] [vZ (σ.1 29 3)] σ post from ?_))) (fun _ _ h => h)
  refine V_top (hG.1) ?_
  refine V_run kX6_forget 3 [] (show V 2 MX6_forget 12 [some (vR 5 0), some (vZ (a_sN S))] [vR 3 29] σ post from ?_)
  refine V_callV (a := []) (rest := []) kX6_forget rfl oX4_clear iX4_clear lk_6_215 rfl rfl rfl (Nat.le_of_ble_eq_true rfl) (Nat.le_of_ble_eq_true rfl) (Nat.le_of_ble_eq_true rfl) (post' := fun zv zσ => V 2 MX6_forget 15 [some (vR 5 0), some (vZ (a_sN S))] (zv.toList ++ []) zσ post) (c_G_clear (b := 29) ((show V 2 MX6_forget 15 [some (vR 5 0), some (vZ (a_sN S))] [] (uI σ 29 3 0) post from ?_))) (fun _ _ h => h)
  refine V_run kX6_forget 1 [] (show V 2 MX6_forget 16 [some (vR 5 0), some (vZ (a_sN S))] [vZ (a_sN S)] (uI σ 29 3 0) post from ?_)
  exact V_iret kX6_forget rfl rfl (hp _ (dK.rf.u (by decide)) (RC_fgt hR))
