/-- all but the course and who is served -/
def RCn (σ : zSt) (S : zAb) : Prop := RT σ S ∧ zPx σ 5 (aC S) ∧ RG σ S ∧ RS σ S ∧ σ.1 0 11 = a_fnd S
theorem RC.n {σ : zSt} {S : zAb} (h : RC σ S) : RCn σ S := ⟨h.1, h.2.1, h.2.2.2.1, h.2.2.2.2.1, h.2.2.2.2.2.2⟩
theorem RC_happen {σ σ' : zSt} {S : zAb} (h : RCn σ S) (hf : hFr σ σ') (hco : zCo σ' 23 (aC S) 24) : RC σ' S := by
  obtain ⟨h1, h2, h3, h4, h5⟩ := h
  have e : ∀ a : Nat, a ≠ 0 → a ≠ 23 → σ'.1 a = σ.1 a := hf.1
  exact ⟨RT_c (e 1 (by decide) (by decide)) (e 2 (by decide) (by decide)) (e 3 (by decide) (by decide)) (e 4 (by decide) (by decide)) h1, zPx_cong (fun k a b => e k (by omega) (by omega)) (hf.2.2.2 5 (by decide) (by decide) (by decide)) h2, hco, RG_c (e 29 (by decide) (by decide)) (e 30 (by decide) (by decide)) (e 31 (by decide) (by decide)) (e 32 (by decide) (by decide)) h3, RS_c (fun a x y => e a (by omega) (by omega)) h4, RK_0 hf.2.2.1, by rw [hf.2.1 11 (by decide)]; exact h5⟩
theorem hFr.k {σ σ' : zSt} (h : hFr σ σ') : dK σ σ' := fun a x => ⟨h.1 a (by omega) (by omega), h.2.2.2 a (by omega) (by omega) (by omega)⟩
theorem RCn_fr {σ σ' : zSt} {S S' : zAb} (h : RCn σ S) (hfr : ∀ a : Nat, a < 44 → ¬ (5 ≤ a ∧ a ≤ 13) → σ'.1 a = σ.1 a) (hx : zPx σ' 5 (aC S')) (hp : a_pN S' = a_pN S ∧ a_pF S' = a_pF S ∧ a_wN S' = a_wN S ∧ a_wF S' = a_wF S) (hs : (a_sN S' = a_sN S ∧ a_sM S' = a_sM S ∧ a_sP S' = a_sP S ∧ a_sW S' = a_sW S) ∧ (a_hF S' = a_hF S ∧ a_hN S' = a_hN S ∧ a_hI S' = a_hI S) ∧ a_fnd S' = a_fnd S) : RCn σ' S' := by
  obtain ⟨h1, h2, h3, h4, h5⟩ := h
  have g1 := RT_c (hfr 1 (by decide) (by decide)) (hfr 2 (by decide) (by decide)) (hfr 3 (by decide) (by decide)) (hfr 4 (by decide) (by decide)) h1
  have g3 := RG_c (hfr 29 (by decide) (by decide)) (hfr 30 (by decide) (by decide)) (hfr 31 (by decide) (by decide)) (hfr 32 (by decide) (by decide)) h3
  have g4 := RS_c (fun a x y => hfr a (by omega) (by omega)) h4
  refine ⟨?_, hx, ?_, ?_, ?_⟩
  · unfold RT at g1 ⊢; rw [hp.1, hp.2.1, hp.2.2.1, hp.2.2.2]; exact g1
  · unfold RG at g3 ⊢; rw [hs.1.1, hs.1.2.1, hs.1.2.2.1, aW_s hs.1.2.2.2]; exact g3
  · unfold RS at g4 ⊢; rw [hs.2.1.1, hs.2.1.2.1, hs.2.1.2.2]; exact g4
  · rw [hfr 0 (by decide) (by decide), h5]; exact hs.2.2.symm
theorem aC_ev {S : zAb} {k t p : Int} : aC (aEventS S k t p) = cAdd (aC S) k t p := rfl
theorem sAdd_ne {σ : zSt} {b a : Nat} {e v t p : Int} (h : ¬ (b ≤ a ∧ a ≤ b + 8)) : (sAdd σ b e v t p).1 a = σ.1 a := by
  unfold sAdd; rw [uI_ne (by omega), uI_ne (by omega), uI_ne (by omega), uI_ne (by omega), uI_ne (by omega)]
theorem sDrop_ne {σ : zSt} {b a : Nat} {e : Int} (h : ¬ (b ≤ a ∧ a ≤ b + 8)) : (sDrop σ b e).1 a = σ.1 a := by
  unfold sDrop; rw [uI_ne (by omega), uI_ne (by omega)]
set_option maxHeartbeats 4000000 in
set_option maxRecDepth 100000 in
/-- takeEvent -/
theorem c_N_take {k t p : Int} {S : zAb} {σ : zSt} {post : Option VV → zSt → Prop} (hN : RCn σ S) (ho : aOk S) (hk : zr k) (ht : zr t) (hq : zr p) (hbad : ¬ ((0 ≤ k ∧ k ≤ 2) ∧ (0 ≤ t ∧ t ≤ 23) ∧ 0 ≤ p ∧ p ≤ 11) → post (some (vZ (-2))) σ) (hfull : ((0 ≤ k ∧ k ≤ 2) ∧ (0 ≤ t ∧ t ≤ 23) ∧ 0 ≤ p ∧ p ≤ 11) → a_eN S = 8 → post (some (vZ (-4))) σ) (hp : ((0 ≤ k ∧ k ≤ 2) ∧ (0 ≤ t ∧ t ≤ 23) ∧ 0 ≤ p ∧ p ≤ 11) → a_eN S < 8 → ∀ σ', dK σ σ' → (∀ a : Nat, a < 44 → ¬ (5 ≤ a ∧ a ≤ 13) → σ'.1 a = σ.1 a) → RCn σ' (aEventS S k t p) → post (some (vZ (a_eN S + 1))) σ') : Mc 2 MX6_takeEvent [vR 5 0, vZ k, vZ t, vZ p] σ post := by
  have hen := ho.2.2.1
  have hPx := hN.2.1
  show V 2 MX6_takeEvent 0 [some (vR 5 0), some (vZ k), some (vZ t), some (vZ p)] [] σ post
  refine V_run kX6_takeEvent 2 [] (show V 2 MX6_takeEvent 2 [some (vR 5 0), some (vZ k), some (vZ t), some (vZ p)] [vZ 2, vZ k] σ post from ?_)
  refine V_callS (a := [vZ k, vZ 2]) (rest := []) kX6_takeEvent rfl oX6_isFrom0To iX6_isFrom0To lk_6_91 rfl rfl (Nat.le_of_ble_eq_true rfl) (Nat.le_of_ble_eq_true rfl) (Nat.le_of_ble_eq_true rfl) (post' := fun zv zσ => V 2 MX6_takeEvent 5 [some (vR 5 0), some (vZ k), some (vZ t), some (vZ p)] (zv.toList ++ []) zσ post) (c_N_from (by omega) (by omega) ((show V 2 MX6_takeEvent 5 [some (vR 5 0), some (vZ k), some (vZ t), some (vZ p)] [vZ (if 0 ≤ k ∧ k ≤ 2 then 1 else 0)] σ post from ?_))) (fun _ _ h => h)
  by_cases h1 : 0 ≤ k ∧ k ≤ 2
  rotate_left
  · skip
    refine V_top (if_neg h1) ?_
    refine V_run kX6_takeEvent 2 [1] (show (zr 0 ∧ 0 = 0) ∧ V 2 MX6_takeEvent 26 [some (vR 5 0), some (vZ k), some (vZ t), some (vZ p)] [vZ (-2)] σ post from ⟨(by omega), ?_⟩)
    exact V_iret kX6_takeEvent rfl rfl (hbad (by omega))
  refine V_top (if_pos h1) ?_
  refine V_run kX6_takeEvent 2 [0] (show (zr 1 ∧ ¬ 1 = 0) ∧ V 2 MX6_takeEvent 9 [some (vR 5 0), some (vZ k), some (vZ t), some (vZ p)] [vZ t] σ post from ⟨(by omega), ?_⟩)
  refine V_callS (a := [vZ t]) (rest := []) kX6_takeEvent rfl oX6_isMinute iX6_isMinute lk_6_105 rfl rfl (Nat.le_of_ble_eq_true rfl) (Nat.le_of_ble_eq_true rfl) (Nat.le_of_ble_eq_true rfl) (post' := fun zv zσ => V 2 MX6_takeEvent 12 [some (vR 5 0), some (vZ k), some (vZ t), some (vZ p)] (zv.toList ++ []) zσ post) (c_N_isMinute (by omega) ((show V 2 MX6_takeEvent 12 [some (vR 5 0), some (vZ k), some (vZ t), some (vZ p)] [vZ (if 0 ≤ t ∧ t ≤ 23 then 1 else 0)] σ post from ?_))) (fun _ _ h => h)
  by_cases h2 : 0 ≤ t ∧ t ≤ 23
  rotate_left
  · skip
    refine V_top (if_neg h2) ?_
    refine V_run kX6_takeEvent 2 [1] (show (zr 0 ∧ 0 = 0) ∧ V 2 MX6_takeEvent 26 [some (vR 5 0), some (vZ k), some (vZ t), some (vZ p)] [vZ (-2)] σ post from ⟨(by omega), ?_⟩)
    exact V_iret kX6_takeEvent rfl rfl (hbad (by omega))
  refine V_top (if_pos h2) ?_
  refine V_run kX6_takeEvent 3 [0] (show (zr 1 ∧ ¬ 1 = 0) ∧ V 2 MX6_takeEvent 18 [some (vR 5 0), some (vZ k), some (vZ t), some (vZ p)] [vZ 11, vZ p] σ post from ⟨(by omega), ?_⟩)
  refine V_callS (a := [vZ p, vZ 11]) (rest := []) kX6_takeEvent rfl oX6_isFrom0To iX6_isFrom0To lk_6_91 rfl rfl (Nat.le_of_ble_eq_true rfl) (Nat.le_of_ble_eq_true rfl) (Nat.le_of_ble_eq_true rfl) (post' := fun zv zσ => V 2 MX6_takeEvent 21 [some (vR 5 0), some (vZ k), some (vZ t), some (vZ p)] (zv.toList ++ []) zσ post) (c_N_from (by omega) (by omega) ((show V 2 MX6_takeEvent 21 [some (vR 5 0), some (vZ k), some (vZ t), some (vZ p)] [vZ (if 0 ≤ p ∧ p ≤ 11 then 1 else 0)] σ post from ?_))) (fun _ _ h => h)
  by_cases h3 : 0 ≤ p ∧ p ≤ 11
  rotate_left
  · skip
    refine V_top (if_neg h3) ?_
    refine V_run kX6_takeEvent 2 [0] (show (zr 0 ∧ 0 = 0) ∧ V 2 MX6_takeEvent 26 [some (vR 5 0), some (vZ k), some (vZ t), some (vZ p)] [vZ (-2)] σ post from ⟨(by omega), ?_⟩)
    exact V_iret kX6_takeEvent rfl rfl (hbad (by omega))
  refine V_top (if_pos h3) ?_
  refine V_run kX6_takeEvent 3 [1] (show (zr 1 ∧ ¬ 1 = 0) ∧ V 2 MX6_takeEvent 31 [some (vR 5 0), some (vZ k), some (vZ t), some (vZ p)] [vR 1 5] σ post from ⟨(by omega), ?_⟩)
  refine V_callV (a := []) (rest := []) kX6_takeEvent rfl oX2_events iX2_events lk_6_121 rfl rfl rfl (Nat.le_of_ble_eq_true rfl) (Nat.le_of_ble_eq_true rfl) (Nat.le_of_ble_eq_true rfl) (post' := fun zv zσ => V 2 MX6_takeEvent 34 [some (vR 5 0), some (vZ k), some (vZ t), some (vZ p)] (zv.toList ++ []) zσ post) (e_P_events (b := 5) (x := a_eN S) hPx.1.2.1 ((show V 2 MX6_takeEvent 34 [some (vR 5 0), some (vZ k), some (vZ t), some (vZ p)] [vZ (a_eN S)] σ post from ?_))) (fun _ _ h => h)
  refine V_run kX6_takeEvent 1 [] (show V 2 MX6_takeEvent 36 [some (vR 5 0), some (vZ k), some (vZ t), some (vZ p)] [vZ 8, vZ (a_eN S)] σ post from ?_)
  rcases Int.lt_or_le (a_eN S) 8 with h4 | h4
  rotate_left
  · skip
    refine V_run kX6_takeEvent 2 [0] (show (zr (a_eN S) ∧ zr 8 ∧ 8 ≤ (a_eN S)) ∧ V 2 MX6_takeEvent 41 [some (vR 5 0), some (vZ k), some (vZ t), some (vZ p)] [vZ (-4)] σ post from ⟨(by omega), ?_⟩)
    exact V_iret kX6_takeEvent rfl rfl (hfull ⟨h1, h2, h3⟩ (by omega))
  refine V_run kX6_takeEvent 6 [1] (show (zr (a_eN S) ∧ zr 8 ∧ (a_eN S) < 8) ∧ V 2 MX6_takeEvent 49 [some (vR 5 0), some (vZ k), some (vZ t), some (vZ p)] [vZ p, vZ t, vZ k, vR 1 5] σ post from ⟨(by omega), ?_⟩)
  refine V_callV (a := [vZ k, vZ t, vZ p]) (rest := []) kX6_takeEvent rfl oX2_addEvent iX2_addEvent lk_6_195 rfl rfl rfl (Nat.le_of_ble_eq_true rfl) (Nat.le_of_ble_eq_true rfl) (Nat.le_of_ble_eq_true rfl) (post' := fun zv zσ => V 2 MX6_takeEvent 52 [some (vR 5 0), some (vZ k), some (vZ t), some (vZ p)] (zv.toList ++ []) zσ post) (c_P_addEvent (b := 5) (e := a_eN S) zPz5 hPx.1.2.1 (by omega) (by omega) (by omega) (by omega) ((show V 2 MX6_takeEvent 52 [some (vR 5 0), some (vZ k), some (vZ t), some (vZ p)] [] (sAdd σ 5 (a_eN S) k t p) post from ?_))) (fun _ _ h => h)
  have hx : zPx (sAdd σ 5 (a_eN S) k t p) 5 (cAdd (aC S) k t p) := zPx_add (C := aC S) (b := 5) (v := k) (t := t) (p := p) hPx hen.2.1 h1.1 h1.2 h2.1 (by omega) h3.1 (by omega)
  rw [← aC_ev] at hx
  have hn5 : (sAdd σ 5 (a_eN S) k t p).1 5 5 = a_eN S + 1 := by unfold sAdd; exact uI_get
  have hkk : dK σ (sAdd σ 5 (a_eN S) k t p) := fun a x => ⟨sAdd_ne (by omega), rfl⟩
  have hff : ∀ a : Nat, a < 44 → ¬ (5 ≤ a ∧ a ≤ 13) → (sAdd σ 5 (a_eN S) k t p).1 a = σ.1 a := fun a x y => sAdd_ne (by omega)
  have hrc : RCn (sAdd σ 5 (a_eN S) k t p) (aEventS S k t p) := RCn_fr hN hff hx ⟨rfl, rfl, rfl, rfl⟩ ⟨⟨rfl, rfl, rfl, rfl⟩, ⟨rfl, rfl, rfl⟩, rfl⟩
  refine V_run kX6_takeEvent 2 [] (show V 2 MX6_takeEvent 56 [some (vR 5 0), some (vZ k), some (vZ t), some (vZ p)] [vR 1 5] (sAdd σ 5 (a_eN S) k t p) post from ?_)
  refine V_callV (a := []) (rest := []) kX6_takeEvent rfl oX2_events iX2_events lk_6_121 rfl rfl rfl (Nat.le_of_ble_eq_true rfl) (Nat.le_of_ble_eq_true rfl) (Nat.le_of_ble_eq_true rfl) (post' := fun zv zσ => V 2 MX6_takeEvent 59 [some (vR 5 0), some (vZ k), some (vZ t), some (vZ p)] (zv.toList ++ []) zσ post) (e_P_events (b := 5) (x := a_eN S + 1) hn5 ((show V 2 MX6_takeEvent 59 [some (vR 5 0), some (vZ k), some (vZ t), some (vZ p)] [vZ (a_eN S + 1)] (sAdd σ 5 (a_eN S) k t p) post from ?_))) (fun _ _ h => h)
  exact V_iret kX6_takeEvent rfl rfl (hp ⟨h1, h2, h3⟩ h4 _ hkk hff hrc)
