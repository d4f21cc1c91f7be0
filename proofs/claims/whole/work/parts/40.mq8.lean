def aEventS (S : zAb) (k t p : Int) : zAb := (a_pN S, a_pF S, a_wN S, a_wF S, a_eN S + 1, fPut (a_eK S) (a_eN S) k, fPut (a_eM S) (a_eN S) t, fPut (a_eP S) (a_eN S) p, a_sN S, a_sM S, a_sP S, a_sW S, a_hF S, a_hN S, a_hI S, a_fnd S)
def aBackS (S : zAb) : zAb := (a_pN S, a_pF S, a_wN S, a_wF S, a_eN S - 1, a_eK S, a_eM S, a_eP S, a_sN S, a_sM S, a_sP S, a_sW S, a_hF S, a_hN S, a_hI S, a_fnd S)
set_option maxHeartbeats 4000000 in
set_option maxRecDepth 100000 in
/-- back -/
theorem c_M_back {S : zAb} {σ : zSt} {post : Option VV → zSt → Prop} (hR : RM σ S) (ho : aOk S) (h0f : a_eN S = 0 → post (some (vZ (-3))) σ) (hp : 0 < a_eN S → ∀ σ', cKeep σ σ' → RM σ' (aBackS S) → post (some (vZ (a_eN S - 1))) σ') : Mc 0 MX7_back [vR 6 44] σ post := by
  obtain ⟨r1, r2, r3, r4, r5, r6⟩ := id hR
  have hen := ho.2.2.1
  show V 0 MX7_back 0 [some (vR 6 44)] [] σ post
  refine V_run kX7_back 2 [] (show V 0 MX7_back 4 [some (vR 6 44)] [vZ (σ.1 44 8)] σ post from ?_)
  refine V_top (r3.1) ?_
  by_cases h0 : a_eN S = 0
  · skip
    refine V_run kX7_back 2 [0] (show (zr (a_eN S) ∧ (a_eN S) = 0) ∧ V 0 MX7_back 9 [some (vR 6 44)] [vZ (-3)] σ post from ⟨(by omega), ?_⟩)
    exact V_iret kX7_back rfl rfl (h0f h0)
  · skip
    refine V_run kX7_back 4 [1] (show (zr (a_eN S) ∧ ¬ (a_eN S) = 0) ∧ V 0 MX7_back 15 [some (vR 6 44)] [vZ (σ.1 44 8), vR 6 44] σ post from ⟨(by omega), ?_⟩)
    refine V_top (r3.1) ?_
    refine V_run kX7_back 5 [] (show V 0 MX7_back 24 [some (vR 6 44)] [vZ ((uI σ 44 8 ((a_eN S) - 1)).1 44 8)] (uI σ 44 8 ((a_eN S) - 1)) post from ?_)
    refine V_top (uI_get) ?_
    exact V_iret kX7_back rfl rfl (hp (by omega) _ ⟨fun a x => by rw [uI_ne (by omega)], fun _ _ => rfl⟩ ⟨r1, r2, ⟨uI_get, fun e a c => r3.2 e a (by have : e < a_eN S - 1 := c; omega)⟩, ⟨by rw [uI_at, if_neg (by decide)]; exact r4.1, r4.2⟩, r5, by rw [uI_at, if_neg (by decide)]; exact r6⟩)
set_option maxHeartbeats 4000000 in
set_option maxRecDepth 100000 in
/-- event -/
theorem c_M_event {k t p : Int} {S : zAb} {σ : zSt} {post : Option VV → zSt → Prop} (hR : RM σ S) (ho : aOk S) (hk : zr k) (ht : zr t) (hq : zr p) (hbad : ¬ ((0 ≤ k ∧ k ≤ 2) ∧ (0 ≤ t ∧ t ≤ 23) ∧ 0 ≤ p ∧ p ≤ 11) → post (some (vZ (-2))) σ) (hfull : ((0 ≤ k ∧ k ≤ 2) ∧ (0 ≤ t ∧ t ≤ 23) ∧ 0 ≤ p ∧ p ≤ 11) → a_eN S = 8 → post (some (vZ (-4))) σ) (hp : ((0 ≤ k ∧ k ≤ 2) ∧ (0 ≤ t ∧ t ≤ 23) ∧ 0 ≤ p ∧ p ≤ 11) → a_eN S < 8 → ∀ σ', cKeep σ σ' → RM σ' (aEventS S k t p) → post (some (vZ (a_eN S + 1))) σ') : Mc 2 MX7_event [vR 6 44, vZ k, vZ t, vZ p] σ post := by
  obtain ⟨r1, r2, r3, r4, r5, r6⟩ := id hR
  have hen := ho.2.2.1
  show V 2 MX7_event 0 [some (vR 6 44), some (vZ k), some (vZ t), some (vZ p)] [] σ post
  refine V_run kX7_event 1 [] (show V 2 MX7_event 1 [some (vR 6 44), some (vZ k), some (vZ t), some (vZ p)] [vZ k] σ post from ?_)
  refine V_callS (a := [vZ k]) (rest := []) kX7_event rfl oX7_isThree iX7_isThree lk_7_149 rfl rfl (Nat.le_of_ble_eq_true rfl) (Nat.le_of_ble_eq_true rfl) (Nat.le_of_ble_eq_true rfl) (post' := fun zv zσ => V 2 MX7_event 4 [some (vR 6 44), some (vZ k), some (vZ t), some (vZ p)] (zv.toList ++ []) zσ post) (c_M_isThree (by omega) ((show V 2 MX7_event 4 [some (vR 6 44), some (vZ k), some (vZ t), some (vZ p)] [vZ (if 0 ≤ k ∧ k ≤ 2 then 1 else 0)] σ post from ?_))) (fun _ _ h => h)
  by_cases h1 : 0 ≤ k ∧ k ≤ 2
  rotate_left
  · skip
    refine V_top (if_neg h1) ?_
    refine V_run kX7_event 2 [1] (show (zr 0 ∧ 0 = 0) ∧ V 2 MX7_event 23 [some (vR 6 44), some (vZ k), some (vZ t), some (vZ p)] [vZ (-2)] σ post from ⟨(by omega), ?_⟩)
    exact V_iret kX7_event rfl rfl (hbad (fun q => h1 q.1))
  refine V_top (if_pos h1) ?_
  refine V_run kX7_event 2 [0] (show (zr 1 ∧ ¬ 1 = 0) ∧ V 2 MX7_event 8 [some (vR 6 44), some (vZ k), some (vZ t), some (vZ p)] [vZ t] σ post from ⟨(by omega), ?_⟩)
  refine V_callS (a := [vZ t]) (rest := []) kX7_event rfl oX7_isMinute iX7_isMinute lk_7_116 rfl rfl (Nat.le_of_ble_eq_true rfl) (Nat.le_of_ble_eq_true rfl) (Nat.le_of_ble_eq_true rfl) (post' := fun zv zσ => V 2 MX7_event 11 [some (vR 6 44), some (vZ k), some (vZ t), some (vZ p)] (zv.toList ++ []) zσ post) (c_M_isMinute (by omega) ((show V 2 MX7_event 11 [some (vR 6 44), some (vZ k), some (vZ t), some (vZ p)] [vZ (if 0 ≤ t ∧ t ≤ 23 then 1 else 0)] σ post from ?_))) (fun _ _ h => h)
  by_cases h2 : 0 ≤ t ∧ t ≤ 23
  rotate_left
  · skip
    refine V_top (if_neg h2) ?_
    refine V_run kX7_event 2 [1] (show (zr 0 ∧ 0 = 0) ∧ V 2 MX7_event 23 [some (vR 6 44), some (vZ k), some (vZ t), some (vZ p)] [vZ (-2)] σ post from ⟨(by omega), ?_⟩)
    exact V_iret kX7_event rfl rfl (hbad (fun q => h2 q.2.1))
  refine V_top (if_pos h2) ?_
  refine V_run kX7_event 2 [0] (show (zr 1 ∧ ¬ 1 = 0) ∧ V 2 MX7_event 15 [some (vR 6 44), some (vZ k), some (vZ t), some (vZ p)] [vZ p] σ post from ⟨(by omega), ?_⟩)
  refine V_callS (a := [vZ p]) (rest := []) kX7_event rfl oX7_isTwelve iX7_isTwelve lk_7_158 rfl rfl (Nat.le_of_ble_eq_true rfl) (Nat.le_of_ble_eq_true rfl) (Nat.le_of_ble_eq_true rfl) (post' := fun zv zσ => V 2 MX7_event 18 [some (vR 6 44), some (vZ k), some (vZ t), some (vZ p)] (zv.toList ++ []) zσ post) (c_M_isTwelve (by omega) ((show V 2 MX7_event 18 [some (vR 6 44), some (vZ k), some (vZ t), some (vZ p)] [vZ (if 0 ≤ p ∧ p ≤ 11 then 1 else 0)] σ post from ?_))) (fun _ _ h => h)
  by_cases h3 : 0 ≤ p ∧ p ≤ 11
  rotate_left
  · skip
    refine V_top (if_neg h3) ?_
    refine V_run kX7_event 2 [0] (show (zr 0 ∧ 0 = 0) ∧ V 2 MX7_event 23 [some (vR 6 44), some (vZ k), some (vZ t), some (vZ p)] [vZ (-2)] σ post from ⟨(by omega), ?_⟩)
    exact V_iret kX7_event rfl rfl (hbad (fun q => h3 q.2.2))
  refine V_top (if_pos h3) ?_
  refine V_run kX7_event 3 [1] (show (zr 1 ∧ ¬ 1 = 0) ∧ V 2 MX7_event 28 [some (vR 6 44), some (vZ k), some (vZ t), some (vZ p)] [vZ (σ.1 44 8)] σ post from ⟨(by omega), ?_⟩)
  refine V_top (r3.1) ?_
  refine V_run kX7_event 1 [] (show V 2 MX7_event 30 [some (vR 6 44), some (vZ k), some (vZ t), some (vZ p)] [vZ 8, vZ (a_eN S)] σ post from ?_)
  by_cases h8 : a_eN S = 8
  · skip
    refine V_run kX7_event 2 [0] (show (zr (a_eN S) ∧ zr 8 ∧ (a_eN S) = 8) ∧ V 2 MX7_event 35 [some (vR 6 44), some (vZ k), some (vZ t), some (vZ p)] [vZ (-4)] σ post from ⟨(by omega), ?_⟩)
    exact V_iret kX7_event rfl rfl (hfull ⟨h1, h2, h3⟩ h8)
  · skip
    refine V_run kX7_event 5 [1] (show (zr (a_eN S) ∧ zr 8 ∧ ¬ (a_eN S) = 8) ∧ V 2 MX7_event 44 [some (vR 6 44), some (vZ k), some (vZ t), some (vZ p)] [vZ (σ.1 44 8), vR 8 51] σ post from ⟨(by omega), ?_⟩)
    refine V_top (r3.1) ?_
    refine V_run kX7_event 6 [] (show (0 ≤ (a_eN S) ∧ (a_eN S) < 9) ∧ V 2 MX7_event 54 [some (vR 6 44), some (vZ k), some (vZ t), some (vZ p)] [vZ ((uI σ 51 (a_eN S) k).1 44 8), vR 8 52] (uI σ 51 (a_eN S) k) post from ⟨(by omega), ?_⟩)
    refine V_top (show (uI σ 51 (a_eN S) k).1 44 8 = a_eN S from r3.1) ?_
    refine V_run kX7_event 6 [] (show (0 ≤ (a_eN S) ∧ (a_eN S) < 9) ∧ V 2 MX7_event 64 [some (vR 6 44), some (vZ k), some (vZ t), some (vZ p)] [vZ ((uI (uI σ 51 (a_eN S) k) 52 (a_eN S) t).1 44 8), vR 8 53] (uI (uI σ 51 (a_eN S) k) 52 (a_eN S) t) post from ⟨(by omega), ?_⟩)
    refine V_top (show (uI (uI σ 51 (a_eN S) k) 52 (a_eN S) t).1 44 8 = a_eN S from r3.1) ?_
    refine V_run kX7_event 5 [] (show (0 ≤ (a_eN S) ∧ (a_eN S) < 9) ∧ V 2 MX7_event 71 [some (vR 6 44), some (vZ k), some (vZ t), some (vZ p)] [vZ ((uI (uI (uI σ 51 (a_eN S) k) 52 (a_eN S) t) 53 (a_eN S) p).1 44 8), vR 6 44] (uI (uI (uI σ 51 (a_eN S) k) 52 (a_eN S) t) 53 (a_eN S) p) post from ⟨(by omega), ?_⟩)
    refine V_top (show (uI (uI (uI σ 51 (a_eN S) k) 52 (a_eN S) t) 53 (a_eN S) p).1 44 8 = a_eN S from r3.1) ?_
    refine V_run kX7_event 5 [] (show V 2 MX7_event 80 [some (vR 6 44), some (vZ k), some (vZ t), some (vZ p)] [vZ ((uI (uI (uI (uI σ 51 (a_eN S) k) 52 (a_eN S) t) 53 (a_eN S) p) 44 8 ((a_eN S) + 1)).1 44 8)] (uI (uI (uI (uI σ 51 (a_eN S) k) 52 (a_eN S) t) 53 (a_eN S) p) 44 8 ((a_eN S) + 1)) post from ?_)
    refine V_top (uI_get) ?_
    refine V_iret kX7_event rfl rfl (hp ⟨h1, h2, h3⟩ (by omega) _ ⟨fun a x => by rw [uI_ne (by omega), uI_ne (by omega), uI_ne (by omega), uI_ne (by omega)], fun _ _ => rfl⟩ ⟨r1, r2, ⟨uI_get, fun i a c => ?_⟩, ⟨by rw [uI_at, if_neg (by decide)]; exact r4.1, r4.2⟩, r5, by rw [uI_at, if_neg (by decide)]; exact r6⟩)
    have c : i < a_eN S + 1 := c
    rw [uI_ne (by decide), uI_ne (by decide), uI_ne (by decide), uI_at, uI_ne (by decide), uI_ne (by decide), uI_at, uI_ne (by decide), uI_ne (by decide), uI_at, uI_ne (by decide), uI_ne (by decide)]
    show _ = fPut (a_eK S) (a_eN S) k i ∧ _ = fPut (a_eM S) (a_eN S) t i ∧ _ = fPut (a_eP S) (a_eN S) p i
    unfold fPut
    by_cases hi : i = a_eN S
    · rw [if_pos hi, if_pos hi, if_pos hi, if_pos hi, if_pos hi, if_pos hi]; exact ⟨rfl, rfl, rfl⟩
    · rw [if_neg hi, if_neg hi, if_neg hi, if_neg hi, if_neg hi, if_neg hi]; exact r3.2 i a (by omega)
