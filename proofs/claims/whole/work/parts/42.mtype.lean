def aTypS (S : zAb) (x v : Int) : zAb := if x = 0 then (a_pN S + 1, fPut (a_pF S) (a_pN S) v, a_wN S, a_wF S, a_eN S, a_eK S, a_eM S, a_eP S, a_sN S, a_sM S, a_sP S, a_sW S, a_hF S, a_hN S, a_hI S, a_fnd S) else (a_pN S, a_pF S, a_wN S + 1, fPut (a_wF S) (a_wN S) v, a_eN S, a_eK S, a_eM S, a_eP S, a_sN S, a_sM S, a_sP S, a_sW S, a_hF S, a_hN S, a_hI S, a_fnd S)
theorem RM_ty {σ : zSt} {S : zAb} {x v : Int} (hR : RM σ S) (ho : aOk S) (hx : 0 ≤ x ∧ x ≤ 1) (hl : aTyp S x < if x = 0 then 47 else 24) : RM (uI (uI σ 46 (47 * x + aTyp S x) v) 45 x (aTyp S x + 1)) (aTypS S x v) := by
  obtain ⟨r1, r2, r3, r4, r5, r6⟩ := hR
  have hpo := ho.1
  have hwo := ho.2.1
  unfold aTyp at hl ⊢
  unfold aTypS
  by_cases h : x = 0
  · rw [if_pos h, if_pos h] at hl
    rw [if_pos h, if_pos h, h]
    refine ⟨⟨uI_get, fun i a c => ?_⟩, ⟨by rw [uI_at, if_neg (by decide)]; exact r2.1, fun i a c => ?_⟩, r3, r4, r5, r6⟩
    · have c : i < a_pN S + 1 := c
      rw [uI_ne (by decide), uI_at]
      show _ = fPut (a_pF S) (a_pN S) v i
      unfold fPut
      by_cases hi : i = a_pN S
      · rw [if_pos hi, if_pos (by omega)]
      · rw [if_neg hi, if_neg (by omega)]; exact r1.2 i a (by omega)
    · rw [uI_ne (by decide), uI_at, if_neg (by omega)]; exact r2.2 i a c
  · rw [if_neg h, if_neg h] at hl
    have hx1 : x = 1 := by omega
    rw [if_neg h, if_neg h, hx1]
    refine ⟨⟨by rw [uI_at, if_neg (by decide)]; exact r1.1, fun i a c => ?_⟩, ⟨uI_get, fun i a c => ?_⟩, r3, r4, r5, r6⟩
    · have c : i < a_pN S := c
      rw [uI_ne (by decide), uI_at, if_neg (by omega)]; exact r1.2 i a c
    · have c : i < a_wN S + 1 := c
      rw [uI_ne (by decide), uI_at]
      show _ = fPut (a_wF S) (a_wN S) v i
      unfold fPut
      by_cases hi : i = a_wN S
      · rw [if_pos hi, if_pos (by omega)]
      · rw [if_neg hi, if_neg (by omega)]; exact r2.2 i a (by omega)
set_option maxHeartbeats 4000000 in
set_option maxRecDepth 100000 in
/-- type -/
theorem c_M_type {x v : Int} {S : zAb} {σ : zSt} {post : Option VV → zSt → Prop} (hR : RM σ S) (ho : aOk S) (hx : zr x) (hv : zr v) (hbad : ¬ ((0 ≤ x ∧ x ≤ 1) ∧ 0 ≤ v ∧ v ≤ 255) → post (some (vZ (-2))) σ) (hfull : ((0 ≤ x ∧ x ≤ 1) ∧ 0 ≤ v ∧ v ≤ 255) → aTyp S x = (if x = 0 then 47 else 24) → post (some (vZ (-4))) σ) (hp : ((0 ≤ x ∧ x ≤ 1) ∧ 0 ≤ v ∧ v ≤ 255) → aTyp S x < (if x = 0 then 47 else 24) → ∀ σ', cKeep σ σ' → RM σ' (aTypS S x v) → post (some (vZ (aTyp S x + 1))) σ') : Mc 2 MX7_type [vR 6 44, vZ x, vZ v] σ post := by
  show V 2 MX7_type 0 [some (vR 6 44), some (vZ x), some (vZ v)] [] σ post
  refine V_run kX7_type 1 [] (show V 2 MX7_type 1 [some (vR 6 44), some (vZ x), some (vZ v)] [vZ x] σ post from ?_)
  refine V_callS (a := [vZ x]) (rest := []) kX7_type rfl oX7_isText iX7_isText lk_7_108 rfl rfl (Nat.le_of_ble_eq_true rfl) (Nat.le_of_ble_eq_true rfl) (Nat.le_of_ble_eq_true rfl) (post' := fun zv zσ => V 2 MX7_type 4 [some (vR 6 44), some (vZ x), some (vZ v)] (zv.toList ++ []) zσ post) (c_M_isText (by omega) ((show V 2 MX7_type 4 [some (vR 6 44), some (vZ x), some (vZ v)] [vZ (if 0 ≤ x ∧ x ≤ 1 then 1 else 0)] σ post from ?_))) (fun _ _ h => h)
  by_cases h1 : 0 ≤ x ∧ x ≤ 1
  rotate_left
  · skip
    refine V_top (if_neg h1) ?_
    refine V_run kX7_type 2 [1] (show (zr 0 ∧ 0 = 0) ∧ V 2 MX7_type 20 [some (vR 6 44), some (vZ x), some (vZ v)] [vZ (-2)] σ post from ⟨(by omega), ?_⟩)
    exact V_iret kX7_type rfl rfl (hbad (fun q => h1 q.1))
  refine V_top (if_pos h1) ?_
  refine V_run kX7_type 4 [0] (show (zr 1 ∧ ¬ 1 = 0) ∧ V 2 MX7_type 12 [some (vR 6 44), some (vZ x), some (vZ v)] [vZ 255, vZ 0, vZ v] σ post from ⟨(by omega), ?_⟩)
  refine V_callS (a := [vZ v, vZ 0, vZ 255]) (rest := []) kX7_type rfl oX7_in iX7_in lk_7_104 rfl rfl (Nat.le_of_ble_eq_true rfl) (Nat.le_of_ble_eq_true rfl) (Nat.le_of_ble_eq_true rfl) (post' := fun zv zσ => V 2 MX7_type 15 [some (vR 6 44), some (vZ x), some (vZ v)] (zv.toList ++ []) zσ post) (c_M_in (by omega) (by omega) (by omega) ((show V 2 MX7_type 15 [some (vR 6 44), some (vZ x), some (vZ v)] [vZ (if 0 ≤ v ∧ v ≤ 255 then 1 else 0)] σ post from ?_))) (fun _ _ h => h)
  by_cases h2 : 0 ≤ v ∧ v ≤ 255
  rotate_left
  · skip
    refine V_top (if_neg h2) ?_
    refine V_run kX7_type 2 [0] (show (zr 0 ∧ 0 = 0) ∧ V 2 MX7_type 20 [some (vR 6 44), some (vZ x), some (vZ v)] [vZ (-2)] σ post from ⟨(by omega), ?_⟩)
    exact V_iret kX7_type rfl rfl (hbad (fun q => h2 q.2))
  refine V_top (if_pos h2) ?_
  refine V_run kX7_type 5 [1] (show (zr 1 ∧ ¬ 1 = 0) ∧ (0 ≤ x ∧ x < 2) ∧ V 2 MX7_type 27 [some (vR 6 44), some (vZ x), some (vZ v)] [vZ (σ.1 45 x)] σ post from ⟨(by omega), (by omega), ?_⟩)
  have hty := RM_typ hR h1
  have hpo := ho.1
  have hwo := ho.2.1
  have htr : 0 ≤ aTyp S x ∧ aTyp S x ≤ (if x = 0 then 47 else 24) := by unfold aTyp; split <;> omega
  have hc9 : (if x = 0 then (47 : Int) else 24) ≤ 47 := by split <;> omega
  refine V_top (hty) ?_
  refine V_run kX7_type 1 [] (show V 2 MX7_type 28 [some (vR 6 44), some (vZ x), some (vZ v)] [vZ x, vZ (aTyp S x)] σ post from ?_)
  by_cases h0 : x = 0
  · skip
    rw [if_pos h0] at htr
    refine V_run kX7_type 3 [0] (show (zr x ∧ x = 0) ∧ V 2 MX7_type 38 [some (vR 6 44), some (vZ x), some (vZ v)] [vZ 47, vZ (aTyp S x)] σ post from ⟨(by omega), ?_⟩)
    by_cases h8 : aTyp S x = 47
    · skip
      refine V_run kX7_type 2 [0] (show (zr (aTyp S x) ∧ zr 47 ∧ (aTyp S x) = 47) ∧ V 2 MX7_type 43 [some (vR 6 44), some (vZ x), some (vZ v)] [vZ (-4)] σ post from ⟨(by omega), ?_⟩)
      exact V_iret kX7_type rfl rfl (hfull ⟨h1, h2⟩ (by rw [if_pos h0]; exact h8))
    · skip
      refine V_run kX7_type 10 [1] (show (zr (aTyp S x) ∧ zr 47 ∧ ¬ (aTyp S x) = 47) ∧ (0 ≤ x ∧ x < 2) ∧ V 2 MX7_type 58 [some (vR 6 44), some (vZ x), some (vZ v)] [vZ (σ.1 45 x), vZ (47 * x), vR 8 46] σ post from ⟨(by omega), (by omega), ?_⟩)
      refine V_top (hty) ?_
      refine V_run kX7_type 8 [] (show (0 ≤ ((47 * x) + (aTyp S x)) ∧ ((47 * x) + (aTyp S x)) < 94) ∧ (0 ≤ x ∧ x < 2) ∧ V 2 MX7_type 68 [some (vR 6 44), some (vZ x), some (vZ v)] [vZ ((uI σ 46 ((47 * x) + (aTyp S x)) v).1 45 x), vZ x, vR 8 45] (uI σ 46 ((47 * x) + (aTyp S x)) v) post from ⟨(by omega), (by omega), ?_⟩)
      refine V_top (show (uI σ 46 ((47 * x) + (aTyp S x)) v).1 45 x = aTyp S x from hty) ?_
      refine V_run kX7_type 7 [] (show (0 ≤ x ∧ x < 2) ∧ (0 ≤ x ∧ x < 2) ∧ V 2 MX7_type 77 [some (vR 6 44), some (vZ x), some (vZ v)] [vZ ((uI (uI σ 46 ((47 * x) + (aTyp S x)) v) 45 x ((aTyp S x) + 1)).1 45 x)] (uI (uI σ 46 ((47 * x) + (aTyp S x)) v) 45 x ((aTyp S x) + 1)) post from ⟨(by omega), (by omega), ?_⟩)
      refine V_top (uI_get) ?_
      have hl9 : aTyp S x < if x = 0 then 47 else 24 := by rw [if_pos h0]; omega
      exact V_iret kX7_type rfl rfl (hp ⟨h1, h2⟩ hl9 _ ⟨fun a x => by rw [uI_ne (by omega), uI_ne (by omega)], fun _ _ => rfl⟩ (RM_ty hR ho h1 hl9))
  · skip
    rw [if_neg h0] at htr
    refine V_run kX7_type 2 [1] (show (zr x ∧ ¬ x = 0) ∧ V 2 MX7_type 38 [some (vR 6 44), some (vZ x), some (vZ v)] [vZ 24, vZ (aTyp S x)] σ post from ⟨(by omega), ?_⟩)
    by_cases h8 : aTyp S x = 24
    · skip
      refine V_run kX7_type 2 [0] (show (zr (aTyp S x) ∧ zr 24 ∧ (aTyp S x) = 24) ∧ V 2 MX7_type 43 [some (vR 6 44), some (vZ x), some (vZ v)] [vZ (-4)] σ post from ⟨(by omega), ?_⟩)
      exact V_iret kX7_type rfl rfl (hfull ⟨h1, h2⟩ (by rw [if_neg h0]; exact h8))
    · skip
      refine V_run kX7_type 10 [1] (show (zr (aTyp S x) ∧ zr 24 ∧ ¬ (aTyp S x) = 24) ∧ (0 ≤ x ∧ x < 2) ∧ V 2 MX7_type 58 [some (vR 6 44), some (vZ x), some (vZ v)] [vZ (σ.1 45 x), vZ (47 * x), vR 8 46] σ post from ⟨(by omega), (by omega), ?_⟩)
      refine V_top (hty) ?_
      refine V_run kX7_type 8 [] (show (0 ≤ ((47 * x) + (aTyp S x)) ∧ ((47 * x) + (aTyp S x)) < 94) ∧ (0 ≤ x ∧ x < 2) ∧ V 2 MX7_type 68 [some (vR 6 44), some (vZ x), some (vZ v)] [vZ ((uI σ 46 ((47 * x) + (aTyp S x)) v).1 45 x), vZ x, vR 8 45] (uI σ 46 ((47 * x) + (aTyp S x)) v) post from ⟨(by omega), (by omega), ?_⟩)
      refine V_top (show (uI σ 46 ((47 * x) + (aTyp S x)) v).1 45 x = aTyp S x from hty) ?_
      refine V_run kX7_type 7 [] (show (0 ≤ x ∧ x < 2) ∧ (0 ≤ x ∧ x < 2) ∧ V 2 MX7_type 77 [some (vR 6 44), some (vZ x), some (vZ v)] [vZ ((uI (uI σ 46 ((47 * x) + (aTyp S x)) v) 45 x ((aTyp S x) + 1)).1 45 x)] (uI (uI σ 46 ((47 * x) + (aTyp S x)) v) 45 x ((aTyp S x) + 1)) post from ⟨(by omega), (by omega), ?_⟩)
      refine V_top (uI_get) ?_
      have hl9 : aTyp S x < if x = 0 then 47 else 24 := by rw [if_neg h0]; omega
      exact V_iret kX7_type rfl rfl (hp ⟨h1, h2⟩ hl9 _ ⟨fun a x => by rw [uI_ne (by omega), uI_ne (by omega)], fun _ _ => rfl⟩ (RM_ty hR ho h1 hl9))
