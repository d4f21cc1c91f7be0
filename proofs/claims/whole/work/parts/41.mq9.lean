def aTyp (S : zAb) (x : Int) : Int := if x = 0 then a_pN S else a_wN S
/-- a text's size set -/
def aSzS (S : zAb) (x n : Int) : zAb := if x = 0 then (n, a_pF S, a_wN S, a_wF S, a_eN S, a_eK S, a_eM S, a_eP S, a_sN S, a_sM S, a_sP S, a_sW S, a_hF S, a_hN S, a_hI S, a_fnd S) else (a_pN S, a_pF S, n, a_wF S, a_eN S, a_eK S, a_eM S, a_eP S, a_sN S, a_sM S, a_sP S, a_sW S, a_hF S, a_hN S, a_hI S, a_fnd S)
theorem RM_sz {σ : zSt} {S : zAb} {x n : Int} (hR : RM σ S) (hx : 0 ≤ x ∧ x ≤ 1) (hn : n ≤ aTyp S x) : RM (uI σ 45 x n) (aSzS S x n) := by
  obtain ⟨r1, r2, r3, r4, r5, r6⟩ := hR
  unfold aTyp at hn
  unfold aSzS
  by_cases h : x = 0
  · rw [if_pos h] at hn ⊢
    rw [h]
    exact ⟨⟨uI_get, fun i a c => r1.2 i a (by have c : i < n := c; omega)⟩, ⟨by rw [uI_at, if_neg (by decide)]; exact r2.1, r2.2⟩, r3, r4, r5, r6⟩
  · rw [if_neg h] at hn ⊢
    rw [show x = 1 by omega]
    exact ⟨⟨by rw [uI_at, if_neg (by decide)]; exact r1.1, r1.2⟩, ⟨uI_get, fun i a c => r2.2 i a (by have c : i < n := c; omega)⟩, r3, r4, r5, r6⟩
theorem RM_typ {σ : zSt} {S : zAb} {x : Int} (hR : RM σ S) (hx : 0 ≤ x ∧ x ≤ 1) : σ.1 45 x = aTyp S x := by
  unfold aTyp
  by_cases h : x = 0
  · rw [if_pos h, h]; exact hR.1.1
  · rw [if_neg h, show x = 1 by omega]; exact hR.2.1.1
set_option maxHeartbeats 4000000 in
set_option maxRecDepth 100000 in
/-- wipe -/
theorem c_M_wipe {x : Int} {S : zAb} {σ : zSt} {post : Option VV → zSt → Prop} (hR : RM σ S) (ho : aOk S) (hx : zr x) (hbad : ¬ (0 ≤ x ∧ x ≤ 1) → post (some (vZ (-2))) σ) (hp : (0 ≤ x ∧ x ≤ 1) → ∀ σ', cKeep σ σ' → RM σ' (aSzS S x 0) → post (some (vZ (aTyp S x))) σ') : Mc 2 MX7_wipe [vR 6 44, vZ x] σ post := by
  show V 2 MX7_wipe 0 [some (vR 6 44), some (vZ x), none] [] σ post
  refine V_run kX7_wipe 1 [] (show V 2 MX7_wipe 1 [some (vR 6 44), some (vZ x), none] [vZ x] σ post from ?_)
  refine V_callS (a := [vZ x]) (rest := []) kX7_wipe rfl oX7_isText iX7_isText lk_7_108 rfl rfl (Nat.le_of_ble_eq_true rfl) (Nat.le_of_ble_eq_true rfl) (Nat.le_of_ble_eq_true rfl) (post' := fun zv zσ => V 2 MX7_wipe 4 [some (vR 6 44), some (vZ x), none] (zv.toList ++ []) zσ post) (c_M_isText (by omega) ((show V 2 MX7_wipe 4 [some (vR 6 44), some (vZ x), none] [vZ (if 0 ≤ x ∧ x ≤ 1 then 1 else 0)] σ post from ?_))) (fun _ _ h => h)
  by_cases h1 : 0 ≤ x ∧ x ≤ 1
  rotate_left
  · skip
    refine V_top (if_neg h1) ?_
    refine V_run kX7_wipe 2 [0] (show (zr 0 ∧ 0 = 0) ∧ V 2 MX7_wipe 9 [some (vR 6 44), some (vZ x), none] [vZ (-2)] σ post from ⟨(by omega), ?_⟩)
    exact V_iret kX7_wipe rfl rfl (hbad h1)
  refine V_top (if_pos h1) ?_
  have hty := RM_typ hR h1
  have hpo := ho.1
  have hwo := ho.2.1
  have htr : 0 ≤ aTyp S x ∧ aTyp S x ≤ 47 := by unfold aTyp; split <;> omega
  refine V_run kX7_wipe 5 [1] (show (zr 1 ∧ ¬ 1 = 0) ∧ (0 ≤ x ∧ x < 2) ∧ V 2 MX7_wipe 16 [some (vR 6 44), some (vZ x), none] [vZ (σ.1 45 x)] σ post from ⟨(by omega), (by omega), ?_⟩)
  refine V_top (hty) ?_
  refine V_run kX7_wipe 7 [] (show (0 ≤ x ∧ x < 2) ∧ V 2 MX7_wipe 25 [some (vR 6 44), some (vZ x), some (vZ (aTyp S x))] [vZ (aTyp S x)] (uI σ 45 x 0) post from ⟨(by omega), ?_⟩)
  exact V_iret kX7_wipe rfl rfl (hp h1 _ ⟨fun a x => by rw [uI_ne (by omega)], fun _ _ => rfl⟩ (RM_sz hR h1 htr.1))
set_option maxHeartbeats 4000000 in
set_option maxRecDepth 100000 in
/-- undo -/
theorem c_M_undo {x : Int} {S : zAb} {σ : zSt} {post : Option VV → zSt → Prop} (hR : RM σ S) (ho : aOk S) (hx : zr x) (hbad : ¬ (0 ≤ x ∧ x ≤ 1) → post (some (vZ (-2))) σ) (h0f : (0 ≤ x ∧ x ≤ 1) → aTyp S x = 0 → post (some (vZ (-3))) σ) (hp : (0 ≤ x ∧ x ≤ 1) → 0 < aTyp S x → ∀ σ', cKeep σ σ' → RM σ' (aSzS S x (aTyp S x - 1)) → post (some (vZ (aTyp S x - 1))) σ') : Mc 2 MX7_undo [vR 6 44, vZ x] σ post := by
  show V 2 MX7_undo 0 [some (vR 6 44), some (vZ x)] [] σ post
  refine V_run kX7_undo 1 [] (show V 2 MX7_undo 1 [some (vR 6 44), some (vZ x)] [vZ x] σ post from ?_)
  refine V_callS (a := [vZ x]) (rest := []) kX7_undo rfl oX7_isText iX7_isText lk_7_108 rfl rfl (Nat.le_of_ble_eq_true rfl) (Nat.le_of_ble_eq_true rfl) (Nat.le_of_ble_eq_true rfl) (post' := fun zv zσ => V 2 MX7_undo 4 [some (vR 6 44), some (vZ x)] (zv.toList ++ []) zσ post) (c_M_isText (by omega) ((show V 2 MX7_undo 4 [some (vR 6 44), some (vZ x)] [vZ (if 0 ≤ x ∧ x ≤ 1 then 1 else 0)] σ post from ?_))) (fun _ _ h => h)
  by_cases h1 : 0 ≤ x ∧ x ≤ 1
  rotate_left
  · skip
    refine V_top (if_neg h1) ?_
    refine V_run kX7_undo 2 [0] (show (zr 0 ∧ 0 = 0) ∧ V 2 MX7_undo 9 [some (vR 6 44), some (vZ x)] [vZ (-2)] σ post from ⟨(by omega), ?_⟩)
    exact V_iret kX7_undo rfl rfl (hbad h1)
  refine V_top (if_pos h1) ?_
  have hty := RM_typ hR h1
  have hpo := ho.1
  have hwo := ho.2.1
  have htr : 0 ≤ aTyp S x ∧ aTyp S x ≤ 47 := by unfold aTyp; split <;> omega
  refine V_run kX7_undo 5 [1] (show (zr 1 ∧ ¬ 1 = 0) ∧ (0 ≤ x ∧ x < 2) ∧ V 2 MX7_undo 16 [some (vR 6 44), some (vZ x)] [vZ (σ.1 45 x)] σ post from ⟨(by omega), (by omega), ?_⟩)
  refine V_top (hty) ?_
  by_cases h0 : aTyp S x = 0
  · skip
    refine V_run kX7_undo 2 [0] (show (zr (aTyp S x) ∧ (aTyp S x) = 0) ∧ V 2 MX7_undo 21 [some (vR 6 44), some (vZ x)] [vZ (-3)] σ post from ⟨(by omega), ?_⟩)
    exact V_iret kX7_undo rfl rfl (h0f h1 h0)
  · skip
    refine V_run kX7_undo 6 [1] (show (zr (aTyp S x) ∧ ¬ (aTyp S x) = 0) ∧ (0 ≤ x ∧ x < 2) ∧ V 2 MX7_undo 29 [some (vR 6 44), some (vZ x)] [vZ (σ.1 45 x), vZ x, vR 8 45] σ post from ⟨(by omega), (by omega), ?_⟩)
    refine V_top (hty) ?_
    refine V_run kX7_undo 7 [] (show (0 ≤ x ∧ x < 2) ∧ (0 ≤ x ∧ x < 2) ∧ V 2 MX7_undo 38 [some (vR 6 44), some (vZ x)] [vZ ((uI σ 45 x ((aTyp S x) - 1)).1 45 x)] (uI σ 45 x ((aTyp S x) - 1)) post from ⟨(by omega), (by omega), ?_⟩)
    refine V_top (uI_get) ?_
    exact V_iret kX7_undo rfl rfl (hp h1 (by omega) _ ⟨fun a x => by rw [uI_ne (by omega)], fun _ _ => rfl⟩ (RM_sz hR h1 (by omega)))
