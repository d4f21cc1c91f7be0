def aTypS (S : zAb) (x v : Int) : zAb := if x = 0 then (a_pN S + 1, fPut (a_pF S) (a_pN S) v, a_wN S, a_wF S, a_eN S, a_eK S, a_eM S, a_eP S, a_sN S, a_sM S, a_sP S, a_sW S, a_hF S, a_hN S, a_hI S, a_fnd S) else (a_pN S, a_pF S, a_wN S + 1, fPut (a_wF S) (a_wN S) v, a_eN S, a_eK S, a_eM S, a_eP S, a_sN S, a_sM S, a_sP S, a_sW S, a_hF S, a_hN S, a_hI S, a_fnd S)
theorem RM_ty {σ : zSt} {S : zAb} {x v : Int} (hR : RM σ S) (ho : aOk S) (hx : 0 ≤ x ∧ x ≤ 1) (hl : aTyp S x < if x = 0 then 47 else 24) : RM (uI (uI σ 46 (47 * x + aTyp S x) v) 45 x (aTyp S x + 1)) (aTypS S x v) := by
  obtain ⟨r1, r2, r3, r4, r5, r6⟩ := hR
  have hpo := ho.1
  have hwo := ho.2.1
  unfold aTyp at hl ⊢
  unfold aTypS
  by_cases h : x = 0
  · rw [if_pos h, if_pos h] at hl
    rw [if_pos h, if_pos h, h]
    refine ⟨⟨uI_get, fun i a c => ?_⟩, ⟨by rw [uI_at, if_neg (by decide)]; exact r2.1, fun i a c => ?_⟩, r3, r4, r5, r6⟩
    · have c : i < a_pN S + 1 := c
      rw [uI_ne (by decide), uI_at]
      show _ = fPut (a_pF S) (a_pN S) v i
      unfold fPut
      by_cases hi : i = a_pN S
      · rw [if_pos hi, if_pos (by omega)]
      · rw [if_neg hi, if_neg (by omega)]; exact r1.2 i a (by omega)
    · rw [uI_ne (by decide), uI_at, if_neg (by omega)]; exact r2.2 i a c
  · rw [if_neg h, if_neg h] at hl
    have hx1 : x = 1 := by omega
    rw [if_neg h, if_neg h, hx1]
    refine ⟨⟨by rw [uI_at, if_neg (by decide)]; exact r1.1, fun i a c => ?_⟩, ⟨uI_get, fun i a c => ?_⟩, r3, r4, r5, r6⟩
    · have c : i < a_pN S := c
      rw [uI_ne (by decide), uI_at, if_neg (by omega)]; exact r1.2 i a c
    · have c : i < a_wN S + 1 := c
      rw [uI_ne (by decide), uI_at]
      show _ = fPut (a_wF S) (a_wN S) v i
      unfold fPut
      by_cases hi : i = a_wN S
      · rw [if_pos hi, if_pos (by omega)]
      · rw [if_neg hi, if_neg (by omega)]; exact r2.2 i a (by omega)
