/-! the day's states, minute by minute -/
theorem dBe_s0 {C : zCf} {D : zDy} {e k : Int} : ds (dBe C e D) k = 0 ↔ ds D k = 0 := by
  unfold dBe
  by_cases hno : cn C ≤ cPe C e ∨ ds D (cPe C e) ≠ 1
  · rw [if_pos hno]
  · rw [if_neg hno]
    have hs1 : ds D (cPe C e) = 1 := Decidable.byContradiction fun q => hno (Or.inr q)
    by_cases hk0 : cKi C e = 0
    · rw [if_pos hk0]
      show fPut (ds D) (cPe C e) 3 k = 0 ↔ ds D k = 0
      unfold fPut
      by_cases hk : k = cPe C e
      · rw [if_pos hk, hk]; omega
      · rw [if_neg hk]
    · rw [if_neg hk0]
theorem zJ_BeN {C : zCf} {D : zDy} {t : Int} (hC : zCv C) (hJ : zJ C D) : ∀ m : Nat, (m : Int) ≤ cE C → zJ C (dBeN C t m D)
  | 0, _ => hJ
  | m + 1, h => by
    unfold dBeN
    have h1 := zJ_BeN (t := t) hC hJ m (by omega)
    split
    · exact zJ_Be hC h1 (by omega) (by omega)
    · exact h1
theorem dBeN_s0 {C : zCf} {D : zDy} {t k : Int} : ∀ m : Nat, ds (dBeN C t m D) k = 0 ↔ ds D k = 0
  | 0 => Iff.rfl
  | m + 1 => by
    unfold dBeN
    split
    · exact dBe_s0.trans (dBeN_s0 m)
    · exact dBeN_s0 m
theorem zJ_CoN {C : zCf} {D : zDy} {t : Int} (hC : zCv C) (hJ : zJ C D) (hc : zJc C t 0 D) : ∀ m : Nat, (m : Int) ≤ cn C → zJ C (dCoN C t m D) ∧ zJc C t m (dCoN C t m D)
  | 0, _ => ⟨hJ, hc⟩
  | m + 1, h => by
    obtain ⟨h1, h2⟩ := zJ_CoN hC hJ hc m (by omega)
    unfold dCoN
    by_cases hm : cCm C m = t
    · rw [if_pos hm]
      have hs : ds (dCoN C t m D) m = 0 := (h2 m (by omega) (by omega)).mpr (Or.inr ⟨hm, Int.le_refl _⟩)
      have hl : 0 < dl (dCoN C t m D) m := by
        have a := h1.2.2.2.2.1 m
        have b := (h1.2.2.2.2.2.1 m (by omega) (by omega))
        rcases Int.lt_or_le 0 (dl (dCoN C t m D) m) with q | q
        · exact q
        · have := b.mpr (by omega); omega
      refine ⟨zJ_Co hC h1 (by omega) (by omega) hs hl, fun k k0 k1 => ?_⟩
      show fPut (ds (dCoN C t m D)) m 1 k = 0 ↔ _
      unfold fPut
      by_cases hk : k = m
      · rw [if_pos hk, hk]; omega
      · rw [if_neg hk, h2 k k0 k1]; omega
    · rw [if_neg hm]
      refine ⟨h1, fun k k0 k1 => ?_⟩
      rw [h2 k k0 k1]
      by_cases hk : k = m
      · rw [hk]; omega
      · omega
theorem dSe_s0 {C : zCf} {D : zDy} {t k : Int} (hJ : zJ C D) : ds (dSe C t D) k = 0 ↔ ds D k = 0 := by
  show (if (sFr C t D = true ∧ k = dq D 0) ∨ (sBk C t D = true ∧ k = dq D (dn D - 1)) then 2 else ds D k) = 0 ↔ _
  by_cases hc : (sFr C t D = true ∧ k = dq D 0) ∨ (sBk C t D = true ∧ k = dq D (dn D - 1))
  · rw [if_pos hc]
    have h1 : ds D k = 1 := by
      rcases hc with ⟨x, y⟩ | ⟨x, y⟩
      · rw [y]; exact (hJ.2.1 0 (by omega) (wFr_i.mp (sFr_i.mp x).1).1).2.1
      · have := (wBk_i.mp (sBk_i.mp x).1).1
        rw [y]; exact (hJ.2.1 (dn D - 1) (by omega) (by omega)).2.1
    omega
  · rw [if_neg hc]
theorem zJ_Min {C : zCf} {D : zDy} {t : Int} (hC : zCv C) (hJ : zJ C D) (hc : zJc C t 0 D) : zJ C (dMin C t D) ∧ zJc C (t + 1) 0 (dMin C t D) := by
  have a := zJ_BeN (t := t) hC hJ (cE C).toNat (by have := hC.2.1; omega)
  have ac : zJc C t 0 (dBeN C t (cE C).toNat D) := fun k k0 k1 => (dBeN_s0 _).trans (hc k k0 k1)
  obtain ⟨b, bc⟩ := zJ_CoN hC a ac (cn C).toNat (by have := hC.1; omega)
  refine ⟨zJ_Se b, fun k k0 k1 => ?_⟩
  show ds (dSe C t _) k = 0 ↔ _
  rw [dSe_s0 b, bc k k0 k1]
  omega
theorem zJ_day {C : zCf} (hC : zCv C) : ∀ t : Nat, zJ C (dDay C t) ∧ zJc C t 0 (dDay C t)
  | 0 => ⟨zJ_St hC, fun k k0 k1 => by
      show (0 : Int) = 0 ↔ _
      have := (hC.2.2.1 k k0 k1).1
      exact ⟨fun _ => by omega, fun _ => rfl⟩⟩
  | t + 1 => by
    obtain ⟨a, b⟩ := zJ_day hC t
    have h := zJ_Min (t := t) hC a b
    exact ⟨h.1, by have h2 := h.2; rwa [show ((t : Int) + 1) = ((t + 1 : Nat) : Int) by omega] at h2⟩
/-! a plan in its cells -/
def zPz (b : Nat) : Prop := zlen (b + 1) = 12 ∧ zlen (b + 2) = 12 ∧ zlen (b + 3) = 24 ∧ zlen (b + 4) = 9 ∧ zlen (b + 5) = 9 ∧ zlen (b + 6) = 9 ∧ zlen (b + 7) = 24 ∧ zlen (b + 8) = 24
def zPl (σ : zSt) (b : Nat) (C : zCf) : Prop :=
  σ.1 b 0 = cn C ∧ σ.1 b 5 = cE C ∧ (∀ k : Int, 0 ≤ k → k < cn C → σ.1 (b + 1) k = cCm C k ∧ σ.1 (b + 2) k = cSo C k) ∧
  (∃ w : Nat, w < 16 ^ 12 ∧ σ.2 b 3 = lN w ∧ ∀ k : Int, 0 ≤ k → k < 12 → dgt w k = if k < cn C then cPa C k else 0) ∧
  (∀ t : Int, 0 ≤ t → t < 24 → σ.1 (b + 3) t = cWi C t) ∧
  (∀ e : Int, 0 ≤ e → e < cE C → σ.1 (b + 4) e = cKi C e ∧ σ.1 (b + 5) e = cMi C e ∧ σ.1 (b + 6) e = cPe C e) ∧
  (∀ t : Int, 0 ≤ t → t < 24 → zr (σ.1 (b + 7) t) ∧ ∀ k : Int, 0 ≤ k → k < 12 → zbt (σ.1 (b + 7) t) k = decide (k < cn C ∧ cCm C k = t)) ∧
  (∀ t : Int, 0 ≤ t → t < 24 → zr (σ.1 (b + 8) t) ∧ ∀ e : Int, 0 ≤ e → e < 9 → zbt (σ.1 (b + 8) t) e = decide (e < cE C ∧ cMi C e = t)) ∧ zCv C
theorem zPl_cong {σ σ' : zSt} {b : Nat} {C : zCf} (h1 : ∀ k : Nat, b ≤ k → k ≤ b + 8 → σ'.1 k = σ.1 k) (h2 : σ'.2 b = σ.2 b) (h : zPl σ b C) : zPl σ' b C := by
  unfold zPl at h ⊢
  rw [h1 b (by omega) (by omega), h1 (b + 1) (by omega) (by omega), h1 (b + 2) (by omega) (by omega), h1 (b + 3) (by omega) (by omega), h1 (b + 4) (by omega) (by omega), h1 (b + 5) (by omega) (by omega), h1 (b + 6) (by omega) (by omega), h1 (b + 7) (by omega) (by omega), h1 (b + 8) (by omega) (by omega), h2]
  exact h
theorem uI_ne {σ : zSt} {k a : Nat} {j v : Int} (h : a ≠ k) : (uI σ k j v).1 a = σ.1 a := by
  funext b
  exact if_neg (fun z => h z.1)
theorem uI_at {σ : zSt} {k : Nat} {j v b : Int} : (uI σ k j v).1 k b = if b = j then v else σ.1 k b := by
  show (if k = k ∧ b = j then v else σ.1 k b) = _
  by_cases h : b = j
  · rw [if_pos ⟨rfl, h⟩, if_pos h]
  · rw [if_neg (fun z => h z.2), if_neg h]
theorem uI_2 {σ : zSt} {k : Nat} {j v : Int} : (uI σ k j v).2 = σ.2 := rfl
theorem uL_1 {σ : zSt} {k : Nat} {j : Int} {v : Int64} : (uL σ k j v).1 = σ.1 := rfl
theorem uL_ne {σ : zSt} {k a : Nat} {j : Int} {v : Int64} (h : a ≠ k) : (uL σ k j v).2 a = σ.2 a := by
  funext b
  exact if_neg (fun z => h z.1)
theorem uL_at {σ : zSt} {k : Nat} {j b : Int} {v : Int64} : (uL σ k j v).2 k b = if b = j then v else σ.2 k b := by
  show (if k = k ∧ b = j then v else σ.2 k b) = _
  by_cases h : b = j
  · rw [if_pos ⟨rfl, h⟩, if_pos h]
  · rw [if_neg (fun z => h z.2), if_neg h]
theorem uL_uL {σ : zSt} {k : Nat} {j : Int} {v w : Int64} : uL (uL σ k j v) k j w = uL σ k j w := by
  unfold uL
  congr 1
  funext a b
  by_cases h : a = k ∧ b = j
  · simp [h]
  · simp [h]
theorem uL_self {σ : zSt} {k : Nat} {j : Int} {v : Int64} (h : σ.2 k j = v) : uL σ k j v = σ := by
  unfold uL
  obtain ⟨a, b⟩ := σ
  congr 1
  funext x y
  by_cases hh : x = k ∧ y = j
  · rw [if_pos hh, hh.1, hh.2]; exact h.symm
  · rw [if_neg hh]
