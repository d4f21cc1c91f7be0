theorem dd_Be {C : zCf} {D : zDy} {e : Int} : dd (dBe C e D) = dd D := by
  unfold dBe
  (repeat' split) <;> rfl
theorem dd_BeN {C : zCf} {D : zDy} {t : Int} : ∀ m : Nat, dd (dBeN C t m D) = dd D
  | 0 => rfl
  | m + 1 => by
    unfold dBeN
    split
    · exact dd_Be.trans (dd_BeN m)
    · exact dd_BeN m
theorem dd_CoN {C : zCf} {D : zDy} {t : Int} : ∀ m : Nat, dd (dCoN C t m D) = dd D
  | 0 => rfl
  | m + 1 => by
    unfold dCoN
    split
    · exact (show dd (dCo C m (dCoN C t m D)) = dd (dCoN C t m D) from rfl).trans (dd_CoN m)
    · exact dd_CoN m
theorem zSin_rng {C : zCf} {p : Int} : ∀ (m : Nat) (t : Int), 0 ≤ t → zSin C p m t = -1 ∨ t ≤ zSin C p m t
  | 0, _, _ => Or.inl rfl
  | m + 1, t, h => by
    unfold zSin
    split
    · exact Or.inr (Int.le_refl _)
    · rcases zSin_rng (C := C) (p := p) m (t + 1) (by omega) with q | q
      · exact Or.inl q
      · exact Or.inr (by omega)
theorem zSin_snoc {C : zCf} {p : Int} : ∀ (m : Nat) (t : Int), 0 ≤ t → zSin C p (m + 1) t = if zSin C p m t = -1 then (if dl (zD C (t + m)) p = 0 then t + m else -1) else zSin C p m t
  | 0, t, h => by
    show (if dl (zD C t) p = 0 then t else -1) = if (-1 : Int) = -1 then (if dl (zD C (t + ((0 : Nat) : Int))) p = 0 then t + ((0 : Nat) : Int) else -1) else -1
    rw [if_pos rfl, show t + ((0 : Nat) : Int) = t by omega]
  | m + 1, t, h => by
    have ih := zSin_snoc (C := C) (p := p) m (t + 1) (by omega)
    rw [show t + 1 + (m : Int) = t + ((m + 1 : Nat) : Int) by omega] at ih
    show (if dl (zD C t) p = 0 then t else zSin C p (m + 1) (t + 1)) = if (if dl (zD C t) p = 0 then t else zSin C p m (t + 1)) = -1 then _ else (if dl (zD C t) p = 0 then t else zSin C p m (t + 1))
    by_cases q : dl (zD C t) p = 0
    · rw [if_pos q, if_pos q, if_neg (by omega)]
    · rw [if_neg q, if_neg q]; exact ih
/-- when one was done: by the day's own record, or by what is left -/
theorem dd_sin {C : zCf} (hC : zCv C) {k : Int} (k0 : 0 ≤ k) (k1 : k < cn C) : ∀ t : Nat, dd (dDay C t) k = zSin C k t 0 ∧ (zSin C k t 0 = -1 ↔ ¬ dl (dDay C t) k = 0)
  | 0 => by
    refine ⟨rfl, ?_⟩
    have h := (hC.2.2.1 k k0 k1).2.2
    show (-1 : Int) = -1 ↔ ¬ (if 0 ≤ k ∧ k < cn C then cPa C k else 0) = 0
    rw [if_pos ⟨k0, k1⟩]
    exact ⟨fun _ => by omega, fun _ => rfl⟩
  | t + 1 => by
    obtain ⟨h1, h2⟩ := dd_sin hC k0 k1 t
    obtain ⟨hJ, hc⟩ := zJ_day hC t
    have hJb := zJ_BeN (t := (t : Int)) hC hJ (cE C).toNat (by have := hC.2.1; omega)
    have hcb : zJc C (t : Int) 0 (dBeN C (t : Int) (cE C).toNat (dDay C t)) := fun k k0 k1 => (dBeN_s0 _).trans (hc k k0 k1)
    obtain ⟨hJe, -⟩ := zJ_CoN hC hJb hcb (cn C).toNat (by have := hC.1; omega)
    obtain ⟨D, hD⟩ : ∃ D, D = dCoN C (t : Int) (cn C).toNat (dBeN C (t : Int) (cE C).toNat (dDay C t)) := ⟨_, rfl⟩
    have hdl : dl D = dl (dDay C t) := by rw [hD]; exact (dl_CoN _).trans (dl_BeN _)
    have hdd : dd D = dd (dDay C t) := by rw [hD]; exact (dd_CoN _).trans (dd_BeN _)
    rw [← hD] at hJe
    have hnx : dDay C (t + 1) = dSe C t D := by rw [hD]; rfl
    have hzD : zD C (t : Int) = dSe C t D := by rw [← hnx]; show dDay C ((t : Int).toNat + 1) = _; rw [Int.toNat_natCast]
    have hsn := zSin_snoc (C := C) (p := k) t 0 (Int.le_refl _)
    rw [Int.zero_add, hzD] at hsn
    rw [hnx, hsn]
    show (if (sFr C t D = true ∧ k = dq D 0) ∨ (sBk C t D = true ∧ k = dq D (dn D - 1)) then (t : Int) else dd D k) = (if zSin C k t 0 = -1 then (if lSe C t D k = 0 then (t : Int) else -1) else zSin C k t 0) ∧ ((if zSin C k t 0 = -1 then (if lSe C t D k = 0 then (t : Int) else -1) else zSin C k t 0) = -1 ↔ ¬ lSe C t D k = 0)
    have hlr := lSe_rng (t := (t : Int)) hJe k
    rw [hdl] at hlr
    by_cases hcond : (sFr C t D = true ∧ k = dq D 0) ∨ (sBk C t D = true ∧ k = dq D (dn D - 1))
    · have hp : lSe C t D k = 0 ∧ ¬ dl D k = 0 := by
        rcases hcond with ⟨a, b⟩ | ⟨a, b⟩
        · have q := sFr_p hJe a
          rw [b]
          exact ⟨q.2.2.2.2, by have := (hJe.2.1 0 (by omega) q.1).2.2; omega⟩
        · have q := sBk_p hJe a
          rw [b]
          exact ⟨q.2.2.2.2, by have := (hJe.2.1 (dn D - 1) (by omega) (by omega)).2.2; omega⟩
      rw [hdl] at hp
      rw [if_pos hcond, if_pos (h2.mpr hp.2), if_pos hp.1]
      exact ⟨rfl, ⟨fun z => by omega, fun z => absurd hp.1 z⟩⟩
    · rw [if_neg hcond, hdd, h1]
      by_cases hs : zSin C k t 0 = -1
      · have hne := h2.mp hs
        have hl : ¬ lSe C t D k = 0 := by
          intro z
          by_cases hin : ∃ j : Int, 0 ≤ j ∧ j < dn D ∧ dq D j = k
          · obtain ⟨j, j0, j1, j2⟩ := hin
            rcases lSe_zero (t := (t : Int)) hJe j0 j1 (by rw [j2]; exact z) with ⟨a, b⟩ | ⟨a, b⟩
            · exact hcond (Or.inl ⟨a, by rw [← j2, b]⟩)
            · exact hcond (Or.inr ⟨a, by rw [← j2, b]⟩)
          · have n1 : wFr C t D = true → ¬ k = dq D 0 := fun a b => hin ⟨0, Int.le_refl _, (wFr_i.mp a).1, b.symm⟩
            have n2 : wBk C t D = true → ¬ k = dq D (dn D - 1) := fun a b => hin ⟨dn D - 1, by have := (wBk_i.mp a).1; omega, by omega, b.symm⟩
            have e2 : dl D k = 0 := by
              rw [← z]
              show dl D k = dl D k - (if wFr C t D = true ∧ k = dq D 0 then 1 else 0) - (if wBk C t D = true ∧ k = dq D (dn D - 1) then 1 else 0)
              rw [if_neg (fun q => n1 q.1 q.2), if_neg (fun q => n2 q.1 q.2)]
              omega
            exact hne (by rw [← hdl]; exact e2)
        rw [if_pos hs, if_neg hl]
        exact ⟨hs, ⟨fun _ => hl, fun _ => rfl⟩⟩
      · rw [if_neg hs]
        have hz : dl (dDay C t) k = 0 := Decidable.byContradiction fun q => hs (h2.mpr q)
        exact ⟨rfl, ⟨fun q => absurd q hs, fun q => absurd (show lSe C t D k = 0 by omega) q⟩⟩
