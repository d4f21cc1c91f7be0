theorem zMd_ext {σ : zSt} {D D' : zDy} (h : zMd σ D) (hn : dn D' = dn D) (hq : ∀ j : Int, 0 ≤ j → j < dn D → dq D' j = dq D j) (hk : ∀ k : Int, 0 ≤ k → k < 12 → ds D' k = ds D k ∧ dl D' k = dl D k ∧ dd D' k = dd D k) : zMd σ D' := ⟨by rw [hn]; exact h.1, fun j a b => by rw [hq j a (by omega)]; exact h.2.1 j a (by omega), fun k a b => by
  obtain ⟨e1, e2, e3⟩ := hk k a b
  rw [e1, e2, e3]
  exact h.2.2 k a b⟩
/-- the serving, as far as these two are out -/
def dSx (C : zCf) (t : Int) (D : zDy) (F B : Bool) : zDy :=
  (dn D - (if B = true then 1 else 0) - (if F = true then 1 else 0),
   fun j => if F = true then dq D (j + 1) else dq D j,
   fun k => if (F = true ∧ k = dq D 0) ∨ (B = true ∧ k = dq D (dn D - 1)) then 2 else ds D k,
   lSe C t D,
   fun k => if (F = true ∧ k = dq D 0) ∨ (B = true ∧ k = dq D (dn D - 1)) then t else dd D k)
def fK (C : zCf) (t : Int) (D : zDy) (k : Int) : Bool := decide (sFr C t D = true ∧ dq D 0 < k)
def bK (C : zCf) (t : Int) (D : zDy) (k : Int) : Bool := decide (sBk C t D = true ∧ dq D (dn D - 1) < k)
theorem fK_i {C : zCf} {t : Int} {D : zDy} {k : Int} : fK C t D k = true ↔ sFr C t D = true ∧ dq D 0 < k := decide_eq_true_iff
theorem bK_i {C : zCf} {t : Int} {D : zDy} {k : Int} : bK C t D k = true ↔ sBk C t D = true ∧ dq D (dn D - 1) < k := decide_eq_true_iff
theorem sFr_p {C : zCf} {t : Int} {D : zDy} (hJ : zJ C D) (h : sFr C t D = true) : 0 < dn D ∧ 0 ≤ dq D 0 ∧ dq D 0 < cn C ∧ ds D (dq D 0) = 1 ∧ lSe C t D (dq D 0) = 0 := by
  have h1 := (wFr_i.mp (sFr_i.mp h).1).1
  have h2 := hJ.2.1 0 (by omega) h1
  exact ⟨h1, h2.1.1, h2.1.2, h2.2.1, (sFr_i.mp h).2⟩
theorem sBk_p {C : zCf} {t : Int} {D : zDy} (hJ : zJ C D) (h : sBk C t D = true) : 0 < dn D ∧ 0 ≤ dq D (dn D - 1) ∧ dq D (dn D - 1) < cn C ∧ ds D (dq D (dn D - 1)) = 1 ∧ lSe C t D (dq D (dn D - 1)) = 0 := by
  have h1 := (wBk_i.mp (sBk_i.mp h).1).1
  have h2 := hJ.2.1 (dn D - 1) (by omega) (by omega)
  exact ⟨h1, h2.1.1, h2.1.2, h2.2.1, (sBk_i.mp h).2⟩
theorem sFB_2 {C : zCf} {t : Int} {D : zDy} (hF : sFr C t D = true) (hB : sBk C t D = true) : 2 ≤ dn D := by
  have h1 := wFr_i.mp (sFr_i.mp hF).1
  have h2 := wBk_i.mp (sBk_i.mp hB).1
  omega
/-- who is served at k: the first, the last, or nobody -/
theorem dSx_who {C : zCf} {t : Int} {D : zDy} (hJ : zJ C D) {k : Int} (k0 : 0 ≤ k) (k1 : k < cn C) :
    (ds (dSx C t D (fK C t D k) (bK C t D k)) k = 1 ∧ lSe C t D k = 0 ∧ ((sFr C t D = true ∧ k = dq D 0 ∧ fK C t D k = false ∧ fK C t D (k + 1) = true ∧ bK C t D (k + 1) = bK C t D k) ∨ (sBk C t D = true ∧ k = dq D (dn D - 1) ∧ bK C t D k = false ∧ bK C t D (k + 1) = true ∧ fK C t D (k + 1) = fK C t D k))) ∨
    (¬ (ds (dSx C t D (fK C t D k) (bK C t D k)) k = 1 ∧ lSe C t D k = 0) ∧ fK C t D (k + 1) = fK C t D k ∧ bK C t D (k + 1) = bK C t D k) := by
  have hone : sFr C t D = true → sBk C t D = true → dq D 0 ≠ dq D (dn D - 1) := fun a b => lSe_one (t := t) hJ (sFr_i.mp a).1 (sBk_i.mp b).1
  have hbe : ∀ x y : Bool, (x = true ↔ y = true) → x = y := fun x y h => by cases x <;> cases y <;> simp_all
  have hds : ds (dSx C t D (fK C t D k) (bK C t D k)) k = ds D k := by
    show (if (fK C t D k = true ∧ k = dq D 0) ∨ (bK C t D k = true ∧ k = dq D (dn D - 1)) then 2 else ds D k) = _
    rw [if_neg]
    rintro (⟨a, b⟩ | ⟨a, b⟩)
    · have := (fK_i.mp a).2; omega
    · have := (bK_i.mp a).2; omega
  rw [hds]
  by_cases hF : sFr C t D = true ∧ k = dq D 0
  · have hp := sFr_p hJ hF.1
    refine Or.inl ⟨by rw [hF.2]; exact hp.2.2.2.1, by rw [hF.2]; exact hp.2.2.2.2, Or.inl ⟨hF.1, hF.2, ?_, fK_i.mpr ⟨hF.1, by omega⟩, ?_⟩⟩
    · rw [← Bool.not_eq_true]; intro q; have := (fK_i.mp q).2; omega
    · apply hbe
      rw [bK_i, bK_i]
      constructor
      · intro q; exact ⟨q.1, by have := hone hF.1 q.1; omega⟩
      · intro q; exact ⟨q.1, by omega⟩
  · by_cases hB : sBk C t D = true ∧ k = dq D (dn D - 1)
    · have hp := sBk_p hJ hB.1
      refine Or.inl ⟨by rw [hB.2]; exact hp.2.2.2.1, by rw [hB.2]; exact hp.2.2.2.2, Or.inr ⟨hB.1, hB.2, ?_, bK_i.mpr ⟨hB.1, by omega⟩, ?_⟩⟩
      · rw [← Bool.not_eq_true]; intro q; have := (bK_i.mp q).2; omega
      · apply hbe
        rw [fK_i, fK_i]
        constructor
        · intro q; exact ⟨q.1, by have := hone q.1 hB.1; omega⟩
        · intro q; exact ⟨q.1, by omega⟩
    · refine Or.inr ⟨fun q => ?_, ?_, ?_⟩
      · obtain ⟨j, j0, j1, j2⟩ := hJ.2.2.2.1 k k0 k1 q.1
        rcases lSe_zero (t := t) hJ j0 j1 (by rw [j2]; exact q.2) with ⟨a, b⟩ | ⟨a, b⟩
        · exact hF ⟨a, by rw [← j2, b]⟩
        · exact hB ⟨a, by rw [← j2, b]⟩
      · apply hbe
        rw [fK_i, fK_i]
        constructor
        · intro q; exact ⟨q.1, by have : k ≠ dq D 0 := fun z => hF ⟨q.1, z⟩; omega⟩
        · intro q; exact ⟨q.1, by omega⟩
      · apply hbe
        rw [bK_i, bK_i]
        constructor
        · intro q; exact ⟨q.1, by have : k ≠ dq D (dn D - 1) := fun z => hB ⟨q.1, z⟩; omega⟩
        · intro q; exact ⟨q.1, by omega⟩
theorem dSx_end {C : zCf} {t : Int} {D : zDy} (hJ : zJ C D) : dSx C t D (fK C t D (cn C)) (bK C t D (cn C)) = dSe C t D := by
  have h1 : fK C t D (cn C) = sFr C t D := by
    cases h : sFr C t D with
    | true => exact fK_i.mpr ⟨h, (sFr_p hJ h).2.2.1⟩
    | false => rw [← Bool.not_eq_true]; intro q; rw [(fK_i.mp q).1] at h; cases h
  have h2 : bK C t D (cn C) = sBk C t D := by
    cases h : sBk C t D with
    | true => exact bK_i.mpr ⟨h, (sBk_p hJ h).2.2.1⟩
    | false => rw [← Bool.not_eq_true]; intro q; rw [(bK_i.mp q).1] at h; cases h
  rw [h1, h2]
  rfl
theorem dSx_q {C : zCf} {t : Int} {D : zDy} {k : Int} (hJ : zJ C D) : ∀ i : Int, 0 ≤ i → i < dn (dSx C t D (fK C t D k) (bK C t D k)) → ∃ j : Int, 0 ≤ j ∧ j < dn D ∧ dq (dSx C t D (fK C t D k) (bK C t D k)) i = dq D j ∧ j = (if fK C t D k = true then i + 1 else i) := by
  intro i i0 i1
  have i1 : i < dn D - (if bK C t D k = true then 1 else 0) - (if fK C t D k = true then 1 else 0) := i1
  show ∃ j : Int, 0 ≤ j ∧ j < dn D ∧ (if fK C t D k = true then dq D (i + 1) else dq D i) = dq D j ∧ j = _
  by_cases h : fK C t D k = true
  · rw [if_pos h] at i1
    refine ⟨i + 1, by omega, ?_, by rw [if_pos h], by rw [if_pos h]⟩
    split at i1 <;> omega
  · rw [if_neg h] at i1
    refine ⟨i, i0, ?_, by rw [if_neg h], by rw [if_neg h]⟩
    split at i1 <;> omega
theorem lSe_two {C : zCf} {t : Int} {D : zDy} {F B : Bool} (hJ : zJ C D) (hF : wFr C t D = F) (hB : wBk C t D = B) : ∀ k : Int, lSe C t D k = (if B = true then fPut (if F = true then fPut (dl D) (dq D 0) (dl D (dq D 0) - 1) else dl D) (dq D (dn D - 1)) ((if F = true then fPut (dl D) (dq D 0) (dl D (dq D 0) - 1) else dl D) (dq D (dn D - 1)) - 1) else (if F = true then fPut (dl D) (dq D 0) (dl D (dq D 0) - 1) else dl D)) k := by
  intro k
  have hone := fun a b => lSe_one (t := t) hJ a b
  unfold lSe fPut
  rw [hF, hB] at hone ⊢
  cases F <;> cases B <;> simp at hone ⊢
  · split <;> simp_all
  · split <;> simp_all
  · have hq9 : ¬ dq D (dn D - 1) = dq D 0 := fun q => hone q.symm
    by_cases h1 : k = dq D 0
    · have h2 : ¬ k = dq D (dn D - 1) := fun q => hone (h1.symm.trans q)
      simp [h1, hone]
    · by_cases h2 : k = dq D (dn D - 1)
      · simp [h2, hq9]
      · simp [h1, h2]
set_option maxHeartbeats 16000000 in
set_option maxRecDepth 100000 in
/-- serves -/
theorem c_M_serves {C : zCf} {D : zDy} {t : Int} {σ : zSt} {post : Option VV → zSt → Prop} (hc : zMc σ C) (hm : zMd σ D) (hJ : zJ C D) (t0 : 0 ≤ t) (t1 : t < 24) (hp : ∀ σ' : zSt, mFr σ σ' → zMd σ' (dSe C t D) → post none σ') : Mc 1 MX7_serves [vR 6 44, vZ t] σ post := by
  have hC := zMc_C hc
  have hn := hC.1
  have hnD := hJ.1
  have hwi := hC.2.2.2.1 t t0 t1
  have hct := hc.2.2.2.1 t t0 t1
  have loop : ∀ (m : Nat) (k : Int), 0 ≤ k → k + m = cn C → ∀ σ1 : zSt, mFr σ σ1 → zMd σ1 (dSx C t D (fK C t D k) (bK C t D k)) → V 1 MX7_serves 105 [some (vR 6 44), some (vZ t), some (vZ (cWi C t)), some (vZ k)] [] σ1 post := by
    intro m
    induction m with
    | zero =>
      intro k hk0 hk σ1 hf1 hm1
      have hkn : k = cn C := by omega
      have hc1 := zMc_fr hf1 hc
      refine V_run kX7_serves 3 [] (show V 1 MX7_serves 110 [some (vR 6 44), some (vZ t), some (vZ (cWi C t)), some (vZ k)] [vZ (σ1.1 44 2), vZ k] σ1 post from ?_)
      rw [hc1.1]
      show V 1 MX7_serves 110 [some (vR 6 44), some (vZ t), some (vZ (cWi C t)), some (vZ k)] [vZ (cn C), vZ k] σ1 post
      refine V_run kX7_serves 1 [1] (show (zr k ∧ zr (cn C) ∧ (cn C) ≤ k) ∧ V 1 MX7_serves 157 [some (vR 6 44), some (vZ t), some (vZ (cWi C t)), some (vZ k)] [] σ1 post from ⟨(by omega), ?_⟩)
      rw [hkn, dSx_end hJ] at hm1
      exact V_vret kX7_serves rfl rfl (hp σ1 hf1 hm1)
    | succ m ih =>
      intro k hk0 hk σ1 hf1 hm1
      have hc1 := zMc_fr hf1 hc
      have hk1 : k < cn C := by omega
      have h3 := hm1.2.2 k hk0 (by omega)
      have hsr := hJ.2.2.2.2.2.2.1 k
      have hlr := lSe_rng (t := t) hJ k
      have hl9 := hJ.2.2.2.2.1 k
      have hEs : 0 ≤ ds (dSx C t D (fK C t D k) (bK C t D k)) k ∧ ds (dSx C t D (fK C t D k) (bK C t D k)) k ≤ 3 := by show 0 ≤ (if _ then (2 : Int) else ds D k) ∧ (if _ then (2 : Int) else ds D k) ≤ 3; split <;> omega
      refine V_run kX7_serves 3 [] (show V 1 MX7_serves 110 [some (vR 6 44), some (vZ t), some (vZ (cWi C t)), some (vZ k)] [vZ (σ1.1 44 2), vZ k] σ1 post from ?_)
      rw [hc1.1]
      show V 1 MX7_serves 110 [some (vR 6 44), some (vZ t), some (vZ (cWi C t)), some (vZ k)] [vZ (cn C), vZ k] σ1 post
      refine V_run kX7_serves 5 [0] (show (zr k ∧ zr (cn C) ∧ k < (cn C)) ∧ (0 ≤ k ∧ k < 12) ∧ V 1 MX7_serves 119 [some (vR 6 44), some (vZ t), some (vZ (cWi C t)), some (vZ k)] [vZ (σ1.1 58 k)] σ1 post from ⟨(by omega), (by omega), ?_⟩)
      refine V_top (h3.1) ?_
      refine V_run kX7_serves 1 [] (show V 1 MX7_serves 120 [some (vR 6 44), some (vZ t), some (vZ (cWi C t)), some (vZ k)] [vZ 1, vZ (ds (dSx C t D (fK C t D k) (bK C t D k)) k)] σ1 post from ?_)
      rcases dSx_who (t := t) hJ hk0 hk1 with ⟨w1, w2, w3⟩ | ⟨w1, w2, w3⟩
      · skip
        refine V_run kX7_serves 5 [0] (show (zr (ds (dSx C t D (fK C t D k) (bK C t D k)) k) ∧ zr 1 ∧ (ds (dSx C t D (fK C t D k) (bK C t D k)) k) = 1) ∧ (0 ≤ k ∧ k < 12) ∧ V 1 MX7_serves 129 [some (vR 6 44), some (vZ t), some (vZ (cWi C t)), some (vZ k)] [vZ (σ1.1 59 k)] σ1 post from ⟨(by omega), (by omega), ?_⟩)
        refine V_top (h3.2.1) ?_
        refine V_run kX7_serves 3 [0] (show (zr (lSe C t D k) ∧ (lSe C t D k) = 0) ∧ V 1 MX7_serves 134 [some (vR 6 44), some (vZ t), some (vZ (cWi C t)), some (vZ k)] [vZ k, vR 6 44] σ1 post from ⟨(by omega), ?_⟩)
        have hqr : ∀ i : Int, 0 ≤ i → i < dn (dSx C t D (fK C t D k) (bK C t D k)) → 0 ≤ dq (dSx C t D (fK C t D k) (bK C t D k)) i ∧ dq (dSx C t D (fK C t D k) (bK C t D k)) i < 12 := fun i a b => by
          obtain ⟨j, j0, j1, j2, -⟩ := dSx_q hJ i a b
          rw [j2]
          have := (hJ.2.1 j j0 j1).1
          omega
        rcases w3 with ⟨f1, f2, f3, f4, f5⟩ | ⟨f1, f2, f3, f4, f5⟩
        · skip
          have hpp := sFr_p hJ f1
          have hB2 : bK C t D k = true → 2 ≤ dn D := fun q => sFB_2 f1 (bK_i.mp q).1
          obtain ⟨p, hpv⟩ : ∃ p : Int, p = 0 := ⟨_, rfl⟩
          have hdn : dn (dSx C t D (fK C t D k) (bK C t D k)) = dn D - (if bK C t D k = true then 1 else 0) - (if fK C t D k = true then 1 else 0) := rfl
          have hle : dn (dSx C t D (fK C t D k) (bK C t D k)) ≤ 12 := by rw [hdn]; (repeat' split) <;> omega
          have hp01 : 0 ≤ p ∧ p < dn (dSx C t D (fK C t D k) (bK C t D k)) := by rw [hdn, f3]; simp only [Bool.false_eq_true, if_false]; by_cases hb : bK C t D k = true; have := hB2 hb; rw [if_pos hb]; omega; rw [if_neg hb]; omega
          have hpq : dq (dSx C t D (fK C t D k) (bK C t D k)) p = k := by show (if fK C t D k = true then dq D (p + 1) else dq D p) = k; rw [f3, if_neg (by decide), hpv, f2]
          have huni : ∀ i : Int, 0 ≤ i → i < dn (dSx C t D (fK C t D k) (bK C t D k)) → dq (dSx C t D (fK C t D k) (bK C t D k)) i = k → i = p := fun i a b c => by
            obtain ⟨j, j0, j1, j2, j3⟩ := dSx_q hJ i a b
            obtain ⟨l, l0, l1, l2, l3⟩ := dSx_q hJ p hp01.1 hp01.2
            have := hJ.2.2.1 j l j0 j1 l0 l1 (by rw [← j2, ← l2, c, hpq])
            split at j3 <;> split at l3 <;> first | omega | (exfalso; simp_all)
          refine V_callV (a := [vZ k]) (rest := []) kX7_serves rfl oX7_leaves iX7_leaves lk_7_189 rfl rfl rfl (Nat.le_of_ble_eq_true rfl) (Nat.le_of_ble_eq_true rfl) (Nat.le_of_ble_eq_true rfl) (post' := fun zv zσ => V 1 MX7_serves 137 [some (vR 6 44), some (vZ t), some (vZ (cWi C t)), some (vZ k)] (zv.toList ++ []) zσ post) (c_M_leaves hm1 hle hp01.1 hp01.2 hpq huni hqr (fun σ2 hf2 hm2 => (show V 1 MX7_serves 137 [some (vR 6 44), some (vZ t), some (vZ (cWi C t)), some (vZ k)] [] σ2 post from ?_))) (fun _ _ h => h)
          refine V_run kX7_serves 12 [] (show (0 ≤ k ∧ k < 12) ∧ (0 ≤ k ∧ k < 12) ∧ V 1 MX7_serves 105 [some (vR 6 44), some (vZ t), some (vZ (cWi C t)), some (vZ (k + 1))] [] (uI (uI σ2 58 k 2) 60 k t) post from ⟨(by omega), (by omega), ?_⟩)
          refine ih (k + 1) (by omega) (by omega) _ (mFr.u (mFr.u (hf1.tr hf2) (by decide) (by decide)) (by decide) (by decide)) (zMd_ext (zMd_d (zMd_s hm2)) ?_ (fun j a b => ?_) (fun x a b => ⟨?_, rfl, ?_⟩))
          · show dn D - (if bK C t D (k + 1) = true then 1 else 0) - (if fK C t D (k + 1) = true then 1 else 0) = dn D - (if bK C t D k = true then 1 else 0) - (if fK C t D k = true then 1 else 0) - 1
            rw [f3, f4, f5]; simp <;> omega
          · show (if fK C t D (k + 1) = true then dq D (j + 1) else dq D j) = qRem (fun j => if fK C t D k = true then dq D (j + 1) else dq D j) p j
            unfold qRem
            rw [f3, f4, hpv, if_neg (by omega : ¬ j < 0)]; simp
          · show (if (fK C t D (k + 1) = true ∧ x = dq D 0) ∨ (bK C t D (k + 1) = true ∧ x = dq D (dn D - 1)) then (2 : Int) else ds D x) = (if x = k then 2 else if (fK C t D k = true ∧ x = dq D 0) ∨ (bK C t D k = true ∧ x = dq D (dn D - 1)) then 2 else ds D x)
            rw [f3, f4, f5, f2]; by_cases hx : x = dq D 0 <;> simp [hx]
          · show (if (fK C t D (k + 1) = true ∧ x = dq D 0) ∨ (bK C t D (k + 1) = true ∧ x = dq D (dn D - 1)) then t else dd D x) = (if x = k then t else if (fK C t D k = true ∧ x = dq D 0) ∨ (bK C t D k = true ∧ x = dq D (dn D - 1)) then t else dd D x)
            rw [f3, f4, f5, f2]; by_cases hx : x = dq D 0 <;> simp [hx]
        · skip
          have hpp := sBk_p hJ f1
          have hF2 : fK C t D k = true → 2 ≤ dn D := fun q => sFB_2 (fK_i.mp q).1 f1
          obtain ⟨p, hpv⟩ : ∃ p : Int, p = dn D - 1 - (if fK C t D k = true then 1 else 0) := ⟨_, rfl⟩
          have hdn : dn (dSx C t D (fK C t D k) (bK C t D k)) = dn D - (if bK C t D k = true then 1 else 0) - (if fK C t D k = true then 1 else 0) := rfl
          have hle : dn (dSx C t D (fK C t D k) (bK C t D k)) ≤ 12 := by rw [hdn]; (repeat' split) <;> omega
          have hp01 : 0 ≤ p ∧ p < dn (dSx C t D (fK C t D k) (bK C t D k)) := by rw [hdn, f3, hpv]; simp only [Bool.false_eq_true, if_false]; by_cases hb : fK C t D k = true; have := hF2 hb; rw [if_pos hb]; omega; rw [if_neg hb]; omega
          have hpq : dq (dSx C t D (fK C t D k) (bK C t D k)) p = k := by show (if fK C t D k = true then dq D (p + 1) else dq D p) = k; rw [hpv]; by_cases hb : fK C t D k = true; rw [if_pos hb, if_pos hb, show dn D - 1 - 1 + 1 = dn D - 1 by omega]; exact f2.symm; rw [if_neg hb, if_neg hb, show dn D - 1 - 0 = dn D - 1 by omega]; exact f2.symm
          have huni : ∀ i : Int, 0 ≤ i → i < dn (dSx C t D (fK C t D k) (bK C t D k)) → dq (dSx C t D (fK C t D k) (bK C t D k)) i = k → i = p := fun i a b c => by
            obtain ⟨j, j0, j1, j2, j3⟩ := dSx_q hJ i a b
            obtain ⟨l, l0, l1, l2, l3⟩ := dSx_q hJ p hp01.1 hp01.2
            have := hJ.2.2.1 j l j0 j1 l0 l1 (by rw [← j2, ← l2, c, hpq])
            split at j3 <;> split at l3 <;> first | omega | (exfalso; simp_all)
          refine V_callV (a := [vZ k]) (rest := []) kX7_serves rfl oX7_leaves iX7_leaves lk_7_189 rfl rfl rfl (Nat.le_of_ble_eq_true rfl) (Nat.le_of_ble_eq_true rfl) (Nat.le_of_ble_eq_true rfl) (post' := fun zv zσ => V 1 MX7_serves 137 [some (vR 6 44), some (vZ t), some (vZ (cWi C t)), some (vZ k)] (zv.toList ++ []) zσ post) (c_M_leaves hm1 hle hp01.1 hp01.2 hpq huni hqr (fun σ2 hf2 hm2 => (show V 1 MX7_serves 137 [some (vR 6 44), some (vZ t), some (vZ (cWi C t)), some (vZ k)] [] σ2 post from ?_))) (fun _ _ h => h)
          refine V_run kX7_serves 12 [] (show (0 ≤ k ∧ k < 12) ∧ (0 ≤ k ∧ k < 12) ∧ V 1 MX7_serves 105 [some (vR 6 44), some (vZ t), some (vZ (cWi C t)), some (vZ (k + 1))] [] (uI (uI σ2 58 k 2) 60 k t) post from ⟨(by omega), (by omega), ?_⟩)
          refine ih (k + 1) (by omega) (by omega) _ (mFr.u (mFr.u (hf1.tr hf2) (by decide) (by decide)) (by decide) (by decide)) (zMd_ext (zMd_d (zMd_s hm2)) ?_ (fun j a b => ?_) (fun x a b => ⟨?_, rfl, ?_⟩))
          · show dn D - (if bK C t D (k + 1) = true then 1 else 0) - (if fK C t D (k + 1) = true then 1 else 0) = dn D - (if bK C t D k = true then 1 else 0) - (if fK C t D k = true then 1 else 0) - 1
            rw [f3, f4, f5]; simp <;> omega
          · have b : j < dn (dSx C t D (fK C t D k) (bK C t D k)) - 1 := b
            rw [hdn, f3] at b
            show (if fK C t D (k + 1) = true then dq D (j + 1) else dq D j) = qRem (fun j => if fK C t D k = true then dq D (j + 1) else dq D j) p j
            unfold qRem
            have hjp : j < p := by rw [hpv]; simp only [Bool.false_eq_true, if_false] at b; omega
            rw [f5, if_pos hjp]
          · show (if (fK C t D (k + 1) = true ∧ x = dq D 0) ∨ (bK C t D (k + 1) = true ∧ x = dq D (dn D - 1)) then (2 : Int) else ds D x) = (if x = k then 2 else if (fK C t D k = true ∧ x = dq D 0) ∨ (bK C t D k = true ∧ x = dq D (dn D - 1)) then 2 else ds D x)
            rw [f3, f4, f5, f2]; by_cases hx : x = dq D (dn D - 1) <;> simp [hx]
          · show (if (fK C t D (k + 1) = true ∧ x = dq D 0) ∨ (bK C t D (k + 1) = true ∧ x = dq D (dn D - 1)) then t else dd D x) = (if x = k then t else if (fK C t D k = true ∧ x = dq D 0) ∨ (bK C t D k = true ∧ x = dq D (dn D - 1)) then t else dd D x)
            rw [f3, f4, f5, f2]; by_cases hx : x = dq D (dn D - 1) <;> simp [hx]
      · skip
        rw [← w2, ← w3] at hm1
        by_cases h4 : ds (dSx C t D (fK C t D k) (bK C t D k)) k = 1
        · skip
          refine V_run kX7_serves 5 [0] (show (zr (ds (dSx C t D (fK C t D k) (bK C t D k)) k) ∧ zr 1 ∧ (ds (dSx C t D (fK C t D k) (bK C t D k)) k) = 1) ∧ (0 ≤ k ∧ k < 12) ∧ V 1 MX7_serves 129 [some (vR 6 44), some (vZ t), some (vZ (cWi C t)), some (vZ k)] [vZ (σ1.1 59 k)] σ1 post from ⟨(by omega), (by omega), ?_⟩)
          refine V_top (h3.2.1) ?_
          refine V_run kX7_serves 3 [1] (show (zr (lSe C t D k) ∧ ¬ (lSe C t D k) = 0) ∧ V 1 MX7_serves 105 [some (vR 6 44), some (vZ t), some (vZ (cWi C t)), some (vZ (k + 1))] [] σ1 post from ⟨(⟨by omega, fun q => w1 ⟨h4, q⟩⟩), ?_⟩)
          exact ih (k + 1) (by omega) (by omega) σ1 hf1 hm1
        · skip
          refine V_run kX7_serves 3 [1] (show (zr (ds (dSx C t D (fK C t D k) (bK C t D k)) k) ∧ zr 1 ∧ ¬ (ds (dSx C t D (fK C t D k) (bK C t D k)) k) = 1) ∧ V 1 MX7_serves 105 [some (vR 6 44), some (vZ t), some (vZ (cWi C t)), some (vZ (k + 1))] [] σ1 post from ⟨(by omega), ?_⟩)
          exact ih (k + 1) (by omega) (by omega) σ1 hf1 hm1
  have key2 : ∀ σ1 : zSt, mFr σ σ1 → zMd σ1 (dn D, dq D, ds D, lSe C t D, dd D) → V 1 MX7_serves 103 [some (vR 6 44), some (vZ t), some (vZ (cWi C t)), none] [] σ1 post := by
    intro σ1 hf1 hm1
    refine V_run kX7_serves 2 [] (show V 1 MX7_serves 105 [some (vR 6 44), some (vZ t), some (vZ (cWi C t)), some (vZ 0)] [] σ1 post from ?_)
    have z1 : fK C t D 0 = false := by rw [← Bool.not_eq_true]; intro q; have h1 := fK_i.mp q; have h2 := (sFr_p hJ h1.1).2.1; omega
    have z2 : bK C t D 0 = false := by rw [← Bool.not_eq_true]; intro q; have h1 := bK_i.mp q; have h2 := (sBk_p hJ h1.1).2.1; omega
    refine loop (cn C).toNat 0 (by omega) (by omega) σ1 hf1 (zMd_ext hm1 ?_ (fun j a b => ?_) (fun x a b => ⟨?_, rfl, ?_⟩)) <;> rw [z1, z2] <;> simp [dSx]
  have key1 : V 1 MX7_serves 22 [some (vR 6 44), some (vZ t), some (vZ (cWi C t)), none] [] σ post := by
    obtain ⟨m1, m2, m3⟩ := id hm
    refine V_run kX7_serves 2 [] (show V 1 MX7_serves 26 [some (vR 6 44), some (vZ t), some (vZ (cWi C t)), none] [vZ (σ.1 44 19)] σ post from ?_)
    refine V_top (m1) ?_
    by_cases hn0 : dn D = 0
    · skip
      refine V_run kX7_serves 3 [1] (show (zr (dn D) ∧ (dn D) ≤ 0) ∧ V 1 MX7_serves 56 [some (vR 6 44), some (vZ t), some (vZ (cWi C t)), none] [vZ (σ.1 44 19)] σ post from ⟨(by omega), ?_⟩)
      refine V_top (m1) ?_
      refine V_run kX7_serves 1 [1] (show (zr (dn D) ∧ (dn D) ≤ 0) ∧ V 1 MX7_serves 103 [some (vR 6 44), some (vZ t), some (vZ (cWi C t)), none] [] σ post from ⟨(by omega), ?_⟩)
      refine key2 σ mFr.rf (zMd_ext hm rfl (fun _ _ _ => rfl) (fun k a b => ⟨rfl, ?_, rfl⟩))
      exact lSe_same (fun q => by have := (wFr_i.mp q.1).1; omega) (fun q => by have := (wBk_i.mp q.1).1; omega)
    · skip
      have hqf := hJ.2.1 0 (by omega) (by omega)
      have hql := hJ.2.1 (dn D - 1) (by omega) (by omega)
      have hmf := m2 0 (by omega) (by omega)
      have hml := m2 (dn D - 1) (by omega) (by omega)
      have hlf := m3 (dq D 0) (by omega) (by omega)
      have hll := m3 (dq D (dn D - 1)) (by omega) (by omega)
      refine V_run kX7_serves 3 [0] (show (zr (dn D) ∧ 0 < (dn D)) ∧ V 1 MX7_serves 31 [some (vR 6 44), some (vZ t), some (vZ (cWi C t)), none] [vZ 0, vZ (cWi C t)] σ post from ⟨(by omega), ?_⟩)
      by_cases hw : cWi C t = 0
      · skip
        have hF : wFr C t D = false := by rw [← Bool.not_eq_true]; intro q; have := (wFr_i.mp q).2; omega
        have hB : wBk C t D = false := by rw [← Bool.not_eq_true]; intro q; have := (wBk_i.mp q).2; omega
        have hls := lSe_two hJ hF hB
        refine V_callS (a := [vZ (cWi C t), vZ 0]) (rest := []) kX7_serves rfl oX7_isIn iX7_isIn lk_7_197 rfl rfl (Nat.le_of_ble_eq_true rfl) (Nat.le_of_ble_eq_true rfl) (Nat.le_of_ble_eq_true rfl) (post' := fun zv zσ => V 1 MX7_serves 34 [some (vR 6 44), some (vZ t), some (vZ (cWi C t)), none] (zv.toList ++ []) zσ post) (c_M_isIn (by decide) (by decide) ((show V 1 MX7_serves 34 [some (vR 6 44), some (vZ t), some (vZ (cWi C t)), none] [vZ (if zbt (cWi C t) 0 = true then 1 else 0)] σ post from ?_))) (fun _ _ h => h)
        refine V_top (by rw [hw] <;> decide) ?_
        refine V_run kX7_serves 3 [1] (show (zr 0 ∧ 0 = 0) ∧ V 1 MX7_serves 56 [some (vR 6 44), some (vZ t), some (vZ (cWi C t)), none] [vZ (σ.1 44 19)] σ post from ⟨(by omega), ?_⟩)
        refine V_top (m1) ?_
        refine V_run kX7_serves 3 [0] (show (zr (dn D) ∧ 0 < (dn D)) ∧ V 1 MX7_serves 61 [some (vR 6 44), some (vZ t), some (vZ (cWi C t)), none] [vZ 1, vZ (cWi C t)] σ post from ⟨(by omega), ?_⟩)
        refine V_callS (a := [vZ (cWi C t), vZ 1]) (rest := []) kX7_serves rfl oX7_isIn iX7_isIn lk_7_197 rfl rfl (Nat.le_of_ble_eq_true rfl) (Nat.le_of_ble_eq_true rfl) (Nat.le_of_ble_eq_true rfl) (post' := fun zv zσ => V 1 MX7_serves 64 [some (vR 6 44), some (vZ t), some (vZ (cWi C t)), none] (zv.toList ++ []) zσ post) (c_M_isIn (by decide) (by decide) ((show V 1 MX7_serves 64 [some (vR 6 44), some (vZ t), some (vZ (cWi C t)), none] [vZ (if zbt (cWi C t) 1 = true then 1 else 0)] σ post from ?_))) (fun _ _ h => h)
        refine V_top (by rw [hw] <;> decide) ?_
        refine V_run kX7_serves 1 [1] (show (zr 0 ∧ 0 = 0) ∧ V 1 MX7_serves 103 [some (vR 6 44), some (vZ t), some (vZ (cWi C t)), none] [] σ post from ⟨(by omega), ?_⟩)
        exact key2 _ mFr.rf (zMd_ext hm rfl (fun _ _ _ => rfl) (fun k a b => ⟨rfl, hls k, rfl⟩))
      by_cases hw : cWi C t = 1
      · skip
        have hF : wFr C t D = true := by exact wFr_i.mpr ⟨by omega, by omega⟩
        have hB : wBk C t D = false := by rw [← Bool.not_eq_true]; intro q; have := (wBk_i.mp q).2; omega
        have hls := lSe_two hJ hF hB
        refine V_callS (a := [vZ (cWi C t), vZ 0]) (rest := []) kX7_serves rfl oX7_isIn iX7_isIn lk_7_197 rfl rfl (Nat.le_of_ble_eq_true rfl) (Nat.le_of_ble_eq_true rfl) (Nat.le_of_ble_eq_true rfl) (post' := fun zv zσ => V 1 MX7_serves 34 [some (vR 6 44), some (vZ t), some (vZ (cWi C t)), none] (zv.toList ++ []) zσ post) (c_M_isIn (by decide) (by decide) ((show V 1 MX7_serves 34 [some (vR 6 44), some (vZ t), some (vZ (cWi C t)), none] [vZ (if zbt (cWi C t) 0 = true then 1 else 0)] σ post from ?_))) (fun _ _ h => h)
        refine V_top (by rw [hw] <;> decide) ?_
        refine V_run kX7_serves 7 [0] (show (zr 1 ∧ ¬ 1 = 0) ∧ (0 ≤ 0 ∧ 0 < 13) ∧ V 1 MX7_serves 47 [some (vR 6 44), some (vZ t), some (vZ (cWi C t)), none] [vZ (σ.1 57 0), vR 8 59] σ post from ⟨(by omega), (by omega), ?_⟩)
        refine V_top (hmf) ?_
        refine V_run kX7_serves 2 [] (show (0 ≤ (dq D 0) ∧ (dq D 0) < 12) ∧ V 1 MX7_serves 49 [some (vR 6 44), some (vZ t), some (vZ (cWi C t)), none] [vZ (σ.1 59 (dq D 0)), vZ (dq D 0), vR 8 59] σ post from ⟨(by omega), ?_⟩)
        refine V_top (hlf.2.1) ?_
        refine V_run kX7_serves 3 [] (show (0 ≤ (dq D 0) ∧ (dq D 0) < 12) ∧ V 1 MX7_serves 52 [some (vR 6 44), some (vZ t), some (vZ (cWi C t)), none] [] (uI σ 59 (dq D 0) ((dl D (dq D 0)) - 1)) post from ⟨(by omega), ?_⟩)
        refine V_run kX7_serves 2 [] (show V 1 MX7_serves 56 [some (vR 6 44), some (vZ t), some (vZ (cWi C t)), none] [vZ ((uI σ 59 (dq D 0) ((dl D (dq D 0)) - 1)).1 44 19)] (uI σ 59 (dq D 0) ((dl D (dq D 0)) - 1)) post from ?_)
        refine V_top (show (uI σ 59 (dq D 0) ((dl D (dq D 0)) - 1)).1 44 19 = dn D by rw [uI_ne (by decide)]; exact m1) ?_
        refine V_run kX7_serves 3 [0] (show (zr (dn D) ∧ 0 < (dn D)) ∧ V 1 MX7_serves 61 [some (vR 6 44), some (vZ t), some (vZ (cWi C t)), none] [vZ 1, vZ (cWi C t)] (uI σ 59 (dq D 0) ((dl D (dq D 0)) - 1)) post from ⟨(by omega), ?_⟩)
        refine V_callS (a := [vZ (cWi C t), vZ 1]) (rest := []) kX7_serves rfl oX7_isIn iX7_isIn lk_7_197 rfl rfl (Nat.le_of_ble_eq_true rfl) (Nat.le_of_ble_eq_true rfl) (Nat.le_of_ble_eq_true rfl) (post' := fun zv zσ => V 1 MX7_serves 64 [some (vR 6 44), some (vZ t), some (vZ (cWi C t)), none] (zv.toList ++ []) zσ post) (c_M_isIn (by decide) (by decide) ((show V 1 MX7_serves 64 [some (vR 6 44), some (vZ t), some (vZ (cWi C t)), none] [vZ (if zbt (cWi C t) 1 = true then 1 else 0)] (uI σ 59 (dq D 0) ((dl D (dq D 0)) - 1)) post from ?_))) (fun _ _ h => h)
        refine V_top (by rw [hw] <;> decide) ?_
        refine V_run kX7_serves 1 [1] (show (zr 0 ∧ 0 = 0) ∧ V 1 MX7_serves 103 [some (vR 6 44), some (vZ t), some (vZ (cWi C t)), none] [] (uI σ 59 (dq D 0) ((dl D (dq D 0)) - 1)) post from ⟨(by omega), ?_⟩)
        exact key2 _ (mFr.u mFr.rf (by decide) (by decide)) (zMd_ext (zMd_l hm) rfl (fun _ _ _ => rfl) (fun k a b => ⟨rfl, hls k, rfl⟩))
      by_cases hn1 : dn D = 1
      · skip
        by_cases hw : cWi C t = 2
        · skip
          have hF : wFr C t D = false := by rw [← Bool.not_eq_true]; intro q; have := (wFr_i.mp q).2; omega
          have hB : wBk C t D = true := by exact wBk_i.mpr ⟨by omega, by omega⟩
          have hls := lSe_two hJ hF hB
          refine V_callS (a := [vZ (cWi C t), vZ 0]) (rest := []) kX7_serves rfl oX7_isIn iX7_isIn lk_7_197 rfl rfl (Nat.le_of_ble_eq_true rfl) (Nat.le_of_ble_eq_true rfl) (Nat.le_of_ble_eq_true rfl) (post' := fun zv zσ => V 1 MX7_serves 34 [some (vR 6 44), some (vZ t), some (vZ (cWi C t)), none] (zv.toList ++ []) zσ post) (c_M_isIn (by decide) (by decide) ((show V 1 MX7_serves 34 [some (vR 6 44), some (vZ t), some (vZ (cWi C t)), none] [vZ (if zbt (cWi C t) 0 = true then 1 else 0)] σ post from ?_))) (fun _ _ h => h)
          refine V_top (by rw [hw] <;> decide) ?_
          refine V_run kX7_serves 3 [1] (show (zr 0 ∧ 0 = 0) ∧ V 1 MX7_serves 56 [some (vR 6 44), some (vZ t), some (vZ (cWi C t)), none] [vZ (σ.1 44 19)] σ post from ⟨(by omega), ?_⟩)
          refine V_top (m1) ?_
          refine V_run kX7_serves 3 [0] (show (zr (dn D) ∧ 0 < (dn D)) ∧ V 1 MX7_serves 61 [some (vR 6 44), some (vZ t), some (vZ (cWi C t)), none] [vZ 1, vZ (cWi C t)] σ post from ⟨(by omega), ?_⟩)
          refine V_callS (a := [vZ (cWi C t), vZ 1]) (rest := []) kX7_serves rfl oX7_isIn iX7_isIn lk_7_197 rfl rfl (Nat.le_of_ble_eq_true rfl) (Nat.le_of_ble_eq_true rfl) (Nat.le_of_ble_eq_true rfl) (post' := fun zv zσ => V 1 MX7_serves 64 [some (vR 6 44), some (vZ t), some (vZ (cWi C t)), none] (zv.toList ++ []) zσ post) (c_M_isIn (by decide) (by decide) ((show V 1 MX7_serves 64 [some (vR 6 44), some (vZ t), some (vZ (cWi C t)), none] [vZ (if zbt (cWi C t) 1 = true then 1 else 0)] σ post from ?_))) (fun _ _ h => h)
          refine V_top (by rw [hw] <;> decide) ?_
          refine V_run kX7_serves 3 [0] (show (zr 1 ∧ ¬ 1 = 0) ∧ V 1 MX7_serves 71 [some (vR 6 44), some (vZ t), some (vZ (cWi C t)), none] [vZ (σ.1 44 19)] σ post from ⟨(by omega), ?_⟩)
          refine V_top (m1) ?_
          refine V_run kX7_serves 4 [0] (show (zr (dn D) ∧ zr 1 ∧ (dn D) = 1) ∧ V 1 MX7_serves 77 [some (vR 6 44), some (vZ t), some (vZ (cWi C t)), none] [vZ 0, vZ (cWi C t)] σ post from ⟨(by omega), ?_⟩)
          refine V_callS (a := [vZ (cWi C t), vZ 0]) (rest := []) kX7_serves rfl oX7_isIn iX7_isIn lk_7_197 rfl rfl (Nat.le_of_ble_eq_true rfl) (Nat.le_of_ble_eq_true rfl) (Nat.le_of_ble_eq_true rfl) (post' := fun zv zσ => V 1 MX7_serves 80 [some (vR 6 44), some (vZ t), some (vZ (cWi C t)), none] (zv.toList ++ []) zσ post) (c_M_isIn (by decide) (by decide) ((show V 1 MX7_serves 80 [some (vR 6 44), some (vZ t), some (vZ (cWi C t)), none] [vZ (if zbt (cWi C t) 0 = true then 1 else 0)] σ post from ?_))) (fun _ _ h => h)
          refine V_top (by rw [hw] <;> decide) ?_
          refine V_run kX7_serves 1 [0] (show (zr 0 ∧ 0 = 0) ∧ V 1 MX7_serves 83 [some (vR 6 44), some (vZ t), some (vZ (cWi C t)), none] [] σ post from ⟨(by omega), ?_⟩)
          refine V_run kX7_serves 6 [] (show V 1 MX7_serves 95 [some (vR 6 44), some (vZ t), some (vZ (cWi C t)), none] [vZ (σ.1 44 19), vR 8 57, vR 8 59] σ post from ?_)
          refine V_top (m1) ?_
          refine V_run kX7_serves 3 [] (show (0 ≤ ((dn D) - 1) ∧ ((dn D) - 1) < 13) ∧ V 1 MX7_serves 98 [some (vR 6 44), some (vZ t), some (vZ (cWi C t)), none] [vZ (σ.1 57 ((dn D) - 1)), vR 8 59] σ post from ⟨(by omega), ?_⟩)
          refine V_top (hml) ?_
          refine V_run kX7_serves 2 [] (show (0 ≤ (dq D (dn D - 1)) ∧ (dq D (dn D - 1)) < 12) ∧ V 1 MX7_serves 100 [some (vR 6 44), some (vZ t), some (vZ (cWi C t)), none] [vZ (σ.1 59 (dq D (dn D - 1))), vZ (dq D (dn D - 1)), vR 8 59] σ post from ⟨(by omega), ?_⟩)
          refine V_top (hll.2.1) ?_
          refine V_run kX7_serves 3 [] (show (0 ≤ (dq D (dn D - 1)) ∧ (dq D (dn D - 1)) < 12) ∧ V 1 MX7_serves 103 [some (vR 6 44), some (vZ t), some (vZ (cWi C t)), none] [] (uI σ 59 (dq D (dn D - 1)) ((dl D (dq D (dn D - 1))) - 1)) post from ⟨(by omega), ?_⟩)
          exact key2 _ (mFr.u mFr.rf (by decide) (by decide)) (zMd_ext (zMd_l hm) rfl (fun _ _ _ => rfl) (fun k a b => ⟨rfl, hls k, rfl⟩))
        replace hw : cWi C t = 3 := by omega
        have hF : wFr C t D = true := by exact wFr_i.mpr ⟨by omega, by omega⟩
        have hB : wBk C t D = false := by rw [← Bool.not_eq_true]; intro q; have := (wBk_i.mp q).2; omega
        have hls := lSe_two hJ hF hB
        refine V_callS (a := [vZ (cWi C t), vZ 0]) (rest := []) kX7_serves rfl oX7_isIn iX7_isIn lk_7_197 rfl rfl (Nat.le_of_ble_eq_true rfl) (Nat.le_of_ble_eq_true rfl) (Nat.le_of_ble_eq_true rfl) (post' := fun zv zσ => V 1 MX7_serves 34 [some (vR 6 44), some (vZ t), some (vZ (cWi C t)), none] (zv.toList ++ []) zσ post) (c_M_isIn (by decide) (by decide) ((show V 1 MX7_serves 34 [some (vR 6 44), some (vZ t), some (vZ (cWi C t)), none] [vZ (if zbt (cWi C t) 0 = true then 1 else 0)] σ post from ?_))) (fun _ _ h => h)
        refine V_top (by rw [hw] <;> decide) ?_
        refine V_run kX7_serves 7 [0] (show (zr 1 ∧ ¬ 1 = 0) ∧ (0 ≤ 0 ∧ 0 < 13) ∧ V 1 MX7_serves 47 [some (vR 6 44), some (vZ t), some (vZ (cWi C t)), none] [vZ (σ.1 57 0), vR 8 59] σ post from ⟨(by omega), (by omega), ?_⟩)
        refine V_top (hmf) ?_
        refine V_run kX7_serves 2 [] (show (0 ≤ (dq D 0) ∧ (dq D 0) < 12) ∧ V 1 MX7_serves 49 [some (vR 6 44), some (vZ t), some (vZ (cWi C t)), none] [vZ (σ.1 59 (dq D 0)), vZ (dq D 0), vR 8 59] σ post from ⟨(by omega), ?_⟩)
        refine V_top (hlf.2.1) ?_
        refine V_run kX7_serves 3 [] (show (0 ≤ (dq D 0) ∧ (dq D 0) < 12) ∧ V 1 MX7_serves 52 [some (vR 6 44), some (vZ t), some (vZ (cWi C t)), none] [] (uI σ 59 (dq D 0) ((dl D (dq D 0)) - 1)) post from ⟨(by omega), ?_⟩)
        refine V_run kX7_serves 2 [] (show V 1 MX7_serves 56 [some (vR 6 44), some (vZ t), some (vZ (cWi C t)), none] [vZ ((uI σ 59 (dq D 0) ((dl D (dq D 0)) - 1)).1 44 19)] (uI σ 59 (dq D 0) ((dl D (dq D 0)) - 1)) post from ?_)
        refine V_top (show (uI σ 59 (dq D 0) ((dl D (dq D 0)) - 1)).1 44 19 = dn D by rw [uI_ne (by decide)]; exact m1) ?_
        refine V_run kX7_serves 3 [0] (show (zr (dn D) ∧ 0 < (dn D)) ∧ V 1 MX7_serves 61 [some (vR 6 44), some (vZ t), some (vZ (cWi C t)), none] [vZ 1, vZ (cWi C t)] (uI σ 59 (dq D 0) ((dl D (dq D 0)) - 1)) post from ⟨(by omega), ?_⟩)
        refine V_callS (a := [vZ (cWi C t), vZ 1]) (rest := []) kX7_serves rfl oX7_isIn iX7_isIn lk_7_197 rfl rfl (Nat.le_of_ble_eq_true rfl) (Nat.le_of_ble_eq_true rfl) (Nat.le_of_ble_eq_true rfl) (post' := fun zv zσ => V 1 MX7_serves 64 [some (vR 6 44), some (vZ t), some (vZ (cWi C t)), none] (zv.toList ++ []) zσ post) (c_M_isIn (by decide) (by decide) ((show V 1 MX7_serves 64 [some (vR 6 44), some (vZ t), some (vZ (cWi C t)), none] [vZ (if zbt (cWi C t) 1 = true then 1 else 0)] (uI σ 59 (dq D 0) ((dl D (dq D 0)) - 1)) post from ?_))) (fun _ _ h => h)
        refine V_top (by rw [hw] <;> decide) ?_
        refine V_run kX7_serves 3 [0] (show (zr 1 ∧ ¬ 1 = 0) ∧ V 1 MX7_serves 71 [some (vR 6 44), some (vZ t), some (vZ (cWi C t)), none] [vZ ((uI σ 59 (dq D 0) ((dl D (dq D 0)) - 1)).1 44 19)] (uI σ 59 (dq D 0) ((dl D (dq D 0)) - 1)) post from ⟨(by omega), ?_⟩)
        refine V_top (show (uI σ 59 (dq D 0) ((dl D (dq D 0)) - 1)).1 44 19 = dn D by rw [uI_ne (by decide)]; exact m1) ?_
        refine V_run kX7_serves 4 [0] (show (zr (dn D) ∧ zr 1 ∧ (dn D) = 1) ∧ V 1 MX7_serves 77 [some (vR 6 44), some (vZ t), some (vZ (cWi C t)), none] [vZ 0, vZ (cWi C t)] (uI σ 59 (dq D 0) ((dl D (dq D 0)) - 1)) post from ⟨(by omega), ?_⟩)
        refine V_callS (a := [vZ (cWi C t), vZ 0]) (rest := []) kX7_serves rfl oX7_isIn iX7_isIn lk_7_197 rfl rfl (Nat.le_of_ble_eq_true rfl) (Nat.le_of_ble_eq_true rfl) (Nat.le_of_ble_eq_true rfl) (post' := fun zv zσ => V 1 MX7_serves 80 [some (vR 6 44), some (vZ t), some (vZ (cWi C t)), none] (zv.toList ++ []) zσ post) (c_M_isIn (by decide) (by decide) ((show V 1 MX7_serves 80 [some (vR 6 44), some (vZ t), some (vZ (cWi C t)), none] [vZ (if zbt (cWi C t) 0 = true then 1 else 0)] (uI σ 59 (dq D 0) ((dl D (dq D 0)) - 1)) post from ?_))) (fun _ _ h => h)
        refine V_top (by rw [hw] <;> decide) ?_
        refine V_run kX7_serves 1 [1] (show (zr 1 ∧ ¬ 1 = 0) ∧ V 1 MX7_serves 103 [some (vR 6 44), some (vZ t), some (vZ (cWi C t)), none] [] (uI σ 59 (dq D 0) ((dl D (dq D 0)) - 1)) post from ⟨(by omega), ?_⟩)
        exact key2 _ (mFr.u mFr.rf (by decide) (by decide)) (zMd_ext (zMd_l hm) rfl (fun _ _ _ => rfl) (fun k a b => ⟨rfl, hls k, rfl⟩))
      · skip
        by_cases hw : cWi C t = 2
        · skip
          have hF : wFr C t D = false := by rw [← Bool.not_eq_true]; intro q; have := (wFr_i.mp q).2; omega
          have hB : wBk C t D = true := by exact wBk_i.mpr ⟨by omega, by omega⟩
          have hls := lSe_two hJ hF hB
          refine V_callS (a := [vZ (cWi C t), vZ 0]) (rest := []) kX7_serves rfl oX7_isIn iX7_isIn lk_7_197 rfl rfl (Nat.le_of_ble_eq_true rfl) (Nat.le_of_ble_eq_true rfl) (Nat.le_of_ble_eq_true rfl) (post' := fun zv zσ => V 1 MX7_serves 34 [some (vR 6 44), some (vZ t), some (vZ (cWi C t)), none] (zv.toList ++ []) zσ post) (c_M_isIn (by decide) (by decide) ((show V 1 MX7_serves 34 [some (vR 6 44), some (vZ t), some (vZ (cWi C t)), none] [vZ (if zbt (cWi C t) 0 = true then 1 else 0)] σ post from ?_))) (fun _ _ h => h)
          refine V_top (by rw [hw] <;> decide) ?_
          refine V_run kX7_serves 3 [1] (show (zr 0 ∧ 0 = 0) ∧ V 1 MX7_serves 56 [some (vR 6 44), some (vZ t), some (vZ (cWi C t)), none] [vZ (σ.1 44 19)] σ post from ⟨(by omega), ?_⟩)
          refine V_top (m1) ?_
          refine V_run kX7_serves 3 [0] (show (zr (dn D) ∧ 0 < (dn D)) ∧ V 1 MX7_serves 61 [some (vR 6 44), some (vZ t), some (vZ (cWi C t)), none] [vZ 1, vZ (cWi C t)] σ post from ⟨(by omega), ?_⟩)
          refine V_callS (a := [vZ (cWi C t), vZ 1]) (rest := []) kX7_serves rfl oX7_isIn iX7_isIn lk_7_197 rfl rfl (Nat.le_of_ble_eq_true rfl) (Nat.le_of_ble_eq_true rfl) (Nat.le_of_ble_eq_true rfl) (post' := fun zv zσ => V 1 MX7_serves 64 [some (vR 6 44), some (vZ t), some (vZ (cWi C t)), none] (zv.toList ++ []) zσ post) (c_M_isIn (by decide) (by decide) ((show V 1 MX7_serves 64 [some (vR 6 44), some (vZ t), some (vZ (cWi C t)), none] [vZ (if zbt (cWi C t) 1 = true then 1 else 0)] σ post from ?_))) (fun _ _ h => h)
          refine V_top (by rw [hw] <;> decide) ?_
          refine V_run kX7_serves 3 [0] (show (zr 1 ∧ ¬ 1 = 0) ∧ V 1 MX7_serves 71 [some (vR 6 44), some (vZ t), some (vZ (cWi C t)), none] [vZ (σ.1 44 19)] σ post from ⟨(by omega), ?_⟩)
          refine V_top (m1) ?_
          refine V_run kX7_serves 2 [1] (show (zr (dn D) ∧ zr 1 ∧ ¬ (dn D) = 1) ∧ V 1 MX7_serves 83 [some (vR 6 44), some (vZ t), some (vZ (cWi C t)), none] [] σ post from ⟨(by omega), ?_⟩)
          refine V_run kX7_serves 6 [] (show V 1 MX7_serves 95 [some (vR 6 44), some (vZ t), some (vZ (cWi C t)), none] [vZ (σ.1 44 19), vR 8 57, vR 8 59] σ post from ?_)
          refine V_top (m1) ?_
          refine V_run kX7_serves 3 [] (show (0 ≤ ((dn D) - 1) ∧ ((dn D) - 1) < 13) ∧ V 1 MX7_serves 98 [some (vR 6 44), some (vZ t), some (vZ (cWi C t)), none] [vZ (σ.1 57 ((dn D) - 1)), vR 8 59] σ post from ⟨(by omega), ?_⟩)
          refine V_top (hml) ?_
          refine V_run kX7_serves 2 [] (show (0 ≤ (dq D (dn D - 1)) ∧ (dq D (dn D - 1)) < 12) ∧ V 1 MX7_serves 100 [some (vR 6 44), some (vZ t), some (vZ (cWi C t)), none] [vZ (σ.1 59 (dq D (dn D - 1))), vZ (dq D (dn D - 1)), vR 8 59] σ post from ⟨(by omega), ?_⟩)
          refine V_top (hll.2.1) ?_
          refine V_run kX7_serves 3 [] (show (0 ≤ (dq D (dn D - 1)) ∧ (dq D (dn D - 1)) < 12) ∧ V 1 MX7_serves 103 [some (vR 6 44), some (vZ t), some (vZ (cWi C t)), none] [] (uI σ 59 (dq D (dn D - 1)) ((dl D (dq D (dn D - 1))) - 1)) post from ⟨(by omega), ?_⟩)
          exact key2 _ (mFr.u mFr.rf (by decide) (by decide)) (zMd_ext (zMd_l hm) rfl (fun _ _ _ => rfl) (fun k a b => ⟨rfl, hls k, rfl⟩))
        replace hw : cWi C t = 3 := by omega
        have hF : wFr C t D = true := by exact wFr_i.mpr ⟨by omega, by omega⟩
        have hB : wBk C t D = true := by exact wBk_i.mpr ⟨by omega, by omega⟩
        have hls := lSe_two hJ hF hB
        refine V_callS (a := [vZ (cWi C t), vZ 0]) (rest := []) kX7_serves rfl oX7_isIn iX7_isIn lk_7_197 rfl rfl (Nat.le_of_ble_eq_true rfl) (Nat.le_of_ble_eq_true rfl) (Nat.le_of_ble_eq_true rfl) (post' := fun zv zσ => V 1 MX7_serves 34 [some (vR 6 44), some (vZ t), some (vZ (cWi C t)), none] (zv.toList ++ []) zσ post) (c_M_isIn (by decide) (by decide) ((show V 1 MX7_serves 34 [some (vR 6 44), some (vZ t), some (vZ (cWi C t)), none] [vZ (if zbt (cWi C t) 0 = true then 1 else 0)] σ post from ?_))) (fun _ _ h => h)
        refine V_top (by rw [hw] <;> decide) ?_
        refine V_run kX7_serves 7 [0] (show (zr 1 ∧ ¬ 1 = 0) ∧ (0 ≤ 0 ∧ 0 < 13) ∧ V 1 MX7_serves 47 [some (vR 6 44), some (vZ t), some (vZ (cWi C t)), none] [vZ (σ.1 57 0), vR 8 59] σ post from ⟨(by omega), (by omega), ?_⟩)
        refine V_top (hmf) ?_
        refine V_run kX7_serves 2 [] (show (0 ≤ (dq D 0) ∧ (dq D 0) < 12) ∧ V 1 MX7_serves 49 [some (vR 6 44), some (vZ t), some (vZ (cWi C t)), none] [vZ (σ.1 59 (dq D 0)), vZ (dq D 0), vR 8 59] σ post from ⟨(by omega), ?_⟩)
        refine V_top (hlf.2.1) ?_
        refine V_run kX7_serves 3 [] (show (0 ≤ (dq D 0) ∧ (dq D 0) < 12) ∧ V 1 MX7_serves 52 [some (vR 6 44), some (vZ t), some (vZ (cWi C t)), none] [] (uI σ 59 (dq D 0) ((dl D (dq D 0)) - 1)) post from ⟨(by omega), ?_⟩)
        refine V_run kX7_serves 2 [] (show V 1 MX7_serves 56 [some (vR 6 44), some (vZ t), some (vZ (cWi C t)), none] [vZ ((uI σ 59 (dq D 0) ((dl D (dq D 0)) - 1)).1 44 19)] (uI σ 59 (dq D 0) ((dl D (dq D 0)) - 1)) post from ?_)
        refine V_top (show (uI σ 59 (dq D 0) ((dl D (dq D 0)) - 1)).1 44 19 = dn D by rw [uI_ne (by decide)]; exact m1) ?_
        refine V_run kX7_serves 3 [0] (show (zr (dn D) ∧ 0 < (dn D)) ∧ V 1 MX7_serves 61 [some (vR 6 44), some (vZ t), some (vZ (cWi C t)), none] [vZ 1, vZ (cWi C t)] (uI σ 59 (dq D 0) ((dl D (dq D 0)) - 1)) post from ⟨(by omega), ?_⟩)
        refine V_callS (a := [vZ (cWi C t), vZ 1]) (rest := []) kX7_serves rfl oX7_isIn iX7_isIn lk_7_197 rfl rfl (Nat.le_of_ble_eq_true rfl) (Nat.le_of_ble_eq_true rfl) (Nat.le_of_ble_eq_true rfl) (post' := fun zv zσ => V 1 MX7_serves 64 [some (vR 6 44), some (vZ t), some (vZ (cWi C t)), none] (zv.toList ++ []) zσ post) (c_M_isIn (by decide) (by decide) ((show V 1 MX7_serves 64 [some (vR 6 44), some (vZ t), some (vZ (cWi C t)), none] [vZ (if zbt (cWi C t) 1 = true then 1 else 0)] (uI σ 59 (dq D 0) ((dl D (dq D 0)) - 1)) post from ?_))) (fun _ _ h => h)
        refine V_top (by rw [hw] <;> decide) ?_
        refine V_run kX7_serves 3 [0] (show (zr 1 ∧ ¬ 1 = 0) ∧ V 1 MX7_serves 71 [some (vR 6 44), some (vZ t), some (vZ (cWi C t)), none] [vZ ((uI σ 59 (dq D 0) ((dl D (dq D 0)) - 1)).1 44 19)] (uI σ 59 (dq D 0) ((dl D (dq D 0)) - 1)) post from ⟨(by omega), ?_⟩)
        refine V_top (show (uI σ 59 (dq D 0) ((dl D (dq D 0)) - 1)).1 44 19 = dn D by rw [uI_ne (by decide)]; exact m1) ?_
        refine V_run kX7_serves 2 [1] (show (zr (dn D) ∧ zr 1 ∧ ¬ (dn D) = 1) ∧ V 1 MX7_serves 83 [some (vR 6 44), some (vZ t), some (vZ (cWi C t)), none] [] (uI σ 59 (dq D 0) ((dl D (dq D 0)) - 1)) post from ⟨(by omega), ?_⟩)
        refine V_run kX7_serves 6 [] (show V 1 MX7_serves 95 [some (vR 6 44), some (vZ t), some (vZ (cWi C t)), none] [vZ ((uI σ 59 (dq D 0) ((dl D (dq D 0)) - 1)).1 44 19), vR 8 57, vR 8 59] (uI σ 59 (dq D 0) ((dl D (dq D 0)) - 1)) post from ?_)
        refine V_top (show (uI σ 59 (dq D 0) ((dl D (dq D 0)) - 1)).1 44 19 = dn D by rw [uI_ne (by decide)]; exact m1) ?_
        refine V_run kX7_serves 3 [] (show (0 ≤ ((dn D) - 1) ∧ ((dn D) - 1) < 13) ∧ V 1 MX7_serves 98 [some (vR 6 44), some (vZ t), some (vZ (cWi C t)), none] [vZ ((uI σ 59 (dq D 0) ((dl D (dq D 0)) - 1)).1 57 ((dn D) - 1)), vR 8 59] (uI σ 59 (dq D 0) ((dl D (dq D 0)) - 1)) post from ⟨(by omega), ?_⟩)
        refine V_top (show (uI σ 59 (dq D 0) ((dl D (dq D 0)) - 1)).1 57 (dn D - 1) = dq D (dn D - 1) by rw [uI_ne (by decide)]; exact hml) ?_
        refine V_run kX7_serves 2 [] (show (0 ≤ (dq D (dn D - 1)) ∧ (dq D (dn D - 1)) < 12) ∧ V 1 MX7_serves 100 [some (vR 6 44), some (vZ t), some (vZ (cWi C t)), none] [vZ ((uI σ 59 (dq D 0) ((dl D (dq D 0)) - 1)).1 59 (dq D (dn D - 1))), vZ (dq D (dn D - 1)), vR 8 59] (uI σ 59 (dq D 0) ((dl D (dq D 0)) - 1)) post from ⟨(by omega), ?_⟩)
        refine V_top (show (uI σ 59 (dq D 0) ((dl D (dq D 0)) - 1)).1 59 (dq D (dn D - 1)) = (fPut (dl D) (dq D 0) (dl D (dq D 0) - 1)) (dq D (dn D - 1)) by rw [uI_at]; unfold fPut; split; rfl; exact hll.2.1) ?_
        refine V_run kX7_serves 3 [] (show (0 ≤ (dq D (dn D - 1)) ∧ (dq D (dn D - 1)) < 12) ∧ V 1 MX7_serves 103 [some (vR 6 44), some (vZ t), some (vZ (cWi C t)), none] [] (uI (uI σ 59 (dq D 0) ((dl D (dq D 0)) - 1)) 59 (dq D (dn D - 1)) (((fPut (dl D) (dq D 0) (dl D (dq D 0) - 1)) (dq D (dn D - 1))) - 1)) post from ⟨(by omega), ?_⟩)
        exact key2 _ (mFr.u (mFr.u mFr.rf (by decide) (by decide)) (by decide) (by decide)) (zMd_ext (zMd_l (zMd_l hm)) rfl (fun _ _ _ => rfl) (fun k a b => ⟨rfl, hls k, rfl⟩))
  show V 1 MX7_serves 0 [some (vR 6 44), some (vZ t), none, none] [] σ post
  refine V_run kX7_serves 3 [] (show V 1 MX7_serves 5 [some (vR 6 44), some (vZ t), none, none] [vZ (σ.1 44 17), vZ t] σ post from ?_)
  have hz17 := hc.2.2.2.2.2.1.1
  by_cases ht : t = σ.1 44 17
  · skip
    rw [if_pos ht] at hct
    refine V_run kX7_serves 3 [0] (show (zr t ∧ zr (σ.1 44 17) ∧ t = (σ.1 44 17)) ∧ V 1 MX7_serves 12 [some (vR 6 44), some (vZ t), none, none] [vZ (σ.1 44 18)] σ post from ⟨(by omega), ?_⟩)
    refine V_run kX7_serves 1 [] (show V 1 MX7_serves 21 [some (vR 6 44), some (vZ t), none, none] [vZ (σ.1 44 18)] σ post from ?_)
    refine V_top (hct) ?_
    refine V_run kX7_serves 1 [] (show V 1 MX7_serves 22 [some (vR 6 44), some (vZ t), some (vZ (cWi C t)), none] [] σ post from ?_)
    exact key1
  · skip
    rw [if_neg ht] at hct
    refine V_run kX7_serves 5 [1] (show (zr t ∧ zr (σ.1 44 17) ∧ ¬ t = (σ.1 44 17)) ∧ (0 ≤ t ∧ t < 24) ∧ V 1 MX7_serves 21 [some (vR 6 44), some (vZ t), none, none] [vZ (σ.1 50 t)] σ post from ⟨(by omega), (by omega), ?_⟩)
    refine V_top (hct) ?_
    refine V_run kX7_serves 1 [] (show V 1 MX7_serves 22 [some (vR 6 44), some (vZ t), some (vZ (cWi C t)), none] [] σ post from ?_)
    exact key1
