theorem fZero_ne {σ : zSt} {k a : Nat} {n : Int} (h : a ≠ k) : (fZero σ k n).1 a = σ.1 a := by
  funext j; unfold fZero; show (if a = k ∧ _ ∧ _ then _ else _) = _; rw [if_neg (fun y => h y.1)]
theorem fZero_at {σ : zSt} {k : Nat} {n j : Int} (j0 : 0 ≤ j) (j1 : j < n) : (fZero σ k n).1 k j = 0 := by
  unfold fZero; show (if k = k ∧ _ ∧ _ then _ else _) = _; rw [if_pos ⟨rfl, j0, j1⟩]
theorem dgt_0 (k : Int) : dgt 0 k = 0 := by unfold dgt; rw [Nat.zero_div]; rfl
theorem zTx_c {σ σ' : zSt} {b : Nat} (h0 : σ'.1 b = σ.1 b) (h1 : σ'.1 (b + 1) = σ.1 (b + 1)) (h : zTx σ b) : zTx σ' b := by unfold zTx at h ⊢; rw [h0, h1]; exact h
theorem zby_at {f : Int → Int} {n i : Int} (h0 : 0 ≤ i) (h : i < n) : zby f n i = f i := if_pos ⟨h0, h⟩
/-- the people ahead of p, as they are told by f, in the plan at cell 5 -/
def PF (σ : zSt) (f : Int → Int) (p : Int) : Prop := (∀ k : Int, 0 ≤ k → k < p → σ.1 6 k = f (4 * k) - 97 ∧ σ.1 7 k = zsgn (f (4 * k + 1))) ∧ (∃ w : Nat, w < 16 ^ 12 ∧ σ.2 5 3 = lN w ∧ ∀ k : Int, 0 ≤ k → k < 12 → dgt w k = if k < p then f (4 * k + 2) - 48 else 0) ∧ (∀ t : Int, 0 ≤ t → t < 24 → zr (σ.1 12 t) ∧ ∀ k : Int, 0 ≤ k → k < 12 → zbt (σ.1 12 t) k = decide (k < p ∧ f (4 * k) - 97 = t)) ∧ ∀ k : Int, 0 ≤ k → k < 12 → 0 ≤ σ.1 6 k ∧ σ.1 6 k ≤ 23
def PFr (σ σ' : zSt) : Prop := (∀ a : Nat, a ≠ 5 → a ≠ 6 → a ≠ 7 → a ≠ 12 → σ'.1 a = σ.1 a) ∧ (∀ j : Int, j ≠ 0 → σ'.1 5 j = σ.1 5 j) ∧ ∀ a : Nat, a ≠ 5 → σ'.2 a = σ.2 a
theorem PF_s {σ : zSt} {f : Int → Int} {p : Int} {w : Nat} (h : PF σ f p) (hw : w < 16 ^ 12) (h3 : σ.2 5 3 = lN w) (hd : ∀ k : Int, 0 ≤ k → k < 12 → dgt w k = if k < p then f (4 * k + 2) - 48 else 0) (p0 : 0 ≤ p) (p1 : p < 12) (hf : 97 ≤ f (4 * p) ∧ f (4 * p) ≤ 120) (hf2 : 49 ≤ f (4 * p + 2) ∧ f (4 * p + 2) ≤ 57) : PF (uL (uI (sCom σ 5 p (f (4 * p) - 97)) 7 p (zsgn (f (4 * p + 1)))) 5 3 (lN (rRep w p (f (4 * p + 2) - 48)))) f (p + 1) := by
  obtain ⟨q1, -, q3, q4⟩ := h
  refine ⟨fun k a c => ?_, ⟨_, rRep_lt hw p0 p1 (by omega) (by omega), uL_get, fun k a c => ?_⟩, fun t a c => ⟨?_, fun k k0 k1 => ?_⟩, fun k a c => ?_⟩
  · show (uI (sCom σ 5 p (f (4 * p) - 97)) 7 p (zsgn (f (4 * p + 1)))).1 6 k = _ ∧ (uI (sCom σ 5 p (f (4 * p) - 97)) 7 p (zsgn (f (4 * p + 1)))).1 7 k = _
    rw [uI_ne (by decide), uI_at, show (sCom σ 5 p (f (4 * p) - 97)).1 6 = fPut (σ.1 6) p (f (4 * p) - 97) from sCom_1, sCom_ne (by decide) (by decide), fPut_at]
    by_cases z : k = p
    · rw [if_pos z, if_pos z, z]; exact ⟨rfl, rfl⟩
    · rw [if_neg z, if_neg z]; exact q1 k a (by omega)
  · rw [dgt_rRep p0 (by omega) (by omega) a]
    by_cases z : k = p
    · rw [if_pos z, if_pos (by omega), z]
    · rw [if_neg z, hd k a c]
      by_cases z2 : k < p
      · rw [if_pos z2, if_pos (by omega)]
      · rw [if_neg z2, if_neg (by omega)]
  · show zr ((uI (sCom σ 5 p (f (4 * p) - 97)) 7 p (zsgn (f (4 * p + 1)))).1 12 t)
    rw [uI_ne (by decide)]
    exact sCom_7r (b := 5) (fun t a c => (q3 t a c).1) a c
  · show zbt ((uI (sCom σ 5 p (f (4 * p) - 97)) 7 p (zsgn (f (4 * p + 1)))).1 12 t) k = _
    rw [uI_ne (by decide)]
    have z0 := sCom_7 (σ := σ) (b := 5) (m := f (4 * p) - 97) (t := t) p0 p1 k0 k1
    rw [show (sCom σ 5 p (f (4 * p) - 97)).1 12 t = (sCom σ 5 p (f (4 * p) - 97)).1 (5 + 7) t from rfl, z0]
    have z1 := (q3 t a c).2 k k0 k1
    rw [show σ.1 (5 + 7) t = σ.1 12 t from rfl, z1]
    by_cases z : k = p
    · rw [if_pos z, z, decide_eq_false (show ¬ (p < p ∧ f (4 * p) - 97 = t) by omega), Bool.and_false, Bool.or_false]
      by_cases z2 : t = f (4 * p) - 97
      · rw [decide_eq_true z2, decide_eq_true (by omega)]
      · rw [decide_eq_false z2, decide_eq_false (by omega)]
    · rw [if_neg z]
      by_cases z2 : k < p ∧ f (4 * k) - 97 = t
      · rw [decide_eq_true z2, decide_eq_true (by omega)]
      · rw [decide_eq_false z2, decide_eq_false (by omega)]
  · show 0 ≤ (uI (sCom σ 5 p (f (4 * p) - 97)) 7 p (zsgn (f (4 * p + 1)))).1 6 k ∧ (uI (sCom σ 5 p (f (4 * p) - 97)) 7 p (zsgn (f (4 * p + 1)))).1 6 k ≤ 23
    rw [uI_ne (by decide), show (sCom σ 5 p (f (4 * p) - 97)).1 6 = fPut (σ.1 6) p (f (4 * p) - 97) from sCom_1, fPut_at]
    split
    · omega
    · exact q4 k a c
theorem zPz5 : zPz 5 := ⟨rfl, rfl, rfl, rfl, rfl, rfl, rfl, rfl⟩
theorem zPz14 : zPz 14 := ⟨rfl, rfl, rfl, rfl, rfl, rfl, rfl, rfl⟩
set_option maxHeartbeats 8000000 in
set_option maxRecDepth 100000 in
/-- Plan.readPeople -/
theorem c_P_readPeople {σ : zSt} {post : Option VV → zSt → Prop} (hT : zTx σ 1) (h10 : σ.1 1 0 = 1) (hx : ∀ k : Int, 0 ≤ k → k < 12 → 0 ≤ σ.1 6 k ∧ σ.1 6 k ≤ 23) (hp : ∀ σ', PFr σ σ' → σ'.1 5 0 = zwho 1 (σ.1 2) (σ.1 1 2) → PF σ' (σ.1 2) (zwho 1 (σ.1 2) (σ.1 1 2)) → post none σ') : Mc 4 MX2_readPeople [vR 1 5, vR 4 1] σ post := by
  have hT3 := hT.2.1
  have hrng : 0 ≤ σ.1 1 2 ∧ σ.1 1 2 ≤ 47 := ⟨hT.2.1, Int.le_trans hT.2.2.1 hT.2.2.2.1⟩
  obtain ⟨N, hN⟩ : ∃ N : Int, N = zwho 1 (σ.1 2) (σ.1 1 2) := ⟨_, rfl⟩
  have hNr := zwho_rng (f := σ.1 2) hrng.1 hrng.2
  rw [← hN] at hp hNr
  have loop2 : ∀ (m : Nat) (p : Int), 0 ≤ p → p + m = N → ∀ σ2 : zSt, PFr σ σ2 → σ2.1 5 0 = N → PF σ2 (σ.1 2) p → V 4 MX2_readPeople 44 [some (vR 1 5), some (vR 4 1), some (vZ p)] [] σ2 post := by
    intro m
    induction m with
    | zero =>
      intro p p0 p1 σ2 hf hn hd
      have hpn : p = N := by omega
      refine V_run kX2_readPeople 3 [] (show V 4 MX2_readPeople 49 [some (vR 1 5), some (vR 4 1), some (vZ p)] [vZ (σ2.1 5 0), vZ p] σ2 post from ?_)
      refine V_top (hn) ?_
      refine V_run kX2_readPeople 1 [1] (show (zr p ∧ zr N ∧ N ≤ p) ∧ V 4 MX2_readPeople 107 [some (vR 1 5), some (vR 4 1), some (vZ p)] [] σ2 post from ⟨(by omega), ?_⟩)
      exact V_vret kX2_readPeople rfl rfl (hp σ2 hf hn (hpn ▸ hd))
    | succ m ih =>
      intro p p0 p1 σ2 hf hn hd
      have hfit := zwho1_fit (f := σ.1 2) (n := σ.1 1 2) hrng.1 p0 (by omega)
      obtain ⟨w, hw1, hw2, hw3⟩ := hd.2.1
      have hdx := hd.2.2.2 p p0 (by omega)
      have e1 : σ2.1 1 = σ.1 1 := hf.1 1 (by decide) (by decide) (by decide) (by decide)
      have e2 : σ2.1 2 = σ.1 2 := hf.1 2 (by decide) (by decide) (by decide) (by decide)
      refine V_run kX2_readPeople 3 [] (show V 4 MX2_readPeople 49 [some (vR 1 5), some (vR 4 1), some (vZ p)] [vZ (σ2.1 5 0), vZ p] σ2 post from ?_)
      refine V_top (hn) ?_
      refine V_run kX2_readPeople 7 [0] (show (zr p ∧ zr N ∧ p < N) ∧ V 4 MX2_readPeople 58 [some (vR 1 5), some (vR 4 1), some (vZ p)] [vZ (4 * p), vR 4 1, vZ p, vR 1 5] σ2 post from ⟨(by omega), ?_⟩)
      refine V_callV (a := [vZ (4 * p)]) (rest := [vZ p, vR 1 5]) kX2_readPeople rfl oX5_byteAt iX5_byteAt lk_2_56 rfl rfl rfl (Nat.le_of_ble_eq_true rfl) (Nat.le_of_ble_eq_true rfl) (Nat.le_of_ble_eq_true rfl) (post' := fun zv zσ => V 4 MX2_readPeople 61 [some (vR 1 5), some (vR 4 1), some (vZ p)] (zv.toList ++ [vZ p, vR 1 5]) zσ post) (c_T_byteAt (zTx_c (σ := σ) (b := 1) (e1) (e2) hT) (by omega) ((show V 4 MX2_readPeople 61 [some (vR 1 5), some (vR 4 1), some (vZ p)] [vZ (zby (σ2.1 2) (σ2.1 1 2) (4 * p)), vZ p, vR 1 5] σ2 post from ?_))) (fun _ _ h => h)
      refine V_top (show zby (σ2.1 2) (σ2.1 1 2) (4 * p) = σ.1 2 (4 * p) by rw [e1, e2]; exact zby_at (by omega) (by omega)) ?_
      refine V_run kX2_readPeople 2 [] (show V 4 MX2_readPeople 64 [some (vR 1 5), some (vR 4 1), some (vZ p)] [vZ ((σ.1 2 (4 * p)) - 97), vZ p, vR 1 5] σ2 post from ?_)
      refine V_callV (a := [vZ p, vZ ((σ.1 2 (4 * p)) - 97)]) (rest := []) kX2_readPeople rfl oX2_setComing iX2_setComing lk_2_60 rfl rfl rfl (Nat.le_of_ble_eq_true rfl) (Nat.le_of_ble_eq_true rfl) (Nat.le_of_ble_eq_true rfl) (post' := fun zv zσ => V 4 MX2_readPeople 67 [some (vR 1 5), some (vR 4 1), some (vZ p)] (zv.toList ++ []) zσ post) (c_P_setComing (b := 5) zPz5 p0 (by omega) (by omega) (by omega) hdx.1 (show σ2.1 6 p < 24 by omega) ((show V 4 MX2_readPeople 67 [some (vR 1 5), some (vR 4 1), some (vZ p)] [] (sCom σ2 5 p (σ.1 2 (4 * p) - 97)) post from ?_))) (fun _ _ h => h)
      refine V_run kX2_readPeople 8 [] (show V 4 MX2_readPeople 75 [some (vR 1 5), some (vR 4 1), some (vZ p)] [vZ ((4 * p) + 1), vR 4 1, vZ p, vR 1 5] (sCom σ2 5 p (σ.1 2 (4 * p) - 97)) post from ?_)
      refine V_callV (a := [vZ ((4 * p) + 1)]) (rest := [vZ p, vR 1 5]) kX2_readPeople rfl oX5_byteAt iX5_byteAt lk_2_56 rfl rfl rfl (Nat.le_of_ble_eq_true rfl) (Nat.le_of_ble_eq_true rfl) (Nat.le_of_ble_eq_true rfl) (post' := fun zv zσ => V 4 MX2_readPeople 78 [some (vR 1 5), some (vR 4 1), some (vZ p)] (zv.toList ++ [vZ p, vR 1 5]) zσ post) (c_T_byteAt (zTx_c (σ := σ) (b := 1) ((sCom_ne (σ := σ2) (b := 5) (a := 1) (by decide) (by decide)).trans e1) ((sCom_ne (σ := σ2) (b := 5) (a := 2) (by decide) (by decide)).trans e2) hT) (by omega) ((show V 4 MX2_readPeople 78 [some (vR 1 5), some (vR 4 1), some (vZ p)] [vZ (zby ((sCom σ2 5 p (σ.1 2 (4 * p) - 97)).1 2) ((sCom σ2 5 p (σ.1 2 (4 * p) - 97)).1 1 2) (4 * p + 1)), vZ p, vR 1 5] (sCom σ2 5 p (σ.1 2 (4 * p) - 97)) post from ?_))) (fun _ _ h => h)
      refine V_top (show zby ((sCom σ2 5 p (σ.1 2 (4 * p) - 97)).1 2) ((sCom σ2 5 p (σ.1 2 (4 * p) - 97)).1 1 2) (4 * p + 1) = σ.1 2 (4 * p + 1) by rw [sCom_ne (b := 5) (a := 1) (by decide) (by decide), sCom_ne (b := 5) (a := 2) (by decide) (by decide), e1, e2]; exact zby_at (by omega) (by omega)) ?_
      have hb1 := hT.2.2.2.2 (4 * p + 1) (by omega) (by omega)
      have hb0 := hT.2.2.2.2 (4 * p) (by omega) (by omega)
      refine V_callS (a := [vZ (σ.1 2 (4 * p + 1))]) (rest := [vZ p, vR 1 5]) kX2_readPeople rfl oX5_sortBySign iX5_sortBySign lk_2_64 rfl rfl (Nat.le_of_ble_eq_true rfl) (Nat.le_of_ble_eq_true rfl) (Nat.le_of_ble_eq_true rfl) (post' := fun zv zσ => V 4 MX2_readPeople 81 [some (vR 1 5), some (vR 4 1), some (vZ p)] (zv.toList ++ [vZ p, vR 1 5]) zσ post) (c_T_sgn (show zr (σ.1 2 (4 * p + 1)) from ⟨Int.le_trans (by decide) hb1.1, Int.lt_of_le_of_lt hb1.2 (by decide)⟩) ((show V 4 MX2_readPeople 81 [some (vR 1 5), some (vR 4 1), some (vZ p)] [vZ (zsgn (σ.1 2 (4 * p + 1))), vZ p, vR 1 5] (sCom σ2 5 p (σ.1 2 (4 * p) - 97)) post from ?_))) (fun _ _ h => h)
      refine V_callV (a := [vZ p, vZ (zsgn (σ.1 2 (4 * p + 1)))]) (rest := []) kX2_readPeople rfl oX2_setSort iX2_setSort lk_2_67 rfl rfl rfl (Nat.le_of_ble_eq_true rfl) (Nat.le_of_ble_eq_true rfl) (Nat.le_of_ble_eq_true rfl) (post' := fun zv zσ => V 4 MX2_readPeople 84 [some (vR 1 5), some (vR 4 1), some (vZ p)] (zv.toList ++ []) zσ post) (c_P_setSort (b := 5) zPz5 p0 (by omega) ((show V 4 MX2_readPeople 84 [some (vR 1 5), some (vR 4 1), some (vZ p)] [] (uI (sCom σ2 5 p (σ.1 2 (4 * p) - 97)) 7 p (zsgn (σ.1 2 (4 * p + 1)))) post from ?_))) (fun _ _ h => h)
      refine V_run kX2_readPeople 8 [] (show V 4 MX2_readPeople 92 [some (vR 1 5), some (vR 4 1), some (vZ p)] [vZ ((4 * p) + 2), vR 4 1, vZ p, vR 1 5] (uI (sCom σ2 5 p (σ.1 2 (4 * p) - 97)) 7 p (zsgn (σ.1 2 (4 * p + 1)))) post from ?_)
      refine V_callV (a := [vZ ((4 * p) + 2)]) (rest := [vZ p, vR 1 5]) kX2_readPeople rfl oX5_byteAt iX5_byteAt lk_2_56 rfl rfl rfl (Nat.le_of_ble_eq_true rfl) (Nat.le_of_ble_eq_true rfl) (Nat.le_of_ble_eq_true rfl) (post' := fun zv zσ => V 4 MX2_readPeople 95 [some (vR 1 5), some (vR 4 1), some (vZ p)] (zv.toList ++ [vZ p, vR 1 5]) zσ post) (c_T_byteAt (zTx_c (σ := σ) (b := 1) (((uI_ne (show (1 : Nat) ≠ 7 by decide)).trans (sCom_ne (σ := σ2) (b := 5) (a := 1) (by decide) (by decide))).trans e1) (((uI_ne (show (2 : Nat) ≠ 7 by decide)).trans (sCom_ne (σ := σ2) (b := 5) (a := 2) (by decide) (by decide))).trans e2) hT) (by omega) ((show V 4 MX2_readPeople 95 [some (vR 1 5), some (vR 4 1), some (vZ p)] [vZ (zby ((uI (sCom σ2 5 p (σ.1 2 (4 * p) - 97)) 7 p (zsgn (σ.1 2 (4 * p + 1)))).1 2) ((uI (sCom σ2 5 p (σ.1 2 (4 * p) - 97)) 7 p (zsgn (σ.1 2 (4 * p + 1)))).1 1 2) (4 * p + 2)), vZ p, vR 1 5] (uI (sCom σ2 5 p (σ.1 2 (4 * p) - 97)) 7 p (zsgn (σ.1 2 (4 * p + 1)))) post from ?_))) (fun _ _ h => h)
      refine V_top (show zby ((uI (sCom σ2 5 p (σ.1 2 (4 * p) - 97)) 7 p (zsgn (σ.1 2 (4 * p + 1)))).1 2) ((uI (sCom σ2 5 p (σ.1 2 (4 * p) - 97)) 7 p (zsgn (σ.1 2 (4 * p + 1)))).1 1 2) (4 * p + 2) = σ.1 2 (4 * p + 2) by rw [uI_ne (show (2 : Nat) ≠ 7 by decide), uI_ne (show (1 : Nat) ≠ 7 by decide), sCom_ne (b := 5) (a := 1) (by decide) (by decide), sCom_ne (b := 5) (a := 2) (by decide) (by decide), e1, e2]; exact zby_at (by omega) (by omega)) ?_
      refine V_run kX2_readPeople 2 [] (show V 4 MX2_readPeople 98 [some (vR 1 5), some (vR 4 1), some (vZ p)] [vZ ((σ.1 2 (4 * p + 2)) - 48), vZ p, vR 1 5] (uI (sCom σ2 5 p (σ.1 2 (4 * p) - 97)) 7 p (zsgn (σ.1 2 (4 * p + 1)))) post from ?_)
      refine V_callV (a := [vZ p, vZ ((σ.1 2 (4 * p + 2)) - 48)]) (rest := []) kX2_readPeople rfl oX2_setParcel iX2_setParcel lk_2_70 rfl rfl rfl (Nat.le_of_ble_eq_true rfl) (Nat.le_of_ble_eq_true rfl) (Nat.le_of_ble_eq_true rfl) (post' := fun zv zσ => V 4 MX2_readPeople 101 [some (vR 1 5), some (vR 4 1), some (vZ p)] (zv.toList ++ []) zσ post) (c_P_setParcel (b := 5) hw1 (show (uI (sCom σ2 5 p (σ.1 2 (4 * p) - 97)) 7 p (zsgn (σ.1 2 (4 * p + 1)))).2 5 3 = lN w from hw2) p0 (by omega) (by omega) (by omega) ((show V 4 MX2_readPeople 101 [some (vR 1 5), some (vR 4 1), some (vZ p)] [] (uL (uI (sCom σ2 5 p (σ.1 2 (4 * p) - 97)) 7 p (zsgn (σ.1 2 (4 * p + 1)))) 5 3 (lN (rRep w p (σ.1 2 (4 * p + 2) - 48)))) post from ?_))) (fun _ _ h => h)
      refine V_run kX2_readPeople 2 [] (show V 4 MX2_readPeople 44 [some (vR 1 5), some (vR 4 1), some (vZ (p + 1))] [] (uL (uI (sCom σ2 5 p (σ.1 2 (4 * p) - 97)) 7 p (zsgn (σ.1 2 (4 * p + 1)))) 5 3 (lN (rRep w p (σ.1 2 (4 * p + 2) - 48)))) post from ?_)
      refine ih (p + 1) (by omega) (by omega) _ ⟨fun a x1 x2 x3 x4 => ?_, fun j x => ?_, fun a x => ?_⟩ ?_ (PF_s hd hw1 hw2 hw3 p0 (by omega) hfit.2.1 hfit.2.2.2)
      · rw [uL_1, uI_ne x3, sCom_ne x2 x4]; exact hf.1 a x1 x2 x3 x4
      · rw [uL_1, uI_ne (by decide), sCom_ne (by decide) (by decide)]; exact hf.2.1 j x
      · rw [uL_ne x]; exact hf.2.2 a x
      · rw [uL_1, uI_ne (by decide), sCom_ne (by decide) (by decide)]; exact hn
  have loop1 : ∀ (m : Nat) (i : Int), 0 ≤ i → i + m = 24 → V 4 MX2_readPeople 2 [some (vR 1 5), some (vR 4 1), some (vZ i)] [] (fZero σ 12 i) post := by
    intro m
    induction m with
    | zero =>
      intro i i0 i1
      have hi : i = 24 := by omega
      subst hi
      refine V_run kX2_readPeople 10 [1] (show (zr 24 ∧ zr 24 ∧ 24 ≤ 24) ∧ V 4 MX2_readPeople 31 [some (vR 1 5), some (vR 4 1), some (vZ 24)] [vR 4 1, vR 1 5] (uL (fZero σ 12 24) 5 3 (0 : Int64)) post from ⟨(by omega), ?_⟩)
      refine V_callV (a := []) (rest := [vR 1 5]) kX2_readPeople rfl oX5_whole iX5_whole lk_2_40 rfl rfl rfl (Nat.le_of_ble_eq_true rfl) (Nat.le_of_ble_eq_true rfl) (Nat.le_of_ble_eq_true rfl) (post' := fun zv zσ => V 4 MX2_readPeople 34 [some (vR 1 5), some (vR 4 1), some (vZ 24)] (zv.toList ++ [vR 1 5]) zσ post) (c_T_whole (b := 1) (zTx_c (σ := σ) (fZero_ne (σ := σ) (k := 12) (a := 1) (n := 24) (by decide)) (fZero_ne (σ := σ) (k := 12) (a := 2) (n := 24) (by decide)) hT) ((show V 4 MX2_readPeople 34 [some (vR 1 5), some (vR 4 1), some (vZ 24)] [vZ (zwho ((uL (fZero σ 12 24) 5 3 (0 : Int64)).1 1 0) ((uL (fZero σ 12 24) 5 3 (0 : Int64)).1 2) ((uL (fZero σ 12 24) 5 3 (0 : Int64)).1 1 2)), vR 1 5] (uL (fZero σ 12 24) 5 3 (0 : Int64)) post from ?_))) (fun _ _ h => h)
      refine V_top (show zwho ((fZero σ 12 24).1 1 0) ((fZero σ 12 24).1 2) ((fZero σ 12 24).1 1 2) = N by rw [fZero_ne (show (1 : Nat) ≠ 12 by decide), fZero_ne (show (2 : Nat) ≠ 12 by decide), h10]; exact hN.symm) ?_
      refine V_run kX2_readPeople 1 [] (show V 4 MX2_readPeople 36 [some (vR 1 5), some (vR 4 1), some (vZ 24)] [vZ 12, vZ N, vR 1 5] (uL (fZero σ 12 24) 5 3 (0 : Int64)) post from ?_)
      refine V_min kX2_readPeople rfl lk_2_46 (by decide) (Nat.le_of_ble_eq_true rfl) (by omega) (by decide) (show V 4 MX2_readPeople 39 [some (vR 1 5), some (vR 4 1), some (vZ 24)] [vZ (if 12 < N then 12 else N), vR 1 5] (uL (fZero σ 12 24) 5 3 (0 : Int64)) post from ?_)
      refine V_top (by rw [if_neg (by omega)]) ?_
      refine V_run kX2_readPeople 3 [] (show V 4 MX2_readPeople 44 [some (vR 1 5), some (vR 4 1), some (vZ 0)] [] (uI (uL (fZero σ 12 24) 5 3 (0 : Int64)) 5 0 N) post from ?_)
      refine loop2 N.toNat 0 (by omega) (by omega) _ ⟨fun a x1 x2 x3 x4 => ?_, fun j x => ?_, fun a x => ?_⟩ uI_get ⟨fun k a c => absurd c (by omega), ⟨0, by decide, ?_, fun k a c => by rw [dgt_0, if_neg (by omega)]⟩, fun t a c => ?_, fun k a c => ?_⟩
      · rw [uI_ne x1, uL_1, fZero_ne x4]
      · rw [uI_at, if_neg x, uL_1, fZero_ne (by decide)]
      · rw [uI_2, uL_ne x]; rfl
      · rw [uI_2, uL_get]; rfl
      · rw [uI_ne (by decide), uL_1, fZero_at a c]
        exact ⟨by decide, fun k k0 k1 => by rw [zbt_0, decide_eq_false (by omega)]⟩
      · rw [uI_ne (by decide), uL_1, fZero_ne (by decide)]; exact hx k a c
    | succ m ih =>
      intro i i0 i1
      refine V_run kX2_readPeople 12 [0] (show (zr i ∧ zr 24 ∧ i < 24) ∧ (0 ≤ i ∧ i < 24) ∧ V 4 MX2_readPeople 2 [some (vR 1 5), some (vR 4 1), some (vZ (i + 1))] [] (uI (fZero σ 12 i) 12 i 0) post from ⟨(by omega), (by omega), ?_⟩)
      have h := ih (i + 1) (by omega) (by omega)
      rw [← fZero_s i0] at h
      exact h
  show V 4 MX2_readPeople 0 [some (vR 1 5), some (vR 4 1), none] [] σ post
  refine V_run kX2_readPeople 2 [] (show V 4 MX2_readPeople 2 [some (vR 1 5), some (vR 4 1), some (vZ 0)] [] σ post from ?_)
  have h := loop1 24 0 (by omega) (by omega)
  rw [fZero_0] at h
  exact h
set_option maxHeartbeats 8000000 in
set_option maxRecDepth 100000 in
/-- Plan.readWindows -/
theorem c_P_readWindows {σ : zSt} {post : Option VV → zSt → Prop} (hT : zTx σ 3) (h30 : σ.1 3 0 = 0) (hp : ∀ σ' : zSt, (∀ a : Nat, a ≠ 8 → σ'.1 a = σ.1 a) → σ'.2 = σ.2 → (∀ t : Int, 0 ≤ t → t < 24 → σ'.1 8 t = if t < zwho 0 (σ.1 4) (σ.1 3 2) then zopn (σ.1 4 t) else 1) → post none σ') : Mc 4 MX2_readWindows [vR 1 5, vR 4 3] σ post := by
  have hrng : 0 ≤ σ.1 3 2 ∧ σ.1 3 2 ≤ 24 := ⟨hT.2.1, hT.2.2.1⟩
  obtain ⟨N, hN⟩ : ∃ N : Int, N = zwho 0 (σ.1 4) (σ.1 3 2) := ⟨_, rfl⟩
  have hNr : 0 ≤ N ∧ N ≤ 24 := by
    rw [hN]; unfold zwho; rw [if_pos (show (0 : Int) = 0 from rfl)]; split <;> omega
  rw [← hN] at hp
  have loop : ∀ (m : Nat) (i : Int), 0 ≤ i → i + m = 24 → ∀ σ2 : zSt, (∀ a : Nat, a ≠ 8 → σ2.1 a = σ.1 a) → σ2.2 = σ.2 → (∀ t : Int, 0 ≤ t → t < i → σ2.1 8 t = if t < N then zopn (σ.1 4 t) else 1) → V 4 MX2_readWindows 7 [some (vR 1 5), some (vR 4 3), some (vZ N), some (vZ i)] [] σ2 post := by
    intro m
    induction m with
    | zero =>
      intro i i0 i1 σ2 ha h2 hd
      refine V_run kX2_readWindows 5 [1] (show (zr i ∧ zr 24 ∧ 24 ≤ i) ∧ V 4 MX2_readWindows 45 [some (vR 1 5), some (vR 4 3), some (vZ N), some (vZ i)] [] σ2 post from ⟨(by omega), ?_⟩)
      exact V_vret kX2_readWindows rfl rfl (hp σ2 ha h2 (fun t a c => hd t a (by omega)))
    | succ m ih =>
      intro i i0 i1 σ2 ha h2 hd
      have go : ∀ v : Int, v = (if i < N then zopn (σ.1 4 i) else 1) → V 4 MX2_readWindows 38 [some (vR 1 5), some (vR 4 3), some (vZ N), some (vZ i)] [vZ v, vZ i, vR 8 8] σ2 post := by
        intro v hv
        refine V_run kX2_readWindows 3 [] (show (0 ≤ i ∧ i < 24) ∧ V 4 MX2_readWindows 7 [some (vR 1 5), some (vR 4 3), some (vZ N), some (vZ (i + 1))] [] (uI σ2 8 i v) post from ⟨(by omega), ?_⟩)
        refine ih (i + 1) (by omega) (by omega) _ (fun a x => by rw [uI_ne x]; exact ha a x) h2 (fun t a c => ?_)
        rw [uI_at]
        by_cases z : t = i
        · rw [if_pos z, z]; exact hv
        · rw [if_neg z]; exact hd t a (by omega)
      refine V_run kX2_readWindows 10 [0] (show (zr i ∧ zr 24 ∧ i < 24) ∧ V 4 MX2_readWindows 23 [some (vR 1 5), some (vR 4 3), some (vZ N), some (vZ i)] [vZ N, vZ i, vZ i, vR 8 8] σ2 post from ⟨(by omega), ?_⟩)
      rcases Int.lt_or_le i N with h1 | h1
      · skip
        have hfit := zwho0_fit (f := σ.1 4) (n := σ.1 3 2) hrng.1 i0 (by omega)
        have e3 : σ2.1 3 = σ.1 3 := ha 3 (by decide)
        have e4 : σ2.1 4 = σ.1 4 := ha 4 (by decide)
        have hb := hT.2.2.2.2 i i0 hfit.1
        refine V_run kX2_readWindows 3 [0] (show (zr i ∧ zr N ∧ i < N) ∧ V 4 MX2_readWindows 28 [some (vR 1 5), some (vR 4 3), some (vZ N), some (vZ i)] [vZ i, vR 4 3, vZ i, vR 8 8] σ2 post from ⟨(by omega), ?_⟩)
        refine V_callV (a := [vZ i]) (rest := [vZ i, vR 8 8]) kX2_readWindows rfl oX5_byteAt iX5_byteAt lk_2_56 rfl rfl rfl (Nat.le_of_ble_eq_true rfl) (Nat.le_of_ble_eq_true rfl) (Nat.le_of_ble_eq_true rfl) (post' := fun zv zσ => V 4 MX2_readWindows 31 [some (vR 1 5), some (vR 4 3), some (vZ N), some (vZ i)] (zv.toList ++ [vZ i, vR 8 8]) zσ post) (c_T_byteAt (zTx_c (σ := σ) (b := 3) e3 e4 hT) (by omega) ((show V 4 MX2_readWindows 31 [some (vR 1 5), some (vR 4 3), some (vZ N), some (vZ i)] [vZ (zby (σ2.1 4) (σ2.1 3 2) i), vZ i, vR 8 8] σ2 post from ?_))) (fun _ _ h => h)
        refine V_top (show zby (σ2.1 4) (σ2.1 3 2) i = σ.1 4 i by rw [e3, e4]; exact zby_at i0 hfit.1) ?_
        refine V_callS (a := [vZ (σ.1 4 i)]) (rest := [vZ i, vR 8 8]) kX2_readWindows rfl oX5_openBySign iX5_openBySign lk_2_73 rfl rfl (Nat.le_of_ble_eq_true rfl) (Nat.le_of_ble_eq_true rfl) (Nat.le_of_ble_eq_true rfl) (post' := fun zv zσ => V 4 MX2_readWindows 34 [some (vR 1 5), some (vR 4 3), some (vZ N), some (vZ i)] (zv.toList ++ [vZ i, vR 8 8]) zσ post) (c_T_opn (show zr (σ.1 4 i) from ⟨Int.le_trans (by decide) hb.1, Int.lt_of_le_of_lt hb.2 (by decide)⟩) ((show V 4 MX2_readWindows 34 [some (vR 1 5), some (vR 4 3), some (vZ N), some (vZ i)] [vZ (zopn (σ.1 4 i)), vZ i, vR 8 8] σ2 post from ?_))) (fun _ _ h => h)
        refine V_run kX2_readWindows 1 [] (show V 4 MX2_readWindows 38 [some (vR 1 5), some (vR 4 3), some (vZ N), some (vZ i)] [vZ (zopn (σ.1 4 i)), vZ i, vR 8 8] σ2 post from ?_)
        exact go _ (if_pos h1).symm
      · skip
        refine V_run kX2_readWindows 2 [1] (show (zr i ∧ zr N ∧ N ≤ i) ∧ V 4 MX2_readWindows 38 [some (vR 1 5), some (vR 4 3), some (vZ N), some (vZ i)] [vZ 1, vZ i, vR 8 8] σ2 post from ⟨(by omega), ?_⟩)
        exact go _ (if_neg (by omega)).symm
  show V 4 MX2_readWindows 0 [some (vR 1 5), some (vR 4 3), none, none] [] σ post
  refine V_run kX2_readWindows 1 [] (show V 4 MX2_readWindows 1 [some (vR 1 5), some (vR 4 3), none, none] [vR 4 3] σ post from ?_)
  refine V_callV (a := []) (rest := []) kX2_readWindows rfl oX5_whole iX5_whole lk_2_40 rfl rfl rfl (Nat.le_of_ble_eq_true rfl) (Nat.le_of_ble_eq_true rfl) (Nat.le_of_ble_eq_true rfl) (post' := fun zv zσ => V 4 MX2_readWindows 4 [some (vR 1 5), some (vR 4 3), none, none] (zv.toList ++ []) zσ post) (c_T_whole (b := 3) hT ((show V 4 MX2_readWindows 4 [some (vR 1 5), some (vR 4 3), none, none] [vZ (zwho (σ.1 3 0) (σ.1 4) (σ.1 3 2))] σ post from ?_))) (fun _ _ h => h)
  refine V_top (show zwho (σ.1 3 0) (σ.1 4) (σ.1 3 2) = N by rw [h30]; exact hN.symm) ?_
  refine V_run kX2_readWindows 3 [] (show V 4 MX2_readWindows 7 [some (vR 1 5), some (vR 4 3), some (vZ N), some (vZ 0)] [] σ post from ?_)
  exact loop 24 0 (by omega) (by omega) σ (fun _ _ => rfl) rfl (fun t a c => absurd c (by omega))
