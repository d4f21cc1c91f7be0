/-- the day without the events of x -/
def cNot (C : zCf) (x : Int) : zCf := (cn C, cE C, cCm C, cSo C, cPa C, cWi C, cKi C, cMi C, cPe C, fun e => !zbt x e)
theorem zMc_not {σ : zSt} {C : zCf} {x : Int} (h : zMc σ C) : zMc (uI σ 44 16 x) (cNot C x) := by
  obtain ⟨h1, h2, h3, h4, h5, h6, h7⟩ := h
  have e17 : (uI σ 44 16 x).1 44 17 = σ.1 44 17 := by rw [uI_at, if_neg (by decide)]
  have e18 : (uI σ 44 16 x).1 44 18 = σ.1 44 18 := by rw [uI_at, if_neg (by decide)]
  refine ⟨by rw [uI_at, if_neg (by decide)]; exact h1, by rw [uI_at, if_neg (by decide)]; exact h2, h3, fun t a b => ?_, fun e a b => ?_, ?_, h7⟩
  · rw [e17, e18]; exact h4 t a b
  · obtain ⟨q1, q2, q3, -⟩ := h5 e a b
    exact ⟨q1, q2, q3, by rw [uI_get]; rfl⟩
  · rw [e17, e18]; exact h6
def zNev (S : zAb) : Nat → Int → Int → Int
  | 0, _, b => b
  | m + 1, e, b => zNev S m (e + 1) (if aFit S (cNot (aC S) (zshl 1 e)) = true then zor b (zshl 1 e) else b)
def aNever (S : zAb) : Int := zNev S (a_eN S).toNat 0 0
set_option maxHeartbeats 4000000 in
set_option maxRecDepth 100000 in
/-- neverNow -/
theorem c_M_neverNow {S : zAb} {σ : zSt} {post : Option VV → zSt → Prop} (hR : RM σ S) (ho : aOk S) (hp : ∀ σ', mKeep σ σ' → post (some (vZ (aNever S))) σ') : Mc 7 MX7_neverNow [vR 6 44] σ post := by
  have hen := ho.2.2.1
  obtain ⟨v, hv⟩ : ∃ v : Int, v = aNever S := ⟨_, rfl⟩
  rw [← hv] at hp
  unfold aNever at hv
  show V 7 MX7_neverNow 0 [some (vR 6 44), none, none] [] σ post
  refine V_run kX7_neverNow 1 [] (show V 7 MX7_neverNow 1 [some (vR 6 44), none, none] [vR 6 44] σ post from ?_)
  refine V_callV (a := []) (rest := []) kX7_neverNow rfl oX7_asTold iX7_asTold lk_7_213 rfl rfl rfl (Nat.le_of_ble_eq_true rfl) (Nat.le_of_ble_eq_true rfl) (Nat.le_of_ble_eq_true rfl) (post' := fun zv zσ => V 7 MX7_neverNow 4 [some (vR 6 44), none, none] (zv.toList ++ []) zσ post) (c_M_asTold hR ho (fun σ1 hk1 hc1 hn1 => (show V 7 MX7_neverNow 4 [some (vR 6 44), none, none] [] σ1 post from ?_))) (fun _ _ h => h)
  have loop : ∀ (m : Nat) (i a : Int), 0 ≤ i → i + m = a_eN S → zr a → zNev S m i a = v → ∀ (C2 : zCf) (σ2 : zSt), mKeep σ σ2 → zMc σ2 C2 → (∀ y, cNot C2 y = cNot (aC S) y) → V 7 MX7_neverNow 8 [some (vR 6 44), some (vZ a), some (vZ i)] [] σ2 post := by
    intro m
    induction m with
    | zero =>
      intro i a i0 i1 hz he C2 σ2 hk hc hC2
      have hp := hp σ2 hk
      unfold zNev at he
      rw [← he] at hp
      have e8 : σ2.1 44 8 = a_eN S := (RM_k hk hR).2.2.1.1
      refine V_run kX7_neverNow 3 [] (show V 7 MX7_neverNow 13 [some (vR 6 44), some (vZ a), some (vZ i)] [vZ (σ2.1 44 8), vZ i] σ2 post from ?_)
      refine V_top (e8) ?_
      refine V_run kX7_neverNow 2 [1] (show (zr i ∧ zr (a_eN S) ∧ (a_eN S) ≤ i) ∧ V 7 MX7_neverNow 47 [some (vR 6 44), some (vZ a), some (vZ i)] [vZ a] σ2 post from ⟨(by omega), ?_⟩)
      exact V_iret kX7_neverNow rfl rfl (hp)
    | succ m ih =>
      intro i a i0 i1 hz he C2 σ2 hk hc hC2
      unfold zNev at he
      have e8 : σ2.1 44 8 = a_eN S := (RM_k hk hR).2.2.1.1
      have hc3 := zMc_not (x := zshl 1 i) hc
      rw [hC2] at hc3
      have hk3 := hk.s (j := 16) (v := zshl 1 i) (by decide)
      have hR3 := RM_k hk3 hR
      refine V_run kX7_neverNow 3 [] (show V 7 MX7_neverNow 13 [some (vR 6 44), some (vZ a), some (vZ i)] [vZ (σ2.1 44 8), vZ i] σ2 post from ?_)
      refine V_top (e8) ?_
      refine V_run kX7_neverNow 8 [0] (show (zr i ∧ zr (a_eN S) ∧ i < (a_eN S)) ∧ V 7 MX7_neverNow 25 [some (vR 6 44), some (vZ a), some (vZ i)] [vR 6 44, vZ a] (uI σ2 44 16 (zshl 1 i)) post from ⟨(by omega), ?_⟩)
      refine V_callV (a := []) (rest := [vZ a]) kX7_neverNow rfl oX7_isSeen iX7_isSeen lk_7_279 rfl rfl rfl (Nat.le_of_ble_eq_true rfl) (Nat.le_of_ble_eq_true rfl) (Nat.le_of_ble_eq_true rfl) (post' := fun zv zσ => V 7 MX7_neverNow 28 [some (vR 6 44), some (vZ a), some (vZ i)] (zv.toList ++ [vZ a]) zσ post) (c_M_isSeen hR3 ho hc3 (fun σ4 hf4 hm4 hr4 => (show V 7 MX7_neverNow 28 [some (vR 6 44), some (vZ a), some (vZ i)] [vZ (if aFit S (cNot (aC S) (zshl 1 i)) = true then 1 else 0), vZ a] σ4 post from ?_))) (fun _ _ h => h)
      have go := fun a2 hz2 h2 => ih (i + 1) a2 (by omega) (by omega) hz2 h2 _ σ4 (hk3.tr hf4.k) (zMc_nf hf4 hc3) (fun y => rfl)
      by_cases h1 : aFit S (cNot (aC S) (zshl 1 i)) = true
      · skip
        rw [if_pos h1] at he
        refine V_top (if_pos h1) ?_
        refine V_run kX7_neverNow 9 [0] (show (zr 1 ∧ ¬ 1 = 0) ∧ V 7 MX7_neverNow 8 [some (vR 6 44), some (vZ (zor a (zshl 1 i))), some (vZ (i + 1))] [] σ4 post from ⟨(by omega), ?_⟩)
        exact go _ (zor_zr _ _) he
      · skip
        rw [if_neg h1] at he
        refine V_top (if_neg h1) ?_
        refine V_run kX7_neverNow 6 [1] (show (zr 0 ∧ 0 = 0) ∧ V 7 MX7_neverNow 8 [some (vR 6 44), some (vZ (zor a 0)), some (vZ (i + 1))] [] σ4 post from ⟨(by omega), ?_⟩)
        rw [zor_0 hz]
        exact go _ hz he
  refine V_run kX7_neverNow 4 [] (show V 7 MX7_neverNow 8 [some (vR 6 44), some (vZ 0), some (vZ 0)] [] σ1 post from ?_)
  exact loop (a_eN S).toNat 0 0 (by omega) (by omega) (by decide) hv.symm (aC S) σ1 hk1 hc1 (fun _ => rfl)
set_option maxHeartbeats 4000000 in
set_option maxRecDepth 100000 in
/-- never -/
theorem c_M_never {S : zAb} {σ : zSt} {post : Option VV → zSt → Prop} (hR : RM σ S) (ho : aOk S) (hp : ∀ σ', mKeep σ σ' → post (some (vZ (aNever S))) σ') : Mc 8 MX7_never [vR 6 44] σ post := by
  show V 8 MX7_never 0 [some (vR 6 44)] [] σ post
  refine V_run kX7_never 1 [] (show V 8 MX7_never 1 [some (vR 6 44)] [vR 6 44] σ post from ?_)
  refine V_callV (a := []) (rest := []) kX7_never rfl oX7_neverNow iX7_neverNow lk_7_283 rfl rfl rfl (Nat.le_of_ble_eq_true rfl) (Nat.le_of_ble_eq_true rfl) (Nat.le_of_ble_eq_true rfl) (post' := fun zv zσ => V 8 MX7_never 4 [some (vR 6 44)] (zv.toList ++ []) zσ post) (c_M_neverNow hR ho (fun σ1 hk1 => (show V 8 MX7_never 4 [some (vR 6 44)] [vZ (aNever S)] σ1 post from ?_))) (fun _ _ h => h)
  exact V_iret kX7_never rfl rfl (hp σ1 hk1)
