def aW (S : zAb) : Int → Int := fun i => if a_sW S i = 12 then -1 else a_sW S i
def aFit (S : zAb) (C : zCf) : Bool := zFit (zWho C) (a_sM S) (a_sP S) (aW S) (a_sN S).toNat
set_option maxHeartbeats 4000000 in
set_option maxRecDepth 100000 in
/-- isSeen -/
theorem c_M_isSeen {C : zCf} {S : zAb} {σ : zSt} {post : Option VV → zSt → Prop} (hR : RM σ S) (ho : aOk S) (hc : zMc σ C) (hp : ∀ σ', nFr σ σ' → zMd σ' (dDay C 24) → zRec σ' C 24 → post (some (vZ (if aFit S C = true then 1 else 0))) σ') : Mc 4 MX7_isSeen [vR 6 44] σ post := by
  have hC := zMc_C hc
  have hsn := ho.2.2.2.1
  show V 4 MX7_isSeen 0 [some (vR 6 44), none, none, none] [] σ post
  refine V_run kX7_isSeen 1 [] (show V 4 MX7_isSeen 1 [some (vR 6 44), none, none, none] [vR 6 44] σ post from ?_)
  refine V_callV (a := []) (rest := []) kX7_isSeen rfl oX7_runs iX7_runs lk_7_216 rfl rfl rfl (Nat.le_of_ble_eq_true rfl) (Nat.le_of_ble_eq_true rfl) (Nat.le_of_ble_eq_true rfl) (post' := fun zv zσ => V 4 MX7_isSeen 4 [some (vR 6 44), none, none, none] (zv.toList ++ []) zσ post) (c_M_runs hc (fun σ1 hf1 hm1 hr1 => (show V 4 MX7_isSeen 4 [some (vR 6 44), none, none, none] [] σ1 post from ?_))) (fun _ _ h => h)
  have hp := hp σ1 hf1 hm1 hr1
  have hR1 := RM_k hf1.k hR
  have e29 : σ1.1 44 29 = a_sN S := hR1.2.2.2.1.1
  have loop : ∀ (m : Nat) (i : Int), 0 ≤ i → i + m = a_sN S → (∀ j : Int, 0 ≤ j → j < i → zWho C (a_sM S j) (a_sP S j) = aW S j) → V 4 MX7_isSeen 8 [some (vR 6 44), some (vZ 1), some (vZ i), none] [] σ1 post := by
    intro m
    induction m with
    | zero =>
      intro i i0 i1 hd
      have hfit : aFit S C = true := zFit_i.mpr (fun j a c => hd j a (by omega))
      rw [if_pos hfit] at hp
      refine V_run kX7_isSeen 3 [] (show V 4 MX7_isSeen 13 [some (vR 6 44), some (vZ 1), some (vZ i), none] [vZ (σ1.1 44 29), vZ i] σ1 post from ?_)
      refine V_top (e29) ?_
      refine V_run kX7_isSeen 2 [1] (show (zr i ∧ zr (a_sN S) ∧ (a_sN S) ≤ i) ∧ V 4 MX7_isSeen 75 [some (vR 6 44), some (vZ 1), some (vZ i), none] [vZ 1] σ1 post from ⟨(by omega), ?_⟩)
      exact V_zret kX7_isSeen rfl rfl (Or.inr rfl) (hp)
    | succ m ih =>
      intro i i0 i1 hd
      have hs := hR1.2.2.2.1.2 i i0 (by omega)
      have hb := hsn.2.2 i i0 (by omega)
      have hw := ((hr1 (a_sM S i) (by omega) (by omega)).1 (a_sP S i) (by omega) (by omega)).1
      have hwr := zWho_rng hC (a_sM S i) (j := a_sP S i) (by omega)
      refine V_run kX7_isSeen 3 [] (show V 4 MX7_isSeen 13 [some (vR 6 44), some (vZ 1), some (vZ i), none] [vZ (σ1.1 44 29), vZ i] σ1 post from ?_)
      refine V_top (e29) ?_
      refine V_run kX7_isSeen 10 [0, 0] (show (zr i ∧ zr (a_sN S) ∧ i < (a_sN S)) ∧ (zr 1 ∧ ¬ 1 = 0) ∧ (0 ≤ i ∧ i < 8) ∧ V 4 MX7_isSeen 32 [some (vR 6 44), some (vZ 1), some (vZ i), none] [vZ (σ1.1 66 i), vZ 12, vR 8 61] σ1 post from ⟨(by omega), (by omega), (by omega), ?_⟩)
      refine V_top (hs.1) ?_
      refine V_run kX7_isSeen 5 [] (show (0 ≤ i ∧ i < 8) ∧ V 4 MX7_isSeen 39 [some (vR 6 44), some (vZ 1), some (vZ i), none] [vZ (σ1.1 67 i), vZ (12 * (a_sM S i)), vR 8 61] σ1 post from ⟨(by omega), ?_⟩)
      refine V_top (hs.2.1) ?_
      refine V_run kX7_isSeen 2 [] (show (0 ≤ ((12 * (a_sM S i)) + (a_sP S i)) ∧ ((12 * (a_sM S i)) + (a_sP S i)) < 288) ∧ V 4 MX7_isSeen 41 [some (vR 6 44), some (vZ 1), some (vZ i), none] [vZ (σ1.1 61 ((12 * (a_sM S i)) + (a_sP S i)))] σ1 post from ⟨(by omega), ?_⟩)
      refine V_top (hw) ?_
      refine V_run kX7_isSeen 3 [] (show V 4 MX7_isSeen 44 [some (vR 6 44), some (vZ 1), some (vZ i), some (vZ (zWho C (a_sM S i) (a_sP S i)))] [vZ (-1), vZ (zWho C (a_sM S i) (a_sP S i))] σ1 post from ?_)
      have fin : ∀ y z : Int, zr y → z = zWho C (a_sM S i) (a_sP S i) → (y = a_sW S i ↔ zWho C (a_sM S i) (a_sP S i) = aW S i) → V 4 MX7_isSeen 53 [some (vR 6 44), some (vZ 1), some (vZ i), some (vZ z)] [vZ y] σ1 post := by
        intro y z hy hz hiff
        refine V_run kX7_isSeen 4 [] (show (0 ≤ i ∧ i < 8) ∧ V 4 MX7_isSeen 59 [some (vR 6 44), some (vZ 1), some (vZ i), some (vZ z)] [vZ (σ1.1 68 i), vZ y] σ1 post from ⟨(by omega), ?_⟩)
        refine V_top (hs.2.2) ?_
        by_cases h1 : y = a_sW S i
        · skip
          refine V_run kX7_isSeen 6 [0] (show (zr y ∧ zr (a_sW S i) ∧ y = (a_sW S i)) ∧ V 4 MX7_isSeen 8 [some (vR 6 44), some (vZ 1), some (vZ (i + 1)), some (vZ z)] [] σ1 post from ⟨(by omega), ?_⟩)
          refine V_drop (L := [some (vR 6 44), some (vZ 1), some (vZ (i + 1)), none]) ⟨rfl, ⟨rfl, ⟨rfl, trivial⟩⟩⟩ ?_
          exact ih (i + 1) (by omega) (by omega) (fun j a c => if q : j = i then by rw [q]; exact hiff.mp h1 else hd j a (by omega))
        · skip
          have hfit : ¬ aFit S C = true := fun q => h1 (hiff.mpr (zFit_i.mp q i i0 (by omega)))
          rw [if_neg hfit] at hp
          refine V_run kX7_isSeen 8 [1] (show (zr y ∧ zr (a_sW S i) ∧ ¬ y = (a_sW S i)) ∧ V 4 MX7_isSeen 13 [some (vR 6 44), some (vZ 0), some (vZ (i + 1)), some (vZ z)] [vZ (σ1.1 44 29), vZ (i + 1)] σ1 post from ⟨(by omega), ?_⟩)
          refine V_top (e29) ?_
          rcases Int.lt_or_le (i + 1) (a_sN S) with h2 | h2
          · skip
            refine V_run kX7_isSeen 4 [0, 1] (show (zr (i + 1) ∧ zr (a_sN S) ∧ (i + 1) < (a_sN S)) ∧ (zr 0 ∧ 0 = 0) ∧ V 4 MX7_isSeen 75 [some (vR 6 44), some (vZ 0), some (vZ (i + 1)), some (vZ z)] [vZ 0] σ1 post from ⟨(by omega), (by omega), ?_⟩)
            exact V_zret kX7_isSeen rfl rfl (Or.inl rfl) (hp)
          · skip
            refine V_run kX7_isSeen 2 [1] (show (zr (i + 1) ∧ zr (a_sN S) ∧ (a_sN S) ≤ (i + 1)) ∧ V 4 MX7_isSeen 75 [some (vR 6 44), some (vZ 0), some (vZ (i + 1)), some (vZ z)] [vZ 0] σ1 post from ⟨(by omega), ?_⟩)
            exact V_zret kX7_isSeen rfl rfl (Or.inl rfl) (hp)
      by_cases h1 : zWho C (a_sM S i) (a_sP S i) = -1
      · skip
        refine V_run kX7_isSeen 3 [0] (show (zr (zWho C (a_sM S i) (a_sP S i)) ∧ zr (-1) ∧ (zWho C (a_sM S i) (a_sP S i)) = (-1)) ∧ V 4 MX7_isSeen 53 [some (vR 6 44), some (vZ 1), some (vZ i), some (vZ (zWho C (a_sM S i) (a_sP S i)))] [vZ 12] σ1 post from ⟨(by omega), ?_⟩)
        exact fin 12 _ (by decide) rfl (by unfold aW; split <;> omega)
      · skip
        refine V_run kX7_isSeen 2 [1] (show (zr (zWho C (a_sM S i) (a_sP S i)) ∧ zr (-1) ∧ ¬ (zWho C (a_sM S i) (a_sP S i)) = (-1)) ∧ V 4 MX7_isSeen 53 [some (vR 6 44), some (vZ 1), some (vZ i), some (vZ (zWho C (a_sM S i) (a_sP S i)))] [vZ (zWho C (a_sM S i) (a_sP S i))] σ1 post from ⟨(by omega), ?_⟩)
        exact fin _ _ (by omega) rfl (by unfold aW; split <;> omega)
  refine V_run kX7_isSeen 4 [] (show V 4 MX7_isSeen 8 [some (vR 6 44), some (vZ 1), some (vZ 0), none] [] σ1 post from ?_)
  exact loop (a_sN S).toNat 0 (by omega) (by omega) (fun j a c => by omega)
