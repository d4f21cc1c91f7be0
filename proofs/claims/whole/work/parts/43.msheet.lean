set_option maxHeartbeats 4000000 in
set_option maxRecDepth 100000 in
/-- lacks -/
theorem c_M_lacks {s f i : Int} {S : zAb} {σ : zSt} {post : Option VV → zSt → Prop} (hR : RM σ S) (ho : aOk S) (s0 : 0 ≤ s) (s1 : s < 4) (hf : zr f) (hi : zr i) (hp : post (some (vZ (zLack (a_hF S s) (a_hN S s) f i))) σ) : Mc 1 MX7_lacks [vR 6 44, vZ s, vZ f, vZ i] σ post := by
  have hs := hR.2.2.2.2.1 s s0 s1
  have hos := ho.2.2.2.2 s s0 s1
  unfold zLack at hp
  show V 1 MX7_lacks 0 [some (vR 6 44), some (vZ s), some (vZ f), some (vZ i)] [] σ post
  refine V_run kX7_lacks 4 [] (show (0 ≤ s ∧ s < 4) ∧ V 1 MX7_lacks 6 [some (vR 6 44), some (vZ s), some (vZ f), some (vZ i)] [vZ (σ.1 70 s)] σ post from ⟨(by omega), ?_⟩)
  refine V_top (hs.1) ?_
  by_cases h1 : a_hF S s = -1
  · skip
    rw [if_pos h1] at hp
    refine V_top (if_pos h1) ?_
    refine V_run kX7_lacks 3 [0] (show (zr 0 ∧ 0 = 0) ∧ V 1 MX7_lacks 48 [some (vR 6 44), some (vZ s), some (vZ f), some (vZ i)] [vZ 1] σ post from ⟨(by omega), ?_⟩)
    exact V_iret kX7_lacks rfl rfl (hp)
  · skip
    rw [if_neg h1] at hp
    have ht := hs.2 h1
    refine V_top (if_neg h1) ?_
    refine V_run kX7_lacks 5 [1] (show (zr 1 ∧ ¬ 1 = 0) ∧ (0 ≤ s ∧ s < 4) ∧ V 1 MX7_lacks 19 [some (vR 6 44), some (vZ s), some (vZ f), some (vZ i)] [vZ (σ.1 71 s)] σ post from ⟨(by omega), (by omega), ?_⟩)
    refine V_top (ht.1) ?_
    refine V_run kX7_lacks 1 [] (show V 1 MX7_lacks 20 [some (vR 6 44), some (vZ s), some (vZ f), some (vZ i)] [vZ f, vZ (a_hF S s)] σ post from ?_)
    by_cases h2 : a_hF S s = f
    rotate_left
    · skip
      rw [if_pos h2] at hp
      refine V_run kX7_lacks 3 [0] (show (zr (a_hF S s) ∧ zr f ∧ ¬ (a_hF S s) = f) ∧ V 1 MX7_lacks 48 [some (vR 6 44), some (vZ s), some (vZ f), some (vZ i)] [vZ 3] σ post from ⟨(by omega), ?_⟩)
      exact V_iret kX7_lacks rfl rfl (hp)
    rw [if_neg (fun q => q h2)] at hp
    refine V_run kX7_lacks 7 [1] (show (zr (a_hF S s) ∧ zr f ∧ (a_hF S s) = f) ∧ (0 ≤ s ∧ s < 4) ∧ V 1 MX7_lacks 35 [some (vR 6 44), some (vZ s), some (vZ f), some (vZ i)] [vZ (σ.1 72 s), vZ 0, vZ i] σ post from ⟨(by omega), (by omega), ?_⟩)
    refine V_top (ht.2.1) ?_
    refine V_run kX7_lacks 2 [] (show V 1 MX7_lacks 37 [some (vR 6 44), some (vZ s), some (vZ f), some (vZ i)] [vZ ((a_hN S s) - 1), vZ 0, vZ i] σ post from ?_)
    refine V_callS (a := [vZ i, vZ 0, vZ ((a_hN S s) - 1)]) (rest := []) kX7_lacks rfl oX7_in iX7_in lk_7_104 rfl rfl (Nat.le_of_ble_eq_true rfl) (Nat.le_of_ble_eq_true rfl) (Nat.le_of_ble_eq_true rfl) (post' := fun zv zσ => V 1 MX7_lacks 40 [some (vR 6 44), some (vZ s), some (vZ f), some (vZ i)] (zv.toList ++ []) zσ post) (c_M_in (by omega) (by omega) (by omega) ((show V 1 MX7_lacks 40 [some (vR 6 44), some (vZ s), some (vZ f), some (vZ i)] [vZ (if 0 ≤ i ∧ i ≤ a_hN S s - 1 then 1 else 0)] σ post from ?_))) (fun _ _ h => h)
    by_cases h3 : 0 ≤ i ∧ i < a_hN S s
    · skip
      rw [if_pos h3] at hp
      refine V_top (if_pos (by omega)) ?_
      refine V_run kX7_lacks 3 [0] (show (zr 1 ∧ ¬ 1 = 0) ∧ V 1 MX7_lacks 48 [some (vR 6 44), some (vZ s), some (vZ f), some (vZ i)] [vZ 0] σ post from ⟨(by omega), ?_⟩)
      exact V_iret kX7_lacks rfl rfl (hp)
    · skip
      rw [if_neg h3] at hp
      refine V_top (if_neg (by omega)) ?_
      refine V_run kX7_lacks 2 [1] (show (zr 0 ∧ 0 = 0) ∧ V 1 MX7_lacks 48 [some (vR 6 44), some (vZ s), some (vZ f), some (vZ i)] [vZ 2] σ post from ⟨(by omega), ?_⟩)
      exact V_iret kX7_lacks rfl rfl (hp)
