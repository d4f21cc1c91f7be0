/-- a number cut to a form -/
def zCut (f v : Int) : Int := if f = 0 then zi2b v else if f = 1 then zi2s v else v
/-- what one finds who takes a row for one of a form and asks for an item -/
def zLack (F n f i : Int) : Int := if F = -1 then 1 else if ¬ F = f then 3 else if 0 ≤ i ∧ i < n then 0 else 2
def zHas (n fr k : Int) : Int := if 0 ≤ fr ∧ 0 ≤ k ∧ k ≤ n - fr then 1 else 0
set_option maxHeartbeats 4000000 in
set_option maxRecDepth 100000 in
/-- Sheet.isLost -/
theorem c_S_isLost {b : Nat} {σ : zSt} {post : Option VV → zSt → Prop} (hr : zr (σ.1 b 1)) (hp : post (some (vZ (if σ.1 b 1 = -1 then 1 else 0))) σ) : Mc 0 MX3_isLost [vR 2 b] σ post := by
  show V 0 MX3_isLost 0 [some (vR 2 b)] [] σ post
  refine V_run kX3_isLost 3 [] (show V 0 MX3_isLost 5 [some (vR 2 b)] [vZ (-1), vZ (σ.1 b 1)] σ post from ?_)
  by_cases h1 : σ.1 b 1 = -1
  · skip
    rw [if_pos h1] at hp
    refine V_run kX3_isLost 3 [0] (show (zr (σ.1 b 1) ∧ zr (-1) ∧ (σ.1 b 1) = (-1)) ∧ V 0 MX3_isLost 13 [some (vR 2 b)] [vZ 1] σ post from ⟨(by omega), ?_⟩)
    exact V_zret kX3_isLost rfl rfl (Or.inr rfl) (hp)
  · skip
    rw [if_neg h1] at hp
    refine V_run kX3_isLost 2 [1] (show (zr (σ.1 b 1) ∧ zr (-1) ∧ ¬ (σ.1 b 1) = (-1)) ∧ V 0 MX3_isLost 13 [some (vR 2 b)] [vZ 0] σ post from ⟨(by omega), ?_⟩)
    exact V_zret kX3_isLost rfl rfl (Or.inl rfl) (hp)
set_option maxHeartbeats 4000000 in
set_option maxRecDepth 100000 in
/-- Sheet.form -/
theorem c_S_form {b : Nat} {σ : zSt} {post : Option VV → zSt → Prop} (hp : post (some (vZ (σ.1 b 1))) σ) : Mc 0 MX3_form [vR 2 b] σ post := by
  show V 0 MX3_form 0 [some (vR 2 b)] [] σ post
  refine V_run kX3_form 2 [] (show V 0 MX3_form 4 [some (vR 2 b)] [vZ (σ.1 b 1)] σ post from ?_)
  exact V_iret kX3_form rfl rfl (hp)
set_option maxHeartbeats 4000000 in
set_option maxRecDepth 100000 in
/-- Sheet.size -/
theorem c_S_size {b : Nat} {σ : zSt} {post : Option VV → zSt → Prop} (hp : post (some (vZ (σ.1 b 2))) σ) : Mc 0 MX3_size [vR 2 b] σ post := by
  show V 0 MX3_size 0 [some (vR 2 b)] [] σ post
  refine V_run kX3_size 2 [] (show V 0 MX3_size 4 [some (vR 2 b)] [vZ (σ.1 b 2)] σ post from ?_)
  exact V_iret kX3_size rfl rfl (hp)
set_option maxHeartbeats 4000000 in
set_option maxRecDepth 100000 in
/-- Sheet.renew -/
theorem c_S_renew {b : Nat} {f n : Int} {σ : zSt} {post : Option VV → zSt → Prop} (hz : zlen (b + 1) = 60) (h0 : 0 ≤ n) (h : n ≤ 60) (hp : post none (fZero (uI (uI σ b 1 f) b 2 n) (b + 1) 60)) : Mc 1 MX3_renew [vR 2 b, vZ f, vZ n] σ post := by
  show V 1 MX3_renew 0 [some (vR 2 b), some (vZ f), some (vZ n), none] [] σ post
  refine V_run kX3_renew 7 [] (show V 1 MX3_renew 10 [some (vR 2 b), some (vZ f), some (vZ n), none] [vZ 60, vZ n, vZ 0, vR 2 b] (uI σ b 1 f) post from ?_)
  refine V_min kX3_renew rfl lk_3_22 (by decide) (Nat.le_of_ble_eq_true rfl) (by omega) (by decide) (show V 1 MX3_renew 13 [some (vR 2 b), some (vZ f), some (vZ n), none] [vZ (if (60 : Int) < n then 60 else n), vZ 0, vR 2 b] (uI σ b 1 f) post from ?_)
  refine V_top (by rw [if_neg (by omega)]) ?_
  refine V_max kX3_renew rfl lk_3_28 (by decide) (Nat.le_of_ble_eq_true rfl) (by decide) (by omega) (show V 1 MX3_renew 16 [some (vR 2 b), some (vZ f), some (vZ n), none] [vZ (if (0 : Int) < n then n else 0), vR 2 b] (uI σ b 1 f) post from ?_)
  refine V_top (show (if (0 : Int) < n then n else 0) = n by split <;> omega) ?_
  refine V_run kX3_renew 3 [] (show V 1 MX3_renew 21 [some (vR 2 b), some (vZ f), some (vZ n), some (vZ 0)] [] (uI (uI σ b 1 f) b 2 n) post from ?_)
  have loop : ∀ (m : Nat) (k : Int), 0 ≤ k → k + m = 60 → V 1 MX3_renew 21 [some (vR 2 b), some (vZ f), some (vZ n), some (vZ k)] [] (fZero (uI (uI σ b 1 f) b 2 n) (b + 1) k) post := by
    intro m
    induction m with
    | zero =>
      intro k k0 k1
      have hk : k = 60 := by omega
      subst hk
      refine V_run kX3_renew 4 [] (show V 1 MX3_renew 27 [some (vR 2 b), some (vZ f), some (vZ n), some (vZ 60)] [vZ (zlen (b + 1)), vZ 60] (fZero (uI (uI σ b 1 f) b 2 n) (b + 1) 60) post from ?_)
      rw [hz]
      show V 1 MX3_renew 27 [some (vR 2 b), some (vZ f), some (vZ n), some (vZ 60)] [vZ 60, vZ 60] (fZero (uI (uI σ b 1 f) b 2 n) (b + 1) 60) post
      refine V_run kX3_renew 1 [1] (show (zr 60 ∧ zr 60 ∧ 60 ≤ 60) ∧ V 1 MX3_renew 43 [some (vR 2 b), some (vZ f), some (vZ n), some (vZ 60)] [] (fZero (uI (uI σ b 1 f) b 2 n) (b + 1) 60) post from ⟨(by omega), ?_⟩)
      exact V_vret kX3_renew rfl rfl (hp)
    | succ m ih =>
      intro k k0 k1
      refine V_run kX3_renew 4 [] (show V 1 MX3_renew 27 [some (vR 2 b), some (vZ f), some (vZ n), some (vZ k)] [vZ (zlen (b + 1)), vZ k] (fZero (uI (uI σ b 1 f) b 2 n) (b + 1) k) post from ?_)
      rw [hz]
      show V 1 MX3_renew 27 [some (vR 2 b), some (vZ f), some (vZ n), some (vZ k)] [vZ 60, vZ k] (fZero (uI (uI σ b 1 f) b 2 n) (b + 1) k) post
      refine V_run kX3_renew 8 [0] (show (zr k ∧ zr 60 ∧ k < 60) ∧ (0 ≤ k ∧ k < (zlen (b + 1))) ∧ V 1 MX3_renew 21 [some (vR 2 b), some (vZ f), some (vZ n), some (vZ (k + 1))] [] (uI (fZero (uI (uI σ b 1 f) b 2 n) (b + 1) k) (b + 1) k 0) post from ⟨(by omega), (by omega), ?_⟩)
      rw [fZero_s k0]
      exact ih (k + 1) (by omega) (by omega)
  have h9 := loop 60 0 (by omega) (by omega)
  rw [fZero_0] at h9
  exact h9
set_option maxHeartbeats 4000000 in
set_option maxRecDepth 100000 in
/-- Sheet.beLost -/
theorem c_S_beLost {b : Nat} {σ : zSt} {post : Option VV → zSt → Prop} (hp : post none (uI (uI σ b 1 (-1)) b 2 0)) : Mc 0 MX3_beLost [vR 2 b] σ post := by
  show V 0 MX3_beLost 0 [some (vR 2 b)] [] σ post
  refine V_run kX3_beLost 6 [] (show V 0 MX3_beLost 10 [some (vR 2 b)] [] (uI (uI σ b 1 (-1)) b 2 0) post from ?_)
  exact V_vret kX3_beLost rfl rfl (hp)
set_option maxHeartbeats 4000000 in
set_option maxRecDepth 100000 in
/-- Sheet.findingAt -/
theorem c_S_findingAt {b : Nat} {f i : Int} {σ : zSt} {post : Option VV → zSt → Prop} (hr : zr (σ.1 b 1)) (hs : 0 ≤ σ.1 b 2 ∧ σ.1 b 2 ≤ 60) (hf : zr f) (hi : zr i) (hp : post (some (vZ (zLack (σ.1 b 1) (σ.1 b 2) f i))) σ) : Mc 1 MX3_findingAt [vR 2 b, vZ f, vZ i] σ post := by
  unfold zLack at hp
  show V 1 MX3_findingAt 0 [some (vR 2 b), some (vZ f), some (vZ i)] [] σ post
  refine V_run kX3_findingAt 1 [] (show V 1 MX3_findingAt 1 [some (vR 2 b), some (vZ f), some (vZ i)] [vR 2 b] σ post from ?_)
  refine V_callV (a := []) (rest := []) kX3_findingAt rfl oX3_isLost iX3_isLost lk_3_31 rfl rfl rfl (Nat.le_of_ble_eq_true rfl) (Nat.le_of_ble_eq_true rfl) (Nat.le_of_ble_eq_true rfl) (post' := fun zv zσ => V 1 MX3_findingAt 4 [some (vR 2 b), some (vZ f), some (vZ i)] (zv.toList ++ []) zσ post) (c_S_isLost hr ((show V 1 MX3_findingAt 4 [some (vR 2 b), some (vZ f), some (vZ i)] [vZ (if σ.1 b 1 = -1 then 1 else 0)] σ post from ?_))) (fun _ _ h => h)
  by_cases h1 : σ.1 b 1 = -1
  · skip
    rw [if_pos h1] at hp
    refine V_top (if_pos h1) ?_
    refine V_run kX3_findingAt 2 [0] (show (zr 1 ∧ ¬ 1 = 0) ∧ V 1 MX3_findingAt 8 [some (vR 2 b), some (vZ f), some (vZ i)] [vZ 1] σ post from ⟨(by omega), ?_⟩)
    exact V_iret kX3_findingAt rfl rfl (hp)
  · skip
    rw [if_neg h1] at hp
    refine V_top (if_neg h1) ?_
    refine V_run kX3_findingAt 4 [1] (show (zr 0 ∧ 0 = 0) ∧ V 1 MX3_findingAt 14 [some (vR 2 b), some (vZ f), some (vZ i)] [vZ f, vZ (σ.1 b 1)] σ post from ⟨(by omega), ?_⟩)
    by_cases h2 : σ.1 b 1 = f
    · skip
      rw [if_neg (fun q => q h2)] at hp
      refine V_run kX3_findingAt 2 [1] (show (zr (σ.1 b 1) ∧ zr f ∧ (σ.1 b 1) = f) ∧ V 1 MX3_findingAt 20 [some (vR 2 b), some (vZ f), some (vZ i)] [vZ i] σ post from ⟨(by omega), ?_⟩)
      rcases Int.lt_or_le i 0 with h3 | h3
      · skip
        rw [if_neg (by omega)] at hp
        refine V_run kX3_findingAt 3 [1] (show (zr i ∧ i < 0) ∧ V 1 MX3_findingAt 36 [some (vR 2 b), some (vZ f), some (vZ i)] [vZ 2] σ post from ⟨(by omega), ?_⟩)
        exact V_iret kX3_findingAt rfl rfl (hp)
      · skip
        refine V_run kX3_findingAt 4 [0] (show (zr i ∧ 0 ≤ i) ∧ V 1 MX3_findingAt 28 [some (vR 2 b), some (vZ f), some (vZ i)] [vZ (σ.1 b 2), vZ i] σ post from ⟨(by omega), ?_⟩)
        rcases Int.lt_or_le i (σ.1 b 2) with h4 | h4
        · skip
          rw [if_pos ⟨h3, h4⟩] at hp
          refine V_run kX3_findingAt 2 [1] (show (zr i ∧ zr (σ.1 b 2) ∧ i < (σ.1 b 2)) ∧ V 1 MX3_findingAt 36 [some (vR 2 b), some (vZ f), some (vZ i)] [vZ 0] σ post from ⟨(by omega), ?_⟩)
          exact V_iret kX3_findingAt rfl rfl (hp)
        · skip
          rw [if_neg (by omega)] at hp
          refine V_run kX3_findingAt 3 [0] (show (zr i ∧ zr (σ.1 b 2) ∧ (σ.1 b 2) ≤ i) ∧ V 1 MX3_findingAt 36 [some (vR 2 b), some (vZ f), some (vZ i)] [vZ 2] σ post from ⟨(by omega), ?_⟩)
          exact V_iret kX3_findingAt rfl rfl (hp)
    · skip
      rw [if_pos h2] at hp
      refine V_run kX3_findingAt 2 [0] (show (zr (σ.1 b 1) ∧ zr f ∧ ¬ (σ.1 b 1) = f) ∧ V 1 MX3_findingAt 18 [some (vR 2 b), some (vZ f), some (vZ i)] [vZ 3] σ post from ⟨(by omega), ?_⟩)
      exact V_iret kX3_findingAt rfl rfl (hp)
set_option maxHeartbeats 4000000 in
set_option maxRecDepth 100000 in
/-- Sheet.item -/
theorem c_S_item {b : Nat} {i : Int} {σ : zSt} {post : Option VV → zSt → Prop} (hz : zlen (b + 1) = 60) (hs : 0 ≤ σ.1 b 2 ∧ σ.1 b 2 ≤ 60) (h0 : 0 ≤ i) (h : i < σ.1 b 2) (hp : post (some (vZ (σ.1 (b + 1) i))) σ) : Mc 0 MX3_item [vR 2 b, vZ i] σ post := by
  show V 0 MX3_item 0 [some (vR 2 b), some (vZ i)] [] σ post
  refine V_run kX3_item 10 [0, 0] (show (zr i ∧ 0 ≤ i) ∧ (zr i ∧ zr (σ.1 b 2) ∧ i < (σ.1 b 2)) ∧ V 0 MX3_item 18 [some (vR 2 b), some (vZ i)] [vZ (zlen (b + 1)), vZ i] σ post from ⟨(by omega), (by omega), ?_⟩)
  rw [hz]
  show V 0 MX3_item 18 [some (vR 2 b), some (vZ i)] [vZ 60, vZ i] σ post
  refine V_run kX3_item 6 [0] (show (zr i ∧ zr 60 ∧ i < 60) ∧ (0 ≤ i ∧ i < (zlen (b + 1))) ∧ V 0 MX3_item 31 [some (vR 2 b), some (vZ i)] [vZ (σ.1 (b + 1) i)] σ post from ⟨(by omega), (by omega), ?_⟩)
  exact V_iret kX3_item rfl rfl (hp)
set_option maxHeartbeats 4000000 in
set_option maxRecDepth 100000 in
/-- Sheet.cut -/
theorem c_S_cut {b : Nat} {v : Int} {σ : zSt} {post : Option VV → zSt → Prop} (hr : zr (σ.1 b 1)) (hp : post (some (vZ (zCut (σ.1 b 1) v))) σ) : Mc 0 MX3_cut [vR 2 b, vZ v] σ post := by
  unfold zCut at hp
  show V 0 MX3_cut 0 [some (vR 2 b), some (vZ v)] [] σ post
  refine V_run kX3_cut 2 [] (show V 0 MX3_cut 4 [some (vR 2 b), some (vZ v)] [vZ (σ.1 b 1)] σ post from ?_)
  by_cases h1 : σ.1 b 1 = 0
  · skip
    rw [if_pos h1] at hp
    refine V_run kX3_cut 3 [0] (show (zr (σ.1 b 1) ∧ (σ.1 b 1) = 0) ∧ V 0 MX3_cut 9 [some (vR 2 b), some (vZ v)] [vZ (zi2b v)] σ post from ⟨(by omega), ?_⟩)
    exact V_iret kX3_cut rfl rfl (hp)
  · skip
    rw [if_neg h1] at hp
    refine V_run kX3_cut 4 [1] (show (zr (σ.1 b 1) ∧ ¬ (σ.1 b 1) = 0) ∧ V 0 MX3_cut 15 [some (vR 2 b), some (vZ v)] [vZ 1, vZ (σ.1 b 1)] σ post from ⟨(by omega), ?_⟩)
    by_cases h2 : σ.1 b 1 = 1
    · skip
      rw [if_pos h2] at hp
      refine V_run kX3_cut 4 [0] (show (zr (σ.1 b 1) ∧ zr 1 ∧ (σ.1 b 1) = 1) ∧ V 0 MX3_cut 24 [some (vR 2 b), some (vZ v)] [vZ (zi2s v)] σ post from ⟨(by omega), ?_⟩)
      exact V_iret kX3_cut rfl rfl (hp)
    · skip
      rw [if_neg h2] at hp
      refine V_run kX3_cut 2 [1] (show (zr (σ.1 b 1) ∧ zr 1 ∧ ¬ (σ.1 b 1) = 1) ∧ V 0 MX3_cut 24 [some (vR 2 b), some (vZ v)] [vZ v] σ post from ⟨(by omega), ?_⟩)
      exact V_iret kX3_cut rfl rfl (hp)
set_option maxHeartbeats 4000000 in
set_option maxRecDepth 100000 in
/-- Sheet.setItem -/
theorem c_S_setItem {b : Nat} {i v : Int} {σ : zSt} {post : Option VV → zSt → Prop} (hr : zr (σ.1 b 1)) (hz : zlen (b + 1) = 60) (hs : 0 ≤ σ.1 b 2 ∧ σ.1 b 2 ≤ 60) (h0 : 0 ≤ i) (h : i < σ.1 b 2) (hp : post none (uI σ (b + 1) i (zCut (σ.1 b 1) v))) : Mc 1 MX3_setItem [vR 2 b, vZ i, vZ v] σ post := by
  show V 1 MX3_setItem 0 [some (vR 2 b), some (vZ i), some (vZ v)] [] σ post
  refine V_run kX3_setItem 10 [0, 0] (show (zr i ∧ 0 ≤ i) ∧ (zr i ∧ zr (σ.1 b 2) ∧ i < (σ.1 b 2)) ∧ V 1 MX3_setItem 18 [some (vR 2 b), some (vZ i), some (vZ v)] [vZ (zlen (b + 1)), vZ i] σ post from ⟨(by omega), (by omega), ?_⟩)
  rw [hz]
  show V 1 MX3_setItem 18 [some (vR 2 b), some (vZ i), some (vZ v)] [vZ 60, vZ i] σ post
  refine V_run kX3_setItem 6 [0] (show (zr i ∧ zr 60 ∧ i < 60) ∧ V 1 MX3_setItem 28 [some (vR 2 b), some (vZ i), some (vZ v)] [vZ v, vR 2 b, vZ i, vR 8 (b + 1)] σ post from ⟨(by omega), ?_⟩)
  refine V_callV (a := [vZ v]) (rest := [vZ i, vR 8 (b + 1)]) kX3_setItem rfl oX3_cut iX3_cut lk_3_35 rfl rfl rfl (Nat.le_of_ble_eq_true rfl) (Nat.le_of_ble_eq_true rfl) (Nat.le_of_ble_eq_true rfl) (post' := fun zv zσ => V 1 MX3_setItem 31 [some (vR 2 b), some (vZ i), some (vZ v)] (zv.toList ++ [vZ i, vR 8 (b + 1)]) zσ post) (c_S_cut hr ((show V 1 MX3_setItem 31 [some (vR 2 b), some (vZ i), some (vZ v)] [vZ (zCut (σ.1 b 1) v), vZ i, vR 8 (b + 1)] σ post from ?_))) (fun _ _ h => h)
  refine V_run kX3_setItem 1 [] (show (0 ≤ i ∧ i < (zlen (b + 1))) ∧ V 1 MX3_setItem 32 [some (vR 2 b), some (vZ i), some (vZ v)] [] (uI σ (b + 1) i (zCut (σ.1 b 1) v)) post from ⟨(by omega), ?_⟩)
  exact V_vret kX3_setItem rfl rfl (hp)
set_option maxHeartbeats 4000000 in
set_option maxRecDepth 100000 in
/-- Sheet.hasItems -/
theorem c_S_hasItems {b : Nat} {i n : Int} {σ : zSt} {post : Option VV → zSt → Prop} (hs : 0 ≤ σ.1 b 2 ∧ σ.1 b 2 ≤ 60) (hi : zr i) (hn : zr n) (hp : post (some (vZ (zHas (σ.1 b 2) i n))) σ) : Mc 0 MX3_hasItems [vR 2 b, vZ i, vZ n] σ post := by
  unfold zHas at hp
  show V 0 MX3_hasItems 0 [some (vR 2 b), some (vZ i), some (vZ n)] [] σ post
  refine V_run kX3_hasItems 1 [] (show V 0 MX3_hasItems 1 [some (vR 2 b), some (vZ i), some (vZ n)] [vZ i] σ post from ?_)
  rcases Int.lt_or_le i 0 with h1 | h1
  · skip
    rw [if_neg (by omega)] at hp
    refine V_run kX3_hasItems 2 [1] (show (zr i ∧ i < 0) ∧ V 0 MX3_hasItems 23 [some (vR 2 b), some (vZ i), some (vZ n)] [vZ 0] σ post from ⟨(by omega), ?_⟩)
    exact V_zret kX3_hasItems rfl rfl (by decide) (hp)
  · skip
    refine V_run kX3_hasItems 2 [0] (show (zr i ∧ 0 ≤ i) ∧ V 0 MX3_hasItems 5 [some (vR 2 b), some (vZ i), some (vZ n)] [vZ n] σ post from ⟨(by omega), ?_⟩)
    rcases Int.lt_or_le n 0 with h2 | h2
    · skip
      rw [if_neg (by omega)] at hp
      refine V_run kX3_hasItems 2 [1] (show (zr n ∧ n < 0) ∧ V 0 MX3_hasItems 23 [some (vR 2 b), some (vZ i), some (vZ n)] [vZ 0] σ post from ⟨(by omega), ?_⟩)
      exact V_zret kX3_hasItems rfl rfl (by decide) (hp)
    · skip
      refine V_run kX3_hasItems 6 [0] (show (zr n ∧ 0 ≤ n) ∧ V 0 MX3_hasItems 15 [some (vR 2 b), some (vZ i), some (vZ n)] [vZ ((σ.1 b 2) - i), vZ n] σ post from ⟨(by omega), ?_⟩)
      rcases Int.lt_or_le (σ.1 b 2 - i) n with h3 | h3
      · skip
        rw [if_neg (by omega)] at hp
        refine V_run kX3_hasItems 2 [1] (show (zr n ∧ zr ((σ.1 b 2) - i) ∧ ((σ.1 b 2) - i) < n) ∧ V 0 MX3_hasItems 23 [some (vR 2 b), some (vZ i), some (vZ n)] [vZ 0] σ post from ⟨(by omega), ?_⟩)
        exact V_zret kX3_hasItems rfl rfl (by decide) (hp)
      · skip
        rw [if_pos (by omega)] at hp
        refine V_run kX3_hasItems 3 [0] (show (zr n ∧ zr ((σ.1 b 2) - i) ∧ n ≤ ((σ.1 b 2) - i)) ∧ V 0 MX3_hasItems 23 [some (vR 2 b), some (vZ i), some (vZ n)] [vZ 1] σ post from ⟨(by omega), ?_⟩)
        exact V_zret kX3_hasItems rfl rfl (Or.inr rfl) (hp)
set_option maxHeartbeats 4000000 in
set_option maxRecDepth 100000 in
/-- Sheet.takeItems -/
theorem c_S_takeItems {a b : Nat} {i j n : Int} {σ : zSt} {post : Option VV → zSt → Prop} (hz : zlen (b + 1) = 60) (hs : 0 ≤ σ.1 b 2 ∧ σ.1 b 2 ≤ 60) (hz2 : zlen (a + 1) = 60) (hs2 : 0 ≤ σ.1 a 2 ∧ σ.1 a 2 ≤ 60) (h1 : 0 ≤ i) (h2 : 0 ≤ j) (h3 : 0 ≤ n) (h4 : n ≤ σ.1 b 2 - i) (h5 : n ≤ σ.1 a 2 - j) (hp : post none (cpI σ (a + 1) j (b + 1) i n)) : Mc 1 MX3_takeItems [vR 2 b, vZ i, vR 2 a, vZ j, vZ n] σ post := by
  show V 1 MX3_takeItems 0 [some (vR 2 b), some (vZ i), some (vR 2 a), some (vZ j), some (vZ n)] [] σ post
  refine V_run kX3_takeItems 3 [] (show V 1 MX3_takeItems 4 [some (vR 2 b), some (vZ i), some (vR 2 a), some (vZ j), some (vZ n)] [vZ n, vZ i, vR 2 b] σ post from ?_)
  refine V_callV (a := [vZ i, vZ n]) (rest := []) kX3_takeItems rfl oX3_hasItems iX3_hasItems lk_3_39 rfl rfl rfl (Nat.le_of_ble_eq_true rfl) (Nat.le_of_ble_eq_true rfl) (Nat.le_of_ble_eq_true rfl) (post' := fun zv zσ => V 1 MX3_takeItems 7 [some (vR 2 b), some (vZ i), some (vR 2 a), some (vZ j), some (vZ n)] (zv.toList ++ []) zσ post) (c_S_hasItems hs (by omega) (by omega) ((show V 1 MX3_takeItems 7 [some (vR 2 b), some (vZ i), some (vR 2 a), some (vZ j), some (vZ n)] [vZ (zHas (σ.1 b 2) i n)] σ post from ?_))) (fun _ _ h => h)
  refine V_top (by unfold zHas; rw [if_pos (by omega)]) ?_
  refine V_run kX3_takeItems 4 [0] (show (zr 1 ∧ ¬ 1 = 0) ∧ V 1 MX3_takeItems 14 [some (vR 2 b), some (vZ i), some (vR 2 a), some (vZ j), some (vZ n)] [vZ n, vZ j, vR 2 a] σ post from ⟨(by omega), ?_⟩)
  refine V_callV (a := [vZ j, vZ n]) (rest := []) kX3_takeItems rfl oX3_hasItems iX3_hasItems lk_3_39 rfl rfl rfl (Nat.le_of_ble_eq_true rfl) (Nat.le_of_ble_eq_true rfl) (Nat.le_of_ble_eq_true rfl) (post' := fun zv zσ => V 1 MX3_takeItems 17 [some (vR 2 b), some (vZ i), some (vR 2 a), some (vZ j), some (vZ n)] (zv.toList ++ []) zσ post) (c_S_hasItems hs2 (by omega) (by omega) ((show V 1 MX3_takeItems 17 [some (vR 2 b), some (vZ i), some (vR 2 a), some (vZ j), some (vZ n)] [vZ (zHas (σ.1 a 2) j n)] σ post from ?_))) (fun _ _ h => h)
  refine V_top (by unfold zHas; rw [if_pos (by omega)]) ?_
  refine V_run kX3_takeItems 8 [0] (show (zr 1 ∧ ¬ 1 = 0) ∧ V 1 MX3_takeItems 32 [some (vR 2 b), some (vZ i), some (vR 2 a), some (vZ j), some (vZ n)] [vZ n, vZ i, vR 8 (b + 1), vZ j, vR 8 (a + 1)] σ post from ⟨(by omega), ?_⟩)
  refine V_copy kX3_takeItems rfl lk_3_43 (by decide) rfl (by omega) (by omega) (by omega) (by omega) (by omega) (show V 1 MX3_takeItems 35 [some (vR 2 b), some (vZ i), some (vR 2 a), some (vZ j), some (vZ n)] [] (cpI σ (a + 1) j (b + 1) i n) post from ?_)
  exact V_vret kX3_takeItems rfl rfl (hp)
set_option maxHeartbeats 4000000 in
set_option maxRecDepth 100000 in
/-- Sightings.size -/
theorem c_G_size {b : Nat} {σ : zSt} {post : Option VV → zSt → Prop} (hp : post (some (vZ (σ.1 b 3))) σ) : Mc 0 MX4_size [vR 3 b] σ post := by
  show V 0 MX4_size 0 [some (vR 3 b)] [] σ post
  refine V_run kX4_size 2 [] (show V 0 MX4_size 4 [some (vR 3 b)] [vZ (σ.1 b 3)] σ post from ?_)
  exact V_iret kX4_size rfl rfl (hp)
set_option maxHeartbeats 4000000 in
set_option maxRecDepth 100000 in
/-- Sightings.clear -/
theorem c_G_clear {b : Nat} {σ : zSt} {post : Option VV → zSt → Prop} (hp : post none (uI σ b 3 0)) : Mc 0 MX4_clear [vR 3 b] σ post := by
  show V 0 MX4_clear 0 [some (vR 3 b)] [] σ post
  refine V_run kX4_clear 3 [] (show V 0 MX4_clear 5 [some (vR 3 b)] [] (uI σ b 3 0) post from ?_)
  exact V_vret kX4_clear rfl rfl (hp)
def sSee (σ : zSt) (b : Nat) (t p k : Int) : zSt := uI (uI (uI (uI σ (b + 1) (σ.1 b 3) t) (b + 2) (σ.1 b 3) p) (b + 3) (σ.1 b 3) (if k = 12 then -1 else k)) b 3 (σ.1 b 3 + 1)
/-- whether the first n that were seen fit -/
def zFit (f : Int → Int → Int) (m p k : Int → Int) : Nat → Bool
  | 0 => true
  | n + 1 => zFit f m p k n && decide (f (m n) (p n) = k n)
theorem zFit_i {f : Int → Int → Int} {m p k : Int → Int} : ∀ {n : Nat}, zFit f m p k n = true ↔ ∀ i : Int, 0 ≤ i → i < n → f (m i) (p i) = k i
  | 0 => ⟨fun _ i a b => by omega, fun _ => rfl⟩
  | n + 1 => by
    unfold zFit
    rw [Bool.and_eq_true, decide_eq_true_iff, zFit_i]
    constructor
    · intro h i a b
      by_cases hi : i = n
      · rw [hi]; exact h.2
      · exact h.1 i a (by omega)
    · intro h
      exact ⟨fun i a b => h i a (by omega), h n (by omega) (by omega)⟩
set_option maxHeartbeats 4000000 in
set_option maxRecDepth 100000 in
/-- Sightings.add -/
theorem c_G_add {b : Nat} {t p k : Int} {σ : zSt} {post : Option VV → zSt → Prop} (z1 : zlen (b + 1) = 8) (z2 : zlen (b + 2) = 8) (z3 : zlen (b + 3) = 8) (h0 : 0 ≤ σ.1 b 3) (h1 : σ.1 b 3 ≤ 8) (hk : zr k) (hf : 8 ≤ σ.1 b 3 → post (some (vZ 0)) σ) (hp : σ.1 b 3 < 8 → post (some (vZ 1)) (sSee σ b t p k)) : Mc 0 MX4_add [vR 3 b, vZ t, vZ p, vZ k] σ post := by
  have e1 : (uI σ (b + 1) (σ.1 b 3) t).1 b 3 = σ.1 b 3 := by rw [uI_ne (by omega)]
  have e2 : (uI (uI σ (b + 1) (σ.1 b 3) t) (b + 2) (σ.1 b 3) p).1 b 3 = σ.1 b 3 := by rw [uI_ne (by omega)]; exact e1
  have e3 : ∀ v : Int, (uI (uI (uI σ (b + 1) (σ.1 b 3) t) (b + 2) (σ.1 b 3) p) (b + 3) (σ.1 b 3) v).1 b 3 = σ.1 b 3 := fun v => by rw [uI_ne (by omega)]; exact e2
  show V 0 MX4_add 0 [some (vR 3 b), some (vZ t), some (vZ p), some (vZ k)] [] σ post
  refine V_run kX4_add 8 [0] (show (zr (σ.1 b 3) ∧ 0 ≤ (σ.1 b 3)) ∧ V 0 MX4_add 16 [some (vR 3 b), some (vZ t), some (vZ p), some (vZ k)] [vZ (zlen (b + 1)), vZ (σ.1 b 3)] σ post from ⟨(by omega), ?_⟩)
  rw [z1]
  show V 0 MX4_add 16 [some (vR 3 b), some (vZ t), some (vZ p), some (vZ k)] [vZ 8, vZ (σ.1 b 3)] σ post
  rcases Int.lt_or_le (σ.1 b 3) 8 with h8 | h8
  · skip
    refine V_run kX4_add 6 [0] (show (zr (σ.1 b 3) ∧ zr 8 ∧ (σ.1 b 3) < 8) ∧ V 0 MX4_add 28 [some (vR 3 b), some (vZ t), some (vZ p), some (vZ k)] [vZ (zlen (b + 2)), vZ (σ.1 b 3)] σ post from ⟨(by omega), ?_⟩)
    rw [z2]
    show V 0 MX4_add 28 [some (vR 3 b), some (vZ t), some (vZ p), some (vZ k)] [vZ 8, vZ (σ.1 b 3)] σ post
    refine V_run kX4_add 6 [0] (show (zr (σ.1 b 3) ∧ zr 8 ∧ (σ.1 b 3) < 8) ∧ V 0 MX4_add 40 [some (vR 3 b), some (vZ t), some (vZ p), some (vZ k)] [vZ (zlen (b + 3)), vZ (σ.1 b 3)] σ post from ⟨(by omega), ?_⟩)
    rw [z3]
    show V 0 MX4_add 40 [some (vR 3 b), some (vZ t), some (vZ p), some (vZ k)] [vZ 8, vZ (σ.1 b 3)] σ post
    refine V_run kX4_add 11 [1] (show (zr (σ.1 b 3) ∧ zr 8 ∧ (σ.1 b 3) < 8) ∧ (0 ≤ (σ.1 b 3) ∧ (σ.1 b 3) < (zlen (b + 1))) ∧ V 0 MX4_add 63 [some (vR 3 b), some (vZ t), some (vZ p), some (vZ k)] [vZ ((uI σ (b + 1) (σ.1 b 3) t).1 b 3), vR 8 (b + 2)] (uI σ (b + 1) (σ.1 b 3) t) post from ⟨(by omega), (by omega), ?_⟩)
    refine V_top (e1) ?_
    refine V_run kX4_add 6 [] (show (0 ≤ (σ.1 b 3) ∧ (σ.1 b 3) < (zlen (b + 2))) ∧ V 0 MX4_add 73 [some (vR 3 b), some (vZ t), some (vZ p), some (vZ k)] [vZ ((uI (uI σ (b + 1) (σ.1 b 3) t) (b + 2) (σ.1 b 3) p).1 b 3), vR 8 (b + 3)] (uI (uI σ (b + 1) (σ.1 b 3) t) (b + 2) (σ.1 b 3) p) post from ⟨(by omega), ?_⟩)
    refine V_top (e2) ?_
    refine V_run kX4_add 2 [] (show V 0 MX4_add 76 [some (vR 3 b), some (vZ t), some (vZ p), some (vZ k)] [vZ 12, vZ k, vZ (σ.1 b 3), vR 8 (b + 3)] (uI (uI σ (b + 1) (σ.1 b 3) t) (b + 2) (σ.1 b 3) p) post from ?_)
    by_cases hk : k = 12
    · skip
      refine V_run kX4_add 3 [0] (show (zr k ∧ zr 12 ∧ k = 12) ∧ V 0 MX4_add 84 [some (vR 3 b), some (vZ t), some (vZ p), some (vZ k)] [vZ (-1), vZ (σ.1 b 3), vR 8 (b + 3)] (uI (uI σ (b + 1) (σ.1 b 3) t) (b + 2) (σ.1 b 3) p) post from ⟨(by omega), ?_⟩)
      refine V_run kX4_add 4 [] (show (0 ≤ (σ.1 b 3) ∧ (σ.1 b 3) < (zlen (b + 3))) ∧ V 0 MX4_add 90 [some (vR 3 b), some (vZ t), some (vZ p), some (vZ k)] [vZ ((uI (uI (uI σ (b + 1) (σ.1 b 3) t) (b + 2) (σ.1 b 3) p) (b + 3) (σ.1 b 3) (-1)).1 b 3), vR 3 b] (uI (uI (uI σ (b + 1) (σ.1 b 3) t) (b + 2) (σ.1 b 3) p) (b + 3) (σ.1 b 3) (-1)) post from ⟨(by omega), ?_⟩)
      refine V_top (e3 _) ?_
      refine V_run kX4_add 4 [] (show V 0 MX4_add 96 [some (vR 3 b), some (vZ t), some (vZ p), some (vZ k)] [vZ 1] (uI (uI (uI (uI σ (b + 1) (σ.1 b 3) t) (b + 2) (σ.1 b 3) p) (b + 3) (σ.1 b 3) (-1)) b 3 ((σ.1 b 3) + 1)) post from ?_)
      have h9 := hp h8
      unfold sSee at h9
      rw [if_pos hk] at h9
      exact V_zret kX4_add rfl rfl (Or.inr rfl) (h9)
    · skip
      refine V_run kX4_add 2 [1] (show (zr k ∧ zr 12 ∧ ¬ k = 12) ∧ V 0 MX4_add 84 [some (vR 3 b), some (vZ t), some (vZ p), some (vZ k)] [vZ k, vZ (σ.1 b 3), vR 8 (b + 3)] (uI (uI σ (b + 1) (σ.1 b 3) t) (b + 2) (σ.1 b 3) p) post from ⟨(by omega), ?_⟩)
      refine V_run kX4_add 4 [] (show (0 ≤ (σ.1 b 3) ∧ (σ.1 b 3) < (zlen (b + 3))) ∧ V 0 MX4_add 90 [some (vR 3 b), some (vZ t), some (vZ p), some (vZ k)] [vZ ((uI (uI (uI σ (b + 1) (σ.1 b 3) t) (b + 2) (σ.1 b 3) p) (b + 3) (σ.1 b 3) k).1 b 3), vR 3 b] (uI (uI (uI σ (b + 1) (σ.1 b 3) t) (b + 2) (σ.1 b 3) p) (b + 3) (σ.1 b 3) k) post from ⟨(by omega), ?_⟩)
      refine V_top (e3 _) ?_
      refine V_run kX4_add 4 [] (show V 0 MX4_add 96 [some (vR 3 b), some (vZ t), some (vZ p), some (vZ k)] [vZ 1] (uI (uI (uI (uI σ (b + 1) (σ.1 b 3) t) (b + 2) (σ.1 b 3) p) (b + 3) (σ.1 b 3) k) b 3 ((σ.1 b 3) + 1)) post from ?_)
      have h9 := hp h8
      unfold sSee at h9
      rw [if_neg hk] at h9
      exact V_zret kX4_add rfl rfl (Or.inr rfl) (h9)
  · skip
    refine V_run kX4_add 2 [1] (show (zr (σ.1 b 3) ∧ zr 8 ∧ 8 ≤ (σ.1 b 3)) ∧ V 0 MX4_add 44 [some (vR 3 b), some (vZ t), some (vZ p), some (vZ k)] [vZ 0] σ post from ⟨(by omega), ?_⟩)
    exact V_zret kX4_add rfl rfl (Or.inl rfl) (hf h8)
set_option maxHeartbeats 4000000 in
set_option maxRecDepth 100000 in
/-- Sightings.fit -/
theorem c_G_fit {a b : Nat} {C : zCf} {σ : zSt} {post : Option VV → zSt → Prop} (z1 : zlen (b + 1) = 8) (z2 : zlen (b + 2) = 8) (z3 : zlen (b + 3) = 8) (h0 : 0 ≤ σ.1 b 3) (h8 : σ.1 b 3 ≤ 8) (hr : ∀ i : Int, 0 ≤ i → i < σ.1 b 3 → (0 ≤ σ.1 (b + 1) i ∧ σ.1 (b + 1) i < 24) ∧ (0 ≤ σ.1 (b + 2) i ∧ σ.1 (b + 2) i < 12) ∧ -1 ≤ σ.1 (b + 3) i ∧ σ.1 (b + 3) i ≤ 12)
    (hC : zCv C) (hc1 : zlen (a + 1) = 24) (hc2 : zlen (a + 2) = 24) (hco : zCo σ a C 24) (hw : ∀ t j : Int, 0 ≤ t ∧ t < 24 → 0 ≤ j ∧ j < 12 → -1 ≤ zWho C t j ∧ zWho C t j ≤ 12) (hp : post (some (vZ (if zFit (zWho C) (σ.1 (b + 1)) (σ.1 (b + 2)) (σ.1 (b + 3)) (σ.1 b 3).toNat = true then 1 else 0))) σ) : Mc 2 MX4_fit [vR 3 b, vR 0 a] σ post := by
  have loop : ∀ (m : Nat) (i : Int), 0 ≤ i → i + m = σ.1 b 3 → (∀ j : Int, 0 ≤ j → j < i → zWho C (σ.1 (b + 1) j) (σ.1 (b + 2) j) = σ.1 (b + 3) j) → V 2 MX4_fit 2 [some (vR 3 b), some (vR 0 a), some (vZ i)] [] σ post := by
    intro m
    induction m with
    | zero =>
      intro i i0 i1 hd
      rw [if_pos (zFit_i.mpr (fun j a c => hd j a (by omega)))] at hp
      refine V_run kX4_fit 5 [1] (show (zr i ∧ zr (σ.1 b 3) ∧ (σ.1 b 3) ≤ i) ∧ V 2 MX4_fit 71 [some (vR 3 b), some (vR 0 a), some (vZ i)] [vZ 1] σ post from ⟨(by omega), ?_⟩)
      exact V_zret kX4_fit rfl rfl (Or.inr rfl) (hp)
    | succ m ih =>
      intro i i0 i1 hd
      have hi := hr i i0 (by omega)
      refine V_run kX4_fit 8 [0] (show (zr i ∧ zr (σ.1 b 3) ∧ i < (σ.1 b 3)) ∧ V 2 MX4_fit 16 [some (vR 3 b), some (vR 0 a), some (vZ i)] [vZ (zlen (b + 1)), vZ i] σ post from ⟨(by omega), ?_⟩)
      rw [z1]
      show V 2 MX4_fit 16 [some (vR 3 b), some (vR 0 a), some (vZ i)] [vZ 8, vZ i] σ post
      refine V_run kX4_fit 5 [0] (show (zr i ∧ zr 8 ∧ i < 8) ∧ V 2 MX4_fit 25 [some (vR 3 b), some (vR 0 a), some (vZ i)] [vZ (zlen (b + 2)), vZ i] σ post from ⟨(by omega), ?_⟩)
      rw [z2]
      show V 2 MX4_fit 25 [some (vR 3 b), some (vR 0 a), some (vZ i)] [vZ 8, vZ i] σ post
      refine V_run kX4_fit 5 [0] (show (zr i ∧ zr 8 ∧ i < 8) ∧ V 2 MX4_fit 34 [some (vR 3 b), some (vR 0 a), some (vZ i)] [vZ (zlen (b + 3)), vZ i] σ post from ⟨(by omega), ?_⟩)
      rw [z3]
      show V 2 MX4_fit 34 [some (vR 3 b), some (vR 0 a), some (vZ i)] [vZ 8, vZ i] σ post
      refine V_run kX4_fit 10 [0] (show (zr i ∧ zr 8 ∧ i < 8) ∧ (0 ≤ i ∧ i < (zlen (b + 1))) ∧ (0 ≤ i ∧ i < (zlen (b + 2))) ∧ V 2 MX4_fit 50 [some (vR 3 b), some (vR 0 a), some (vZ i)] [vZ (σ.1 (b + 2) i), vZ (σ.1 (b + 1) i), vR 0 a] σ post from ⟨(by omega), (by omega), (by omega), ?_⟩)
      refine V_callV (a := [vZ (σ.1 (b + 1) i), vZ (σ.1 (b + 2) i)]) (rest := []) kX4_fit rfl oX0_whoAt iX0_whoAt lk_4_25 rfl rfl rfl (Nat.le_of_ble_eq_true rfl) (Nat.le_of_ble_eq_true rfl) (Nat.le_of_ble_eq_true rfl) (post' := fun zv zσ => V 2 MX4_fit 53 [some (vR 3 b), some (vR 0 a), some (vZ i)] (zv.toList ++ []) zσ post) (c_C_whoAt hC hc1 hc2 hco hi.1.1 hi.1.2 hi.2.1.1 hi.2.1.2 ((show V 2 MX4_fit 53 [some (vR 3 b), some (vR 0 a), some (vZ i)] [vZ (zWho C (σ.1 (b + 1) i) (σ.1 (b + 2) i))] σ post from ?_))) (fun _ _ h => h)
      refine V_run kX4_fit 4 [] (show (0 ≤ i ∧ i < (zlen (b + 3))) ∧ V 2 MX4_fit 59 [some (vR 3 b), some (vR 0 a), some (vZ i)] [vZ (σ.1 (b + 3) i), vZ (zWho C (σ.1 (b + 1) i) (σ.1 (b + 2) i))] σ post from ⟨(by omega), ?_⟩)
      have hwr := hw (σ.1 (b + 1) i) (σ.1 (b + 2) i) hi.1 hi.2.1
      by_cases h1 : zWho C (σ.1 (b + 1) i) (σ.1 (b + 2) i) = σ.1 (b + 3) i
      · skip
        refine V_run kX4_fit 3 [1] (show (zr (zWho C (σ.1 (b + 1) i) (σ.1 (b + 2) i)) ∧ zr (σ.1 (b + 3) i) ∧ (zWho C (σ.1 (b + 1) i) (σ.1 (b + 2) i)) = (σ.1 (b + 3) i)) ∧ V 2 MX4_fit 2 [some (vR 3 b), some (vR 0 a), some (vZ (i + 1))] [] σ post from ⟨(by omega), ?_⟩)
        exact ih (i + 1) (by omega) (by omega) (fun j a c => if q : j = i then by rw [q]; exact h1 else hd j a (by omega))
      · skip
        rw [if_neg (fun q => h1 (zFit_i.mp q i i0 (by omega)))] at hp
        refine V_run kX4_fit 2 [0] (show (zr (zWho C (σ.1 (b + 1) i) (σ.1 (b + 2) i)) ∧ zr (σ.1 (b + 3) i) ∧ ¬ (zWho C (σ.1 (b + 1) i) (σ.1 (b + 2) i)) = (σ.1 (b + 3) i)) ∧ V 2 MX4_fit 63 [some (vR 3 b), some (vR 0 a), some (vZ i)] [vZ 0] σ post from ⟨(by omega), ?_⟩)
        exact V_zret kX4_fit rfl rfl (Or.inl rfl) (hp)
  show V 2 MX4_fit 0 [some (vR 3 b), some (vR 0 a), none] [] σ post
  refine V_run kX4_fit 2 [] (show V 2 MX4_fit 2 [some (vR 3 b), some (vR 0 a), some (vZ 0)] [] σ post from ?_)
  exact loop (σ.1 b 3).toNat 0 (by omega) (by omega) (fun j a c => by omega)
