set_option maxHeartbeats 4000000 in
set_option maxRecDepth 100000 in
/-- minuteDigest -/
theorem c_M_minuteDigest {h : Int64} {t k : Int} {S : zAb} {σ : zSt} {post : Option VV → zSt → Prop} (hR : RM σ S) (ho : aOk S) (t0 : 0 ≤ t) (t1 : t < 24) (k0 : 0 ≤ k) (k1 : k < cn (aC S)) (hp : ∀ σ', mKeep σ σ' → post (some (vL (zFo (vAt S t k) 3 0 h))) σ') : Mc 9 MX7_minuteDigest [vR 6 44, vL h, vZ t, vZ k] σ post := by
  have hok := aC_ok ho
  obtain ⟨v, hv⟩ : ∃ v, v = zFo (vAt S t k) 3 0 h := ⟨_, rfl⟩
  rw [← hv] at hp
  have loop : ∀ (m : Nat) (i : Int) (y : Int64), 0 ≤ i → i + m = 3 → zFo (vAt S t k) m i y = v → ∀ σ2 : zSt, mKeep σ σ2 → V 9 MX7_minuteDigest 6 [some (vR 6 44), some (vL h), none, some (vZ t), some (vZ k), some (vL y), none, some (vZ i)] [] σ2 post := by
    intro m
    induction m with
    | zero =>
      intro i y i0 i1 he σ2 hk
      unfold zFo at he
      subst he
      refine V_run kX7_minuteDigest 4 [1] (show (zr i ∧ zr 3 ∧ 3 ≤ i) ∧ V 9 MX7_minuteDigest 39 [some (vR 6 44), some (vL h), none, some (vZ t), some (vZ k), some (vL y), none, some (vZ i)] [vL y] σ2 post from ⟨(by omega), ?_⟩)
      exact V_lret kX7_minuteDigest rfl rfl (hp σ2 hk)
    | succ m ih =>
      intro i y i0 i1 he σ2 hk
      unfold zFo at he
      refine V_run kX7_minuteDigest 10 [0] (show (zr i ∧ zr 3 ∧ i < 3) ∧ V 9 MX7_minuteDigest 24 [some (vR 6 44), some (vL h), none, some (vZ t), some (vZ k), some (vL y), none, some (vZ i)] [vZ i, vZ k, vZ t, vR 6 44, vL ((31 : Int64) * y)] σ2 post from ⟨(by omega), ?_⟩)
      refine V_callV (a := [vZ t, vZ k, vZ i]) (rest := [vL ((31 : Int64) * y)]) kX7_minuteDigest rfl oX7_atOf iX7_atOf lk_7_231 rfl rfl rfl (Nat.le_of_ble_eq_true rfl) (Nat.le_of_ble_eq_true rfl) (Nat.le_of_ble_eq_true rfl) (post' := fun zv zσ => V 9 MX7_minuteDigest 27 [some (vR 6 44), some (vL h), none, some (vZ t), some (vZ k), some (vL y), none, some (vZ i)] (zv.toList ++ [vL ((31 : Int64) * y)]) zσ post) (c_M_atOf (RM_k hk hR) ho t0 t1 k0 k1 (by omega) (fun σ3 hk3 => (show V 9 MX7_minuteDigest 27 [some (vR 6 44), some (vL h), none, some (vZ t), some (vZ k), some (vL y), none, some (vZ i)] [vZ (vAt S t k i), vL ((31 : Int64) * y)] σ3 post from ?_))) (fun _ _ h => h)
      refine V_run kX7_minuteDigest 5 [] (show V 9 MX7_minuteDigest 6 [some (vR 6 44), some (vL h), none, some (vZ t), some (vZ k), some (vL (((31 : Int64) * y) + (zi2l (vAt S t k i)))), none, some (vZ (i + 1))] [] σ3 post from ?_)
      exact ih (i + 1) _ (by omega) (by omega) he σ3 (hk.tr hk3)
  show V 9 MX7_minuteDigest 0 [some (vR 6 44), some (vL h), none, some (vZ t), some (vZ k), none, none, none] [] σ post
  refine V_run kX7_minuteDigest 4 [] (show V 9 MX7_minuteDigest 6 [some (vR 6 44), some (vL h), none, some (vZ t), some (vZ k), some (vL h), none, some (vZ 0)] [] σ post from ?_)
  exact loop 3 0 h (by omega) (by omega) hv.symm σ mKeep.rf
set_option maxHeartbeats 16000000 in
set_option maxRecDepth 100000 in
/-- personDigest -/
theorem c_M_personDigest {h : Int64} {k : Int} {S : zAb} {σ : zSt} {post : Option VV → zSt → Prop} (hR : RM σ S) (ho : aOk S) (ht : aTp σ S) (k0 : 0 ≤ k) (k1 : k < cn (aC S)) (hp : ∀ σ', mKeep σ σ' → aTp σ' S → post (some (vL (zDgP S h k))) σ') : Mc 10 MX7_personDigest [vR 6 44, vL h, vZ k] σ post := by
  have hok := aC_ok ho
  have hcn := hok.1
  obtain ⟨h1, e1⟩ : ∃ y, y = zFo (vPer S k) 3 0 h := ⟨_, rfl⟩
  show V 10 MX7_personDigest 0 [some (vR 6 44), some (vL h), none, some (vZ k), none, none, none] [] σ post
  refine V_run kX7_personDigest 4 [] (show V 10 MX7_personDigest 6 [some (vR 6 44), some (vL h), none, some (vZ k), some (vL h), none, some (vZ 0)] [] σ post from ?_)
  have part2 : V 10 MX7_personDigest 35 [some (vR 6 44), some (vL h), none, some (vZ k), some (vL h1), none, none] [] σ post := by
    refine V_run kX7_personDigest 4 [] (show V 10 MX7_personDigest 40 [some (vR 6 44), some (vL h), none, some (vZ k), some (vL h1), none, none] [vZ k, vZ 0, vL h1, vR 6 44] σ post from ?_)
    obtain ⟨h2, e2⟩ : ∃ y, y = zFo (vAt S 0 k) 3 0 h1 := ⟨_, rfl⟩
    refine V_callV (a := [vL h1, vZ 0, vZ k]) (rest := []) kX7_personDigest rfl oX7_minuteDigest iX7_minuteDigest lk_7_332 rfl rfl rfl (Nat.le_of_ble_eq_true rfl) (Nat.le_of_ble_eq_true rfl) (Nat.le_of_ble_eq_true rfl) (post' := fun zv zσ => V 10 MX7_personDigest 43 [some (vR 6 44), some (vL h), none, some (vZ k), some (vL h1), none, none] (zv.toList ++ []) zσ post) (c_M_minuteDigest (RM_k mKeep.rf hR) ho (by omega) (by omega) k0 k1 (fun σ2 hq2 => (show V 10 MX7_personDigest 43 [some (vR 6 44), some (vL h), none, some (vZ k), some (vL h1), none, none] [vL (zFo (vAt S 0 k) 3 0 h1)] σ2 post from ?_))) (fun _ _ h => h)
    refine V_topL (e2.symm) ?_
    have hk2 := hq2
    refine V_run kX7_personDigest 5 [] (show V 10 MX7_personDigest 51 [some (vR 6 44), some (vL h), none, some (vZ k), some (vL h2), none, none] [vZ k, vZ 6, vL h2, vR 6 44] σ2 post from ?_)
    obtain ⟨h3, e3⟩ : ∃ y, y = zFo (vAt S 6 k) 3 0 h2 := ⟨_, rfl⟩
    refine V_callV (a := [vL h2, vZ 6, vZ k]) (rest := []) kX7_personDigest rfl oX7_minuteDigest iX7_minuteDigest lk_7_332 rfl rfl rfl (Nat.le_of_ble_eq_true rfl) (Nat.le_of_ble_eq_true rfl) (Nat.le_of_ble_eq_true rfl) (post' := fun zv zσ => V 10 MX7_personDigest 54 [some (vR 6 44), some (vL h), none, some (vZ k), some (vL h2), none, none] (zv.toList ++ []) zσ post) (c_M_minuteDigest (RM_k hk2 hR) ho (by omega) (by omega) k0 k1 (fun σ3 hq3 => (show V 10 MX7_personDigest 54 [some (vR 6 44), some (vL h), none, some (vZ k), some (vL h2), none, none] [vL (zFo (vAt S 6 k) 3 0 h2)] σ3 post from ?_))) (fun _ _ h => h)
    refine V_topL (e3.symm) ?_
    have hk3 := hk2.tr hq3
    refine V_run kX7_personDigest 5 [] (show V 10 MX7_personDigest 62 [some (vR 6 44), some (vL h), none, some (vZ k), some (vL h3), none, none] [vZ k, vZ 13, vL h3, vR 6 44] σ3 post from ?_)
    obtain ⟨h4, e4⟩ : ∃ y, y = zFo (vAt S 13 k) 3 0 h3 := ⟨_, rfl⟩
    refine V_callV (a := [vL h3, vZ 13, vZ k]) (rest := []) kX7_personDigest rfl oX7_minuteDigest iX7_minuteDigest lk_7_332 rfl rfl rfl (Nat.le_of_ble_eq_true rfl) (Nat.le_of_ble_eq_true rfl) (Nat.le_of_ble_eq_true rfl) (post' := fun zv zσ => V 10 MX7_personDigest 65 [some (vR 6 44), some (vL h), none, some (vZ k), some (vL h3), none, none] (zv.toList ++ []) zσ post) (c_M_minuteDigest (RM_k hk3 hR) ho (by omega) (by omega) k0 k1 (fun σ4 hq4 => (show V 10 MX7_personDigest 65 [some (vR 6 44), some (vL h), none, some (vZ k), some (vL h3), none, none] [vL (zFo (vAt S 13 k) 3 0 h3)] σ4 post from ?_))) (fun _ _ h => h)
    refine V_topL (e4.symm) ?_
    have hk4 := hk3.tr hq4
    refine V_run kX7_personDigest 5 [] (show V 10 MX7_personDigest 73 [some (vR 6 44), some (vL h), none, some (vZ k), some (vL h4), none, none] [vZ k, vZ 23, vL h4, vR 6 44] σ4 post from ?_)
    obtain ⟨h5, e5⟩ : ∃ y, y = zFo (vAt S 23 k) 3 0 h4 := ⟨_, rfl⟩
    refine V_callV (a := [vL h4, vZ 23, vZ k]) (rest := []) kX7_personDigest rfl oX7_minuteDigest iX7_minuteDigest lk_7_332 rfl rfl rfl (Nat.le_of_ble_eq_true rfl) (Nat.le_of_ble_eq_true rfl) (Nat.le_of_ble_eq_true rfl) (post' := fun zv zσ => V 10 MX7_personDigest 76 [some (vR 6 44), some (vL h), none, some (vZ k), some (vL h4), none, none] (zv.toList ++ []) zσ post) (c_M_minuteDigest (RM_k hk4 hR) ho (by omega) (by omega) k0 k1 (fun σ5 hq5 => (show V 10 MX7_personDigest 76 [some (vR 6 44), some (vL h), none, some (vZ k), some (vL h4), none, none] [vL (zFo (vAt S 23 k) 3 0 h4)] σ5 post from ?_))) (fun _ _ h => h)
    refine V_topL (e5.symm) ?_
    have hk5 := hk4.tr hq5
    refine V_run kX7_personDigest 3 [] (show V 10 MX7_personDigest 81 [some (vR 6 44), some (vL h), none, some (vZ k), some (vL h5), none, some (vZ 0)] [] σ5 post from ?_)
    obtain ⟨h6, e6⟩ : ∃ y, y = zFo (vDone S k) 3 0 h5 := ⟨_, rfl⟩
    have loop : ∀ (m : Nat) (i : Int) (y : Int64), 0 ≤ i → i + m = 3 → zFo (vDone S k) m i y = h6 → ∀ σ2 : zSt, mKeep σ σ2 → V 10 MX7_personDigest 81 [some (vR 6 44), some (vL h), none, some (vZ k), some (vL y), none, some (vZ i)] [] σ2 post := by
      intro m
      induction m with
      | zero =>
        intro i y i0 i1 he σ2 hk
        unfold zFo at he
        subst he
        refine V_run kX7_personDigest 9 [1] (show (zr i ∧ zr 3 ∧ 3 ≤ i) ∧ V 10 MX7_personDigest 119 [some (vR 6 44), some (vL h), none, some (vZ k), some (vL y), none, some (vZ i)] [vZ 0, vZ k, vR 6 44, vL ((31 : Int64) * y)] σ2 post from ⟨(by omega), ?_⟩)
        refine V_callV (a := [vZ k, vZ 0]) (rest := [vL ((31 : Int64) * y)]) kX7_personDigest rfl oX7_comeOf iX7_comeOf lk_7_255 rfl rfl rfl (Nat.le_of_ble_eq_true rfl) (Nat.le_of_ble_eq_true rfl) (Nat.le_of_ble_eq_true rfl) (post' := fun zv zσ => V 10 MX7_personDigest 122 [some (vR 6 44), some (vL h), none, some (vZ k), some (vL y), none, some (vZ i)] (zv.toList ++ [vL ((31 : Int64) * y)]) zσ post) (c_M_comeOf (RM_k hk hR) ho k0 k1 (by omega) (fun σ20 hq20 => (show V 10 MX7_personDigest 122 [some (vR 6 44), some (vL h), none, some (vZ k), some (vL y), none, some (vZ i)] [vZ (zAlw (zCom (aC S) k 24 0 (-1) 0) 0), vL ((31 : Int64) * y)] σ20 post from ?_))) (fun _ _ h => h)
        have hk20 := hk.tr hq20
        obtain ⟨h20, e20⟩ : ∃ q, q = zMx y (zAlw (zCom (aC S) k 24 0 (-1) 0) 0) := ⟨_, rfl⟩
        refine V_run kX7_personDigest 2 [] (show V 10 MX7_personDigest 124 [some (vR 6 44), some (vL h), none, some (vZ k), some (vL y), none, some (vZ i)] [vL (((31 : Int64) * y) + (zi2l (zAlw (zCom (aC S) k 24 0 (-1) 0) 0)))] σ20 post from ?_)
        refine V_topL (e20.symm) ?_
        refine V_run kX7_personDigest 7 [] (show V 10 MX7_personDigest 135 [some (vR 6 44), some (vL h), none, some (vZ k), some (vL h20), none, some (vZ i)] [vZ 1, vZ k, vR 6 44, vL ((31 : Int64) * h20)] σ20 post from ?_)
        refine V_callV (a := [vZ k, vZ 1]) (rest := [vL ((31 : Int64) * h20)]) kX7_personDigest rfl oX7_comeOf iX7_comeOf lk_7_255 rfl rfl rfl (Nat.le_of_ble_eq_true rfl) (Nat.le_of_ble_eq_true rfl) (Nat.le_of_ble_eq_true rfl) (post' := fun zv zσ => V 10 MX7_personDigest 138 [some (vR 6 44), some (vL h), none, some (vZ k), some (vL h20), none, some (vZ i)] (zv.toList ++ [vL ((31 : Int64) * h20)]) zσ post) (c_M_comeOf (RM_k hk20 hR) ho k0 k1 (by omega) (fun σ21 hq21 => (show V 10 MX7_personDigest 138 [some (vR 6 44), some (vL h), none, some (vZ k), some (vL h20), none, some (vZ i)] [vZ (zAlw (zCom (aC S) k 24 0 (-1) 0) 1), vL ((31 : Int64) * h20)] σ21 post from ?_))) (fun _ _ h => h)
        have hk21 := hk20.tr hq21
        obtain ⟨h21, e21⟩ : ∃ q, q = zMx h20 (zAlw (zCom (aC S) k 24 0 (-1) 0) 1) := ⟨_, rfl⟩
        refine V_run kX7_personDigest 2 [] (show V 10 MX7_personDigest 140 [some (vR 6 44), some (vL h), none, some (vZ k), some (vL h20), none, some (vZ i)] [vL (((31 : Int64) * h20) + (zi2l (zAlw (zCom (aC S) k 24 0 (-1) 0) 1)))] σ21 post from ?_)
        refine V_topL (e21.symm) ?_
        refine V_run kX7_personDigest 6 [] (show V 10 MX7_personDigest 150 [some (vR 6 44), some (vL h), none, some (vZ k), some (vL h21), none, some (vZ i)] [vZ k, vR 6 44, vL ((31 : Int64) * h21)] σ21 post from ?_)
        refine V_callV (a := [vZ k]) (rest := [vL ((31 : Int64) * h21)]) kX7_personDigest rfl oX7_sortsBy iX7_sortsBy lk_7_292 rfl rfl rfl (Nat.le_of_ble_eq_true rfl) (Nat.le_of_ble_eq_true rfl) (Nat.le_of_ble_eq_true rfl) (post' := fun zv zσ => V 10 MX7_personDigest 153 [some (vR 6 44), some (vL h), none, some (vZ k), some (vL h21), none, some (vZ i)] (zv.toList ++ [vL ((31 : Int64) * h21)]) zσ post) (c_M_sortsBy (RM_k hk21 hR) ho k0 k1 (fun σ22 hq22 => (show V 10 MX7_personDigest 153 [some (vR 6 44), some (vL h), none, some (vZ k), some (vL h21), none, some (vZ i)] [vZ (zSos S k 3 0 0), vL ((31 : Int64) * h21)] σ22 post from ?_))) (fun _ _ h => h)
        have hk22 := hk21.tr hq22
        obtain ⟨h22, e22⟩ : ∃ q, q = zMx h21 (zSos S k 3 0 0) := ⟨_, rfl⟩
        refine V_run kX7_personDigest 2 [] (show V 10 MX7_personDigest 155 [some (vR 6 44), some (vL h), none, some (vZ k), some (vL h21), none, some (vZ i)] [vL (((31 : Int64) * h21) + (zi2l (zSos S k 3 0 0)))] σ22 post from ?_)
        refine V_topL (e22.symm) ?_
        refine V_run kX7_personDigest 6 [] (show V 10 MX7_personDigest 165 [some (vR 6 44), some (vL h), none, some (vZ k), some (vL h22), none, some (vZ i)] [vZ k, vR 6 44, vL ((31 : Int64) * h22)] σ22 post from ?_)
        refine V_callV (a := [vZ k]) (rest := [vL ((31 : Int64) * h22)]) kX7_personDigest rfl oX7_parcelsBy iX7_parcelsBy lk_7_295 rfl rfl rfl (Nat.le_of_ble_eq_true rfl) (Nat.le_of_ble_eq_true rfl) (Nat.le_of_ble_eq_true rfl) (post' := fun zv zσ => V 10 MX7_personDigest 168 [some (vR 6 44), some (vL h), none, some (vZ k), some (vL h22), none, some (vZ i)] (zv.toList ++ [vL ((31 : Int64) * h22)]) zσ post) (c_M_parcelsBy (RM_k hk22 hR) ho k0 k1 (fun σ23 hq23 _ => (show V 10 MX7_personDigest 168 [some (vR 6 44), some (vL h), none, some (vZ k), some (vL h22), none, some (vZ i)] [vZ (zPab S k 9 1 0), vL ((31 : Int64) * h22)] σ23 post from ?_))) (fun _ _ h => h)
        have hk23 := hk22.tr hq23
        obtain ⟨h23, e23⟩ : ∃ q, q = zMx h22 (zPab S k 9 1 0) := ⟨_, rfl⟩
        refine V_run kX7_personDigest 2 [] (show V 10 MX7_personDigest 170 [some (vR 6 44), some (vL h), none, some (vZ k), some (vL h22), none, some (vZ i)] [vL (((31 : Int64) * h22) + (zi2l (zPab S k 9 1 0)))] σ23 post from ?_)
        refine V_topL (e23.symm) ?_
        refine V_run kX7_personDigest 6 [] (show V 10 MX7_personDigest 180 [some (vR 6 44), some (vL h), none, some (vZ k), some (vL h23), none, some (vZ i)] [vZ k, vR 6 44, vL ((31 : Int64) * h23)] σ23 post from ?_)
        refine V_callV (a := [vZ k]) (rest := [vL ((31 : Int64) * h23)]) kX7_personDigest rfl oX7_askOf iX7_askOf lk_7_298 rfl rfl rfl (Nat.le_of_ble_eq_true rfl) (Nat.le_of_ble_eq_true rfl) (Nat.le_of_ble_eq_true rfl) (post' := fun zv zσ => V 10 MX7_personDigest 183 [some (vR 6 44), some (vL h), none, some (vZ k), some (vL h23), none, some (vZ i)] (zv.toList ++ [vL ((31 : Int64) * h23)]) zσ post) (c_M_askOf (RM_k hk23 hR) ho k0 k1 (fun σ24 hq24 => (show V 10 MX7_personDigest 183 [some (vR 6 44), some (vL h), none, some (vZ k), some (vL h23), none, some (vZ i)] [vZ (zAk (aC S) k (zPab S k 9 1 0) 24 0 (-1) 0), vL ((31 : Int64) * h23)] σ24 post from ?_))) (fun _ _ h => h)
        have hk24 := hk23.tr hq24
        obtain ⟨h24, e24⟩ : ∃ q, q = zMx h23 (zAk (aC S) k (zPab S k 9 1 0) 24 0 (-1) 0) := ⟨_, rfl⟩
        refine V_run kX7_personDigest 2 [] (show V 10 MX7_personDigest 185 [some (vR 6 44), some (vL h), none, some (vZ k), some (vL h23), none, some (vZ i)] [vL (((31 : Int64) * h23) + (zi2l (zAk (aC S) k (zPab S k 9 1 0) 24 0 (-1) 0)))] σ24 post from ?_)
        refine V_topL (e24.symm) ?_
        refine V_run kX7_personDigest 8 [] (show V 10 MX7_personDigest 197 [some (vR 6 44), some (vL h), none, some (vZ k), some (vL h24), none, some (vZ i)] [vZ 0, vZ k, vZ 5, vR 6 44, vL ((31 : Int64) * h24)] σ24 post from ?_)
        refine V_callV (a := [vZ 5, vZ k, vZ 0]) (rest := [vL ((31 : Int64) * h24)]) kX7_personDigest rfl oX7_chanceOf iX7_chanceOf lk_7_305 rfl rfl rfl (Nat.le_of_ble_eq_true rfl) (Nat.le_of_ble_eq_true rfl) (Nat.le_of_ble_eq_true rfl) (post' := fun zv zσ => V 10 MX7_personDigest 200 [some (vR 6 44), some (vL h), none, some (vZ k), some (vL h24), none, some (vZ i)] (zv.toList ++ [vL ((31 : Int64) * h24)]) zσ post) (c_M_chanceOf2 (RM_k hk24 hR) ho (by omega) (by omega) k0 k1 (by omega) (fun σ25 hq25 htp25 => (show V 10 MX7_personDigest 200 [some (vR 6 44), some (vL h), none, some (vZ k), some (vL h24), none, some (vZ i)] [vL (zCha S 5 k 0), vL ((31 : Int64) * h24)] σ25 post from ?_))) (fun _ _ h => h)
        have hk25 := hk24.tr hq25
        obtain ⟨h25, e25⟩ : ∃ q, q = zMl h24 (zCha S 5 k 0) := ⟨_, rfl⟩
        refine V_run kX7_personDigest 1 [] (show V 10 MX7_personDigest 201 [some (vR 6 44), some (vL h), none, some (vZ k), some (vL h24), none, some (vZ i)] [vL (((31 : Int64) * h24) + (zCha S 5 k 0))] σ25 post from ?_)
        refine V_topL (e25.symm) ?_
        refine V_run kX7_personDigest 8 [] (show V 10 MX7_personDigest 213 [some (vR 6 44), some (vL h), none, some (vZ k), some (vL h25), none, some (vZ i)] [vZ 1, vZ k, vZ 5, vR 6 44, vL ((31 : Int64) * h25)] σ25 post from ?_)
        refine V_callV (a := [vZ 5, vZ k, vZ 1]) (rest := [vL ((31 : Int64) * h25)]) kX7_personDigest rfl oX7_chanceOf iX7_chanceOf lk_7_305 rfl rfl rfl (Nat.le_of_ble_eq_true rfl) (Nat.le_of_ble_eq_true rfl) (Nat.le_of_ble_eq_true rfl) (post' := fun zv zσ => V 10 MX7_personDigest 216 [some (vR 6 44), some (vL h), none, some (vZ k), some (vL h25), none, some (vZ i)] (zv.toList ++ [vL ((31 : Int64) * h25)]) zσ post) (c_M_chanceOf2 (RM_k hk25 hR) ho (by omega) (by omega) k0 k1 (by omega) (fun σ26 hq26 htp26 => (show V 10 MX7_personDigest 216 [some (vR 6 44), some (vL h), none, some (vZ k), some (vL h25), none, some (vZ i)] [vL (zCha S 5 k 1), vL ((31 : Int64) * h25)] σ26 post from ?_))) (fun _ _ h => h)
        have hk26 := hk25.tr hq26
        obtain ⟨h26, e26⟩ : ∃ q, q = zMl h25 (zCha S 5 k 1) := ⟨_, rfl⟩
        refine V_run kX7_personDigest 1 [] (show V 10 MX7_personDigest 217 [some (vR 6 44), some (vL h), none, some (vZ k), some (vL h25), none, some (vZ i)] [vL (((31 : Int64) * h25) + (zCha S 5 k 1))] σ26 post from ?_)
        refine V_topL (e26.symm) ?_
        refine V_run kX7_personDigest 5 [] (show V 10 MX7_personDigest 226 [some (vR 6 44), some (vL h), none, some (vZ k), some (vL h26), none, some (vZ i)] [vZ k, vL ((31 : Int64) * h26)] σ26 post from ?_)
        have fin : zMx h26 (if k = 0 then 0 else vApart S 9 0 k) = zDgP S h k := by
          unfold zDgP zDgG zDgD
          rw [e26, e25, e24, e23, e22, e21, e20, e6, e5, e4, e3, e2, e1]
        by_cases z : k = 0
        · skip
          rw [if_pos z] at fin
          refine V_run kX7_personDigest 5 [0] (show (zr k ∧ k = 0) ∧ V 10 MX7_personDigest 243 [some (vR 6 44), some (vL h), none, some (vZ k), some (vL h26), none, some (vZ i)] [vL (((31 : Int64) * h26) + (zi2l 0))] σ26 post from ⟨(by omega), ?_⟩)
          refine V_topL (fin) ?_
          exact V_lret kX7_personDigest rfl rfl (hp σ26 hk26 htp26)
        · skip
          rw [if_neg z] at fin
          refine V_run kX7_personDigest 5 [1] (show (zr k ∧ ¬ k = 0) ∧ V 10 MX7_personDigest 238 [some (vR 6 44), some (vL h), none, some (vZ k), some (vL h26), none, some (vZ i)] [vZ k, vZ 0, vZ 9, vR 6 44, vL ((31 : Int64) * h26)] σ26 post from ⟨(by omega), ?_⟩)
          refine V_callV (a := [vZ 9, vZ 0, vZ k]) (rest := [vL ((31 : Int64) * h26)]) kX7_personDigest rfl oX7_apartOf iX7_apartOf lk_7_234 rfl rfl rfl (Nat.le_of_ble_eq_true rfl) (Nat.le_of_ble_eq_true rfl) (Nat.le_of_ble_eq_true rfl) (post' := fun zv zσ => V 10 MX7_personDigest 241 [some (vR 6 44), some (vL h), none, some (vZ k), some (vL h26), none, some (vZ i)] (zv.toList ++ [vL ((31 : Int64) * h26)]) zσ post) (c_M_apartOf2 (RM_k hk26 hR) ho (by omega) (by omega) (by omega) (by omega) k0 k1 (fun σ27 hq27 htp27 => (show V 10 MX7_personDigest 241 [some (vR 6 44), some (vL h), none, some (vZ k), some (vL h26), none, some (vZ i)] [vZ (vApart S 9 0 k), vL ((31 : Int64) * h26)] σ27 post from ?_))) (fun _ _ h => h)
          refine V_run kX7_personDigest 2 [] (show V 10 MX7_personDigest 243 [some (vR 6 44), some (vL h), none, some (vZ k), some (vL h26), none, some (vZ i)] [vL (((31 : Int64) * h26) + (zi2l (vApart S 9 0 k)))] σ27 post from ?_)
          refine V_topL (fin) ?_
          exact V_lret kX7_personDigest rfl rfl (hp σ27 (hk26.tr hq27) htp27)
      | succ m ih =>
        intro i y i0 i1 he σ2 hk
        unfold zFo at he
        refine V_run kX7_personDigest 9 [0] (show (zr i ∧ zr 3 ∧ i < 3) ∧ V 10 MX7_personDigest 97 [some (vR 6 44), some (vL h), none, some (vZ k), some (vL y), none, some (vZ i)] [vZ i, vZ k, vR 6 44, vL ((31 : Int64) * y)] σ2 post from ⟨(by omega), ?_⟩)
        refine V_callV (a := [vZ k, vZ i]) (rest := [vL ((31 : Int64) * y)]) kX7_personDigest rfl oX7_doneOf iX7_doneOf lk_7_243 rfl rfl rfl (Nat.le_of_ble_eq_true rfl) (Nat.le_of_ble_eq_true rfl) (Nat.le_of_ble_eq_true rfl) (post' := fun zv zσ => V 10 MX7_personDigest 100 [some (vR 6 44), some (vL h), none, some (vZ k), some (vL y), none, some (vZ i)] (zv.toList ++ [vL ((31 : Int64) * y)]) zσ post) (c_M_doneOf (RM_k hk hR) ho k0 k1 (by omega) (fun σ3 hk3 => (show V 10 MX7_personDigest 100 [some (vR 6 44), some (vL h), none, some (vZ k), some (vL y), none, some (vZ i)] [vZ (vDone S k i), vL ((31 : Int64) * y)] σ3 post from ?_))) (fun _ _ h => h)
        refine V_run kX7_personDigest 5 [] (show V 10 MX7_personDigest 81 [some (vR 6 44), some (vL h), none, some (vZ k), some (vL (((31 : Int64) * y) + (zi2l (vDone S k i)))), none, some (vZ (i + 1))] [] σ3 post from ?_)
        exact ih (i + 1) _ (by omega) (by omega) he σ3 (hk.tr hk3)
    exact loop 3 0 h5 (by omega) (by omega) e6.symm _ hk5
  have loop0 : ∀ (m : Nat) (i : Int) (y : Int64), 0 ≤ i → i + m = 3 → zFo (vPer S k) m i y = h1 → V 10 MX7_personDigest 6 [some (vR 6 44), some (vL h), none, some (vZ k), some (vL y), none, some (vZ i)] [] σ post := by
    intro m
    induction m with
    | zero =>
      intro i y i0 i1 he
      unfold zFo at he
      subst he
      refine V_run kX7_personDigest 3 [1] (show (zr i ∧ zr 3 ∧ 3 ≤ i) ∧ V 10 MX7_personDigest 35 [some (vR 6 44), some (vL h), none, some (vZ k), some (vL y), none, some (vZ i)] [] σ post from ⟨(by omega), ?_⟩)
      refine V_drop (L := [some (vR 6 44), some (vL h), none, some (vZ k), some (vL y), none, none]) ⟨rfl, ⟨rfl, ⟨rfl, ⟨rfl, trivial⟩⟩⟩⟩ ?_
      exact part2
    | succ m ih =>
      intro i y i0 i1 he
      unfold zFo at he
      refine V_run kX7_personDigest 9 [0] (show (zr i ∧ zr 3 ∧ i < 3) ∧ V 10 MX7_personDigest 22 [some (vR 6 44), some (vL h), none, some (vZ k), some (vL y), none, some (vZ i)] [vZ i, vZ k, vR 6 44, vL ((31 : Int64) * y)] σ post from ⟨(by omega), ?_⟩)
      refine V_callV (a := [vZ k, vZ i]) (rest := [vL ((31 : Int64) * y)]) kX7_personDigest rfl oX7_personOf iX7_personOf lk_7_152 rfl rfl rfl (Nat.le_of_ble_eq_true rfl) (Nat.le_of_ble_eq_true rfl) (Nat.le_of_ble_eq_true rfl) (post' := fun zv zσ => V 10 MX7_personDigest 25 [some (vR 6 44), some (vL h), none, some (vZ k), some (vL y), none, some (vZ i)] (zv.toList ++ [vL ((31 : Int64) * y)]) zσ post) (c_M_personOf2 ho ht k0 k1 (by omega) ((show V 10 MX7_personDigest 25 [some (vR 6 44), some (vL h), none, some (vZ k), some (vL y), none, some (vZ i)] [vZ (vPer S k i), vL ((31 : Int64) * y)] σ post from ?_))) (fun _ _ h => h)
      refine V_run kX7_personDigest 5 [] (show V 10 MX7_personDigest 6 [some (vR 6 44), some (vL h), none, some (vZ k), some (vL (((31 : Int64) * y) + (zi2l (vPer S k i)))), none, some (vZ (i + 1))] [] σ post from ?_)
      exact ih (i + 1) _ (by omega) (by omega) he
  exact loop0 3 0 h (by omega) (by omega) e1.symm
