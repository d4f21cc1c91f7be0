set_option maxHeartbeats 4000000 in
set_option maxRecDepth 100000 in
/-- count -/
theorem c_N_count {x : Int} {S : zAb} {σ : zSt} {post : Option VV → zSt → Prop} (hR : RC σ S) (ho : aOk S) (hx : zr x) (hp : ∀ σ', dK σ σ' → RC σ' S → post (some (vZ (aCount S x))) σ') : Mc 5 MX6_count [vR 5 0, vZ x] σ post := by
  have hok := aC_ok ho
  have hcn := hok.1
  obtain ⟨hT, hPx, hCo, hG, hS, hK, hF⟩ := id hR
  unfold aCount at hp
  show V 5 MX6_count 0 [some (vR 5 0), some (vZ x)] [] σ post
  refine V_run kX6_count 1 [] (show V 5 MX6_count 1 [some (vR 5 0), some (vZ x)] [vZ x] σ post from ?_)
  by_cases hk1 : x = 0
  · skip
    refine V_tsIn (off := 51) (tgt := 52) kX6_count rfl hx (by omega) (by omega) (by rw [hk1]; rfl) (by decide) (show V 5 MX6_count 52 [some (vR 5 0), some (vZ x)] [] σ post from ?_)
    subst hk1
    rw [if_pos rfl] at hp
    refine V_run kX6_count 2 [] (show V 5 MX6_count 56 [some (vR 5 0), some (vZ 0)] [vR 1 5] σ post from ?_)
    refine V_callV (a := []) (rest := []) kX6_count rfl oX2_people iX2_people lk_6_168 rfl rfl rfl (Nat.le_of_ble_eq_true rfl) (Nat.le_of_ble_eq_true rfl) (Nat.le_of_ble_eq_true rfl) (post' := fun zv zσ => V 5 MX6_count 59 [some (vR 5 0), some (vZ 0)] (zv.toList ++ []) zσ post) (c_P_people (b := 5) ((show V 5 MX6_count 59 [some (vR 5 0), some (vZ 0)] [vZ (σ.1 5 0)] σ post from ?_))) (fun _ _ h => h)
    refine V_top (hPx.1.1) ?_
    exact V_iret kX6_count rfl rfl (hp σ dK.rf hR)
  by_cases hk2 : x = 1
  · skip
    refine V_tsIn (off := 59) (tgt := 60) kX6_count rfl hx (by omega) (by omega) (by rw [hk2]; rfl) (by decide) (show V 5 MX6_count 60 [some (vR 5 0), some (vZ x)] [] σ post from ?_)
    subst hk2
    rw [if_neg (by decide), if_pos rfl] at hp
    refine V_run kX6_count 2 [] (show V 5 MX6_count 64 [some (vR 5 0), some (vZ 1)] [vR 4 3] σ post from ?_)
    refine V_callV (a := []) (rest := []) kX6_count rfl oX5_whole iX5_whole lk_6_280 rfl rfl rfl (Nat.le_of_ble_eq_true rfl) (Nat.le_of_ble_eq_true rfl) (Nat.le_of_ble_eq_true rfl) (post' := fun zv zσ => V 5 MX6_count 67 [some (vR 5 0), some (vZ 1)] (zv.toList ++ []) zσ post) (c_T_whole (b := 3) (RT_3 hT ho) ((show V 5 MX6_count 67 [some (vR 5 0), some (vZ 1)] [vZ (zwho (σ.1 3 0) (σ.1 4) (σ.1 3 2))] σ post from ?_))) (fun _ _ h => h)
    refine V_top (show zwho (σ.1 3 0) (σ.1 4) (σ.1 3 2) = zwho 0 (a_wF S) (a_wN S) by rw [hT.2.1]; exact (RT_w3 hT).1) ?_
    exact V_iret kX6_count rfl rfl (hp σ dK.rf hR)
  by_cases hk3 : x = 2
  · skip
    refine V_tsIn (off := 67) (tgt := 68) kX6_count rfl hx (by omega) (by omega) (by rw [hk3]; rfl) (by decide) (show V 5 MX6_count 68 [some (vR 5 0), some (vZ x)] [] σ post from ?_)
    subst hk3
    rw [if_neg (by decide), if_neg (by decide), if_pos rfl] at hp
    refine V_run kX6_count 2 [] (show V 5 MX6_count 72 [some (vR 5 0), some (vZ 2)] [vR 4 1] σ post from ?_)
    refine V_callV (a := []) (rest := []) kX6_count rfl oX5_size iX5_size lk_6_74 rfl rfl rfl (Nat.le_of_ble_eq_true rfl) (Nat.le_of_ble_eq_true rfl) (Nat.le_of_ble_eq_true rfl) (post' := fun zv zσ => V 5 MX6_count 75 [some (vR 5 0), some (vZ 2)] (zv.toList ++ []) zσ post) (c_T_size (b := 1) ((show V 5 MX6_count 75 [some (vR 5 0), some (vZ 2)] [vZ (σ.1 1 2)] σ post from ?_))) (fun _ _ h => h)
    refine V_top (hT.1.2.1) ?_
    exact V_iret kX6_count rfl rfl (hp σ dK.rf hR)
  by_cases hk4 : x = 3
  · skip
    refine V_tsIn (off := 75) (tgt := 76) kX6_count rfl hx (by omega) (by omega) (by rw [hk4]; rfl) (by decide) (show V 5 MX6_count 76 [some (vR 5 0), some (vZ x)] [] σ post from ?_)
    subst hk4
    rw [if_neg (by decide), if_neg (by decide), if_neg (by decide), if_pos rfl] at hp
    refine V_run kX6_count 2 [] (show V 5 MX6_count 80 [some (vR 5 0), some (vZ 3)] [vR 4 3] σ post from ?_)
    refine V_callV (a := []) (rest := []) kX6_count rfl oX5_size iX5_size lk_6_74 rfl rfl rfl (Nat.le_of_ble_eq_true rfl) (Nat.le_of_ble_eq_true rfl) (Nat.le_of_ble_eq_true rfl) (post' := fun zv zσ => V 5 MX6_count 83 [some (vR 5 0), some (vZ 3)] (zv.toList ++ []) zσ post) (c_T_size (b := 3) ((show V 5 MX6_count 83 [some (vR 5 0), some (vZ 3)] [vZ (σ.1 3 2)] σ post from ?_))) (fun _ _ h => h)
    refine V_top (hT.2.2.1) ?_
    exact V_iret kX6_count rfl rfl (hp σ dK.rf hR)
  by_cases hk5 : x = 4
  · skip
    refine V_tsIn (off := 83) (tgt := 84) kX6_count rfl hx (by omega) (by omega) (by rw [hk5]; rfl) (by decide) (show V 5 MX6_count 84 [some (vR 5 0), some (vZ x)] [] σ post from ?_)
    subst hk5
    rw [if_neg (by decide), if_neg (by decide), if_neg (by decide), if_neg (by decide), if_pos rfl] at hp
    refine V_run kX6_count 2 [] (show V 5 MX6_count 88 [some (vR 5 0), some (vZ 4)] [vR 1 5] σ post from ?_)
    refine V_callV (a := []) (rest := []) kX6_count rfl oX2_events iX2_events lk_6_121 rfl rfl rfl (Nat.le_of_ble_eq_true rfl) (Nat.le_of_ble_eq_true rfl) (Nat.le_of_ble_eq_true rfl) (post' := fun zv zσ => V 5 MX6_count 91 [some (vR 5 0), some (vZ 4)] (zv.toList ++ []) zσ post) (e_P_events (b := 5) (x := a_eN S) hPx.1.2.1 ((show V 5 MX6_count 91 [some (vR 5 0), some (vZ 4)] [vZ (a_eN S)] σ post from ?_))) (fun _ _ h => h)
    exact V_iret kX6_count rfl rfl (hp σ dK.rf hR)
  by_cases hk6 : x = 5
  · skip
    refine V_tsIn (off := 91) (tgt := 92) kX6_count rfl hx (by omega) (by omega) (by rw [hk6]; rfl) (by decide) (show V 5 MX6_count 92 [some (vR 5 0), some (vZ x)] [] σ post from ?_)
    subst hk6
    rw [if_neg (by decide), if_neg (by decide), if_neg (by decide), if_neg (by decide), if_neg (by decide), if_pos rfl] at hp
    refine V_run kX6_count 2 [] (show V 5 MX6_count 96 [some (vR 5 0), some (vZ 5)] [vR 0 23] σ post from ?_)
    refine V_callV (a := []) (rest := []) kX6_count rfl oX0_howManyServed iX0_howManyServed lk_6_192 rfl rfl rfl (Nat.le_of_ble_eq_true rfl) (Nat.le_of_ble_eq_true rfl) (Nat.le_of_ble_eq_true rfl) (post' := fun zv zσ => V 5 MX6_count 99 [some (vR 5 0), some (vZ 5)] (zv.toList ++ []) zσ post) (c_C_hms (b := 23) hok rfl rfl hCo ((show V 5 MX6_count 99 [some (vR 5 0), some (vZ 5)] [vZ (zSvc (aC S) (cn (aC S)).toNat 0 0)] σ post from ?_))) (fun _ _ h => h)
    exact V_iret kX6_count rfl rfl (hp σ dK.rf hR)
  by_cases hk7 : x = 6
  · skip
    refine V_tsIn (off := 99) (tgt := 100) kX6_count rfl hx (by omega) (by omega) (by rw [hk7]; rfl) (by decide) (show V 5 MX6_count 100 [some (vR 5 0), some (vZ x)] [] σ post from ?_)
    subst hk7
    rw [if_neg (by decide), if_neg (by decide), if_neg (by decide), if_neg (by decide), if_neg (by decide), if_neg (by decide), if_pos rfl] at hp
    refine V_run kX6_count 3 [] (show V 5 MX6_count 106 [some (vR 5 0), some (vZ 6)] [vZ 23, vR 0 23] σ post from ?_)
    refine V_callV (a := [vZ 23]) (rest := []) kX6_count rfl oX0_howMany iX0_howMany lk_6_142 rfl rfl rfl (Nat.le_of_ble_eq_true rfl) (Nat.le_of_ble_eq_true rfl) (Nat.le_of_ble_eq_true rfl) (post' := fun zv zσ => V 5 MX6_count 109 [some (vR 5 0), some (vZ 6)] (zv.toList ++ []) zσ post) (c_C_howMany (b := 23) hok rfl rfl hCo (by omega) (by omega) ((show V 5 MX6_count 109 [some (vR 5 0), some (vZ 6)] [vZ (dn (zD (aC S) 23))] σ post from ?_))) (fun _ _ h => h)
    exact V_iret kX6_count rfl rfl (hp σ dK.rf hR)
  by_cases hk8 : x = 7
  · skip
    refine V_tsIn (off := 109) (tgt := 110) kX6_count rfl hx (by omega) (by omega) (by rw [hk8]; rfl) (by decide) (show V 5 MX6_count 110 [some (vR 5 0), some (vZ x)] [] σ post from ?_)
    subst hk8
    rw [if_neg (by decide), if_neg (by decide), if_neg (by decide), if_neg (by decide), if_neg (by decide), if_neg (by decide), if_neg (by decide), if_pos rfl] at hp
    refine V_run kX6_count 2 [] (show V 5 MX6_count 114 [some (vR 5 0), some (vZ 7)] [vR 3 29] σ post from ?_)
    refine V_callV (a := []) (rest := []) kX6_count rfl oX4_size iX4_size lk_6_214 rfl rfl rfl (Nat.le_of_ble_eq_true rfl) (Nat.le_of_ble_eq_true rfl) (Nat.le_of_ble_eq_true rfl) (post' := fun zv zσ => V 5 MX6_count 117 [some (vR 5 0), some (vZ 7)] (zv.toList ++ []) zσ post) (c_G_size (b := 29) ((show V 5 MX6_count 117 [some (vR 5 0), some (vZ 7)] [vZ (σ.1 29 3)] σ post from ?_))) (fun _ _ h => h)
    refine V_top (hG.1) ?_
    exact V_iret kX6_count rfl rfl (hp σ dK.rf hR)
  by_cases hk9 : x = 8
  · skip
    refine V_tsIn (off := 117) (tgt := 118) kX6_count rfl hx (by omega) (by omega) (by rw [hk9]; rfl) (by decide) (show V 5 MX6_count 118 [some (vR 5 0), some (vZ x)] [] σ post from ?_)
    subst hk9
    rw [if_neg (by decide), if_neg (by decide), if_neg (by decide), if_neg (by decide), if_neg (by decide), if_neg (by decide), if_neg (by decide), if_neg (by decide), if_pos rfl] at hp
    refine V_run kX6_count 2 [] (show V 5 MX6_count 122 [some (vR 5 0), some (vZ 8)] [vZ (σ.1 0 11)] σ post from ?_)
    refine V_top (hF) ?_
    exact V_iret kX6_count rfl rfl (hp σ dK.rf hR)
  refine V_tsOut (tgt := 123) kX6_count rfl hx (by omega) (by decide) (show V 5 MX6_count 123 [some (vR 5 0), some (vZ x)] [] σ post from ?_)
  rw [if_neg (by omega), if_neg (by omega), if_neg (by omega), if_neg (by omega), if_neg (by omega), if_neg (by omega), if_neg (by omega), if_neg (by omega), if_neg (by omega)] at hp
  refine V_run kX6_count 1 [] (show V 5 MX6_count 125 [some (vR 5 0), some (vZ x)] [vZ (-2)] σ post from ?_)
  exact V_iret kX6_count rfl rfl (hp σ dK.rf hR)
set_option maxHeartbeats 4000000 in
set_option maxRecDepth 100000 in
/-- mixed -/
theorem c_N_mixed {h v : Int64} {σ : zSt} {post : Option VV → zSt → Prop} (hp : post (some (vL ((31 : Int64) * h + v))) σ) : Mc 0 MX6_mixed [vL h, vL v] σ post := by
  show V 0 MX6_mixed 0 [some (vL h), none, some (vL v), none] [] σ post
  refine V_run kX6_mixed 5 [] (show V 0 MX6_mixed 7 [some (vL h), none, some (vL v), none] [vL (((31 : Int64) * h) + v)] σ post from ?_)
  exact V_lret kX6_mixed rfl rfl (hp)
set_option maxHeartbeats 4000000 in
set_option maxRecDepth 100000 in
/-- mixedWithMinute -/
theorem c_N_mixM {h : Int64} {t k : Int} {S : zAb} {σ : zSt} {post : Option VV → zSt → Prop} (hR : RC σ S) (ho : aOk S) (t0 : 0 ≤ t) (t1 : t ≤ 23) (k0 : 0 ≤ k) (k1 : k < cn (aC S)) (hk0 : zr k) (hp : ∀ σ', dK σ σ' → RC σ' S → post (some (vL (zFo (vAt S t k) 3 0 h))) σ') : Mc 4 MX6_mixedWithMinute [vR 5 0, vL h, vZ t, vZ k] σ post := by
  obtain ⟨v, hv⟩ : ∃ v, v = zFo (vAt S t k) 3 0 h := ⟨_, rfl⟩
  rw [← hv] at hp
  have loop : ∀ (m : Nat) (i : Int) (y : Int64), 0 ≤ i → i + m = 3 → zFo (vAt S t k) m i y = v → ∀ σ2 : zSt, dK σ σ2 → RC σ2 S → V 4 MX6_mixedWithMinute 6 [some (vR 5 0), some (vL h), none, some (vZ t), some (vZ k), some (vL y), none, some (vZ i)] [] σ2 post := by
    intro m
    induction m with
    | zero =>
      intro i y i0 i1 he σ2 hk hR2
      unfold zFo at he
      subst he
      refine V_run kX6_mixedWithMinute 4 [1] (show (zr i ∧ zr 2 ∧ 2 < i) ∧ V 4 MX6_mixedWithMinute 37 [some (vR 5 0), some (vL h), none, some (vZ t), some (vZ k), some (vL y), none, some (vZ i)] [vL y] σ2 post from ⟨(by omega), ?_⟩)
      exact V_lret kX6_mixedWithMinute rfl rfl (hp σ2 hk hR2)
    | succ m ih =>
      intro i y i0 i1 he σ2 hk hR2
      unfold zFo at he
      refine V_run kX6_mixedWithMinute 8 [0] (show (zr i ∧ zr 2 ∧ i ≤ 2) ∧ V 4 MX6_mixedWithMinute 20 [some (vR 5 0), some (vL h), none, some (vZ t), some (vZ k), some (vL y), none, some (vZ i)] [vZ i, vZ k, vZ t, vR 5 0, vL y] σ2 post from ⟨(by omega), ?_⟩)
      refine V_callV (a := [vZ t, vZ k, vZ i]) (rest := [vL y]) kX6_mixedWithMinute rfl oX6_at iX6_at lk_6_388 rfl rfl rfl (Nat.le_of_ble_eq_true rfl) (Nat.le_of_ble_eq_true rfl) (Nat.le_of_ble_eq_true rfl) (post' := fun zv zσ => V 4 MX6_mixedWithMinute 23 [some (vR 5 0), some (vL h), none, some (vZ t), some (vZ k), some (vL y), none, some (vZ i)] (zv.toList ++ [vL y]) zσ post) (c_N_at hR2 ho (by omega) (by omega) (by omega) (fun τ1 hx1 hRx1 => (show V 4 MX6_mixedWithMinute 23 [some (vR 5 0), some (vL h), none, some (vZ t), some (vZ k), some (vL y), none, some (vZ i)] [vZ (aAt S t k i), vL y] τ1 post from ?_))) (fun _ _ h => h)
      have kx1 := hk.tr hx1
      refine V_top (show aAt S t k i = vAt S t k i from if_pos ⟨⟨t0, t1⟩, ⟨k0, k1⟩, i0, by omega⟩) ?_
      obtain ⟨h2, e_h2⟩ : ∃ q, q = zMx y (vAt S t k i) := ⟨_, rfl⟩
      refine V_run kX6_mixedWithMinute 1 [] (show V 4 MX6_mixedWithMinute 24 [some (vR 5 0), some (vL h), none, some (vZ t), some (vZ k), some (vL y), none, some (vZ i)] [vL (zi2l (vAt S t k i)), vL y] τ1 post from ?_)
      refine V_callS (a := [vL y, vL (zi2l (vAt S t k i))]) (rest := []) kX6_mixedWithMinute rfl oX6_mixed iX6_mixed lk_6_292 rfl rfl (Nat.le_of_ble_eq_true rfl) (Nat.le_of_ble_eq_true rfl) (Nat.le_of_ble_eq_true rfl) (post' := fun zv zσ => V 4 MX6_mixedWithMinute 27 [some (vR 5 0), some (vL h), none, some (vZ t), some (vZ k), some (vL y), none, some (vZ i)] (zv.toList ++ []) zσ post) (c_N_mixed ((show V 4 MX6_mixedWithMinute 27 [some (vR 5 0), some (vL h), none, some (vZ t), some (vZ k), some (vL y), none, some (vZ i)] [vL ((31 : Int64) * y + zi2l (vAt S t k i))] τ1 post from ?_))) (fun _ _ h => h)
      refine V_topL (e_h2.symm) ?_
      refine V_run kX6_mixedWithMinute 3 [] (show V 4 MX6_mixedWithMinute 6 [some (vR 5 0), some (vL h), none, some (vZ t), some (vZ k), some (vL h2), none, some (vZ (i + 1))] [] τ1 post from ?_)
      exact ih (i + 1) _ (by omega) (by omega) (by rw [e_h2]; exact he) _ kx1 hRx1
  show V 4 MX6_mixedWithMinute 0 [some (vR 5 0), some (vL h), none, some (vZ t), some (vZ k), none, none, none] [] σ post
  refine V_run kX6_mixedWithMinute 4 [] (show V 4 MX6_mixedWithMinute 6 [some (vR 5 0), some (vL h), none, some (vZ t), some (vZ k), some (vL h), none, some (vZ 0)] [] σ post from ?_)
  exact loop 3 0 h (by omega) (by omega) hv.symm σ dK.rf hR
set_option maxHeartbeats 8000000 in
set_option maxRecDepth 100000 in
/-- mixedWithDay -/
theorem c_N_mixD {h : Int64} {k : Int} {S : zAb} {σ : zSt} {post : Option VV → zSt → Prop} (hR : RC σ S) (ho : aOk S) (k0 : 0 ≤ k) (k1 : k < cn (aC S)) (hp : ∀ σ', dK σ σ' → RC σ' S → post (some (vL (zDgD S h k))) σ') : Mc 5 MX6_mixedWithDay [vR 5 0, vL h, vZ k] σ post := by
  have hcn := (aC_ok ho).1
  have hkz : zr k := ⟨by omega, by omega⟩
  obtain ⟨h1, e1⟩ : ∃ y, y = zFo (vPer S k) 3 0 h := ⟨_, rfl⟩
  obtain ⟨h2, e2⟩ : ∃ y, y = zFo (vAt S 0 k) 3 0 h1 := ⟨_, rfl⟩
  obtain ⟨h3, e3⟩ : ∃ y, y = zFo (vAt S 6 k) 3 0 h2 := ⟨_, rfl⟩
  obtain ⟨h4, e4⟩ : ∃ y, y = zFo (vAt S 13 k) 3 0 h3 := ⟨_, rfl⟩
  obtain ⟨h5, e5⟩ : ∃ y, y = zFo (vAt S 23 k) 3 0 h4 := ⟨_, rfl⟩
  obtain ⟨h6, e6⟩ : ∃ y, y = zFo (vDone S k) 3 0 h5 := ⟨_, rfl⟩
  have fin : zDgD S h k = h6 := by unfold zDgD; rw [e6, e5, e4, e3, e2, e1]
  rw [fin] at hp
  have loop2 : ∀ (m : Nat) (i : Int) (y : Int64), 0 ≤ i → i + m = 3 → zFo (vDone S k) m i y = h6 → ∀ σ2 : zSt, dK σ σ2 → RC σ2 S → V 5 MX6_mixedWithDay 79 [some (vR 5 0), some (vL h), none, some (vZ k), some (vL y), none, some (vZ i)] [] σ2 post := by
    intro m
    induction m with
    | zero =>
      intro i y i0 i1 he σ2 hk hR2
      have he : y = h6 := he
      rw [← he] at hp
      refine V_run kX6_mixedWithDay 4 [1] (show (zr i ∧ zr 2 ∧ 2 < i) ∧ V 5 MX6_mixedWithDay 108 [some (vR 5 0), some (vL h), none, some (vZ k), some (vL y), none, some (vZ i)] [vL y] σ2 post from ⟨(by omega), ?_⟩)
      exact V_lret kX6_mixedWithDay rfl rfl (hp σ2 hk hR2)
    | succ m ih =>
      intro i y i0 i1 he σ2 hk hR2
      unfold zFo at he
      refine V_run kX6_mixedWithDay 7 [0] (show (zr i ∧ zr 2 ∧ i ≤ 2) ∧ V 5 MX6_mixedWithDay 91 [some (vR 5 0), some (vL h), none, some (vZ k), some (vL y), none, some (vZ i)] [vZ i, vZ k, vR 5 0, vL y] σ2 post from ⟨(by omega), ?_⟩)
      refine V_callV (a := [vZ k, vZ i]) (rest := [vL y]) kX6_mixedWithDay rfl oX6_done iX6_done lk_6_385 rfl rfl rfl (Nat.le_of_ble_eq_true rfl) (Nat.le_of_ble_eq_true rfl) (Nat.le_of_ble_eq_true rfl) (post' := fun zv zσ => V 5 MX6_mixedWithDay 94 [some (vR 5 0), some (vL h), none, some (vZ k), some (vL y), none, some (vZ i)] (zv.toList ++ [vL y]) zσ post) (c_N_done hR2 ho (by omega) (by omega) (fun τ1 hx1 hRx1 => (show V 5 MX6_mixedWithDay 94 [some (vR 5 0), some (vL h), none, some (vZ k), some (vL y), none, some (vZ i)] [vZ (aDone S k i), vL y] τ1 post from ?_))) (fun _ _ h => h)
      have kx1 := hk.tr hx1
      refine V_top (show aDone S k i = vDone S k i from if_pos ⟨⟨k0, k1⟩, i0, by omega⟩) ?_
      obtain ⟨g2, e_g2⟩ : ∃ q, q = zMx y (vDone S k i) := ⟨_, rfl⟩
      refine V_run kX6_mixedWithDay 1 [] (show V 5 MX6_mixedWithDay 95 [some (vR 5 0), some (vL h), none, some (vZ k), some (vL y), none, some (vZ i)] [vL (zi2l (vDone S k i)), vL y] τ1 post from ?_)
      refine V_callS (a := [vL y, vL (zi2l (vDone S k i))]) (rest := []) kX6_mixedWithDay rfl oX6_mixed iX6_mixed lk_6_292 rfl rfl (Nat.le_of_ble_eq_true rfl) (Nat.le_of_ble_eq_true rfl) (Nat.le_of_ble_eq_true rfl) (post' := fun zv zσ => V 5 MX6_mixedWithDay 98 [some (vR 5 0), some (vL h), none, some (vZ k), some (vL y), none, some (vZ i)] (zv.toList ++ []) zσ post) (c_N_mixed ((show V 5 MX6_mixedWithDay 98 [some (vR 5 0), some (vL h), none, some (vZ k), some (vL y), none, some (vZ i)] [vL ((31 : Int64) * y + zi2l (vDone S k i))] τ1 post from ?_))) (fun _ _ h => h)
      refine V_topL (e_g2.symm) ?_
      refine V_run kX6_mixedWithDay 3 [] (show V 5 MX6_mixedWithDay 79 [some (vR 5 0), some (vL h), none, some (vZ k), some (vL g2), none, some (vZ (i + 1))] [] τ1 post from ?_)
      exact ih (i + 1) _ (by omega) (by omega) (by rw [e_g2]; exact he) _ kx1 hRx1
  have part2 : ∀ σ2 : zSt, dK σ σ2 → RC σ2 S → V 5 MX6_mixedWithDay 33 [some (vR 5 0), some (vL h), none, some (vZ k), some (vL h1), none, none] [] σ2 post := by
    intro σ2 hk hR2
    refine V_run kX6_mixedWithDay 4 [] (show V 5 MX6_mixedWithDay 38 [some (vR 5 0), some (vL h), none, some (vZ k), some (vL h1), none, none] [vZ k, vZ 0, vL h1, vR 5 0] σ2 post from ?_)
    refine V_callV (a := [vL h1, vZ 0, vZ k]) (rest := []) kX6_mixedWithDay rfl oX6_mixedWithMinute iX6_mixedWithMinute lk_6_382 rfl rfl rfl (Nat.le_of_ble_eq_true rfl) (Nat.le_of_ble_eq_true rfl) (Nat.le_of_ble_eq_true rfl) (post' := fun zv zσ => V 5 MX6_mixedWithDay 41 [some (vR 5 0), some (vL h), none, some (vZ k), some (vL h1), none, none] (zv.toList ++ []) zσ post) (c_N_mixM hR2 ho (by omega) (by omega) k0 k1 hkz (fun τ1 hx1 hRx1 => (show V 5 MX6_mixedWithDay 41 [some (vR 5 0), some (vL h), none, some (vZ k), some (vL h1), none, none] [vL (zFo (vAt S 0 k) 3 0 h1)] τ1 post from ?_))) (fun _ _ h => h)
    have kx1 := hk.tr hx1
    refine V_topL (e2.symm) ?_
    refine V_run kX6_mixedWithDay 5 [] (show V 5 MX6_mixedWithDay 49 [some (vR 5 0), some (vL h), none, some (vZ k), some (vL h2), none, none] [vZ k, vZ 6, vL h2, vR 5 0] τ1 post from ?_)
    refine V_callV (a := [vL h2, vZ 6, vZ k]) (rest := []) kX6_mixedWithDay rfl oX6_mixedWithMinute iX6_mixedWithMinute lk_6_382 rfl rfl rfl (Nat.le_of_ble_eq_true rfl) (Nat.le_of_ble_eq_true rfl) (Nat.le_of_ble_eq_true rfl) (post' := fun zv zσ => V 5 MX6_mixedWithDay 52 [some (vR 5 0), some (vL h), none, some (vZ k), some (vL h2), none, none] (zv.toList ++ []) zσ post) (c_N_mixM hRx1 ho (by omega) (by omega) k0 k1 hkz (fun τ2 hx2 hRx2 => (show V 5 MX6_mixedWithDay 52 [some (vR 5 0), some (vL h), none, some (vZ k), some (vL h2), none, none] [vL (zFo (vAt S 6 k) 3 0 h2)] τ2 post from ?_))) (fun _ _ h => h)
    have kx2 := kx1.tr hx2
    refine V_topL (e3.symm) ?_
    refine V_run kX6_mixedWithDay 5 [] (show V 5 MX6_mixedWithDay 60 [some (vR 5 0), some (vL h), none, some (vZ k), some (vL h3), none, none] [vZ k, vZ 13, vL h3, vR 5 0] τ2 post from ?_)
    refine V_callV (a := [vL h3, vZ 13, vZ k]) (rest := []) kX6_mixedWithDay rfl oX6_mixedWithMinute iX6_mixedWithMinute lk_6_382 rfl rfl rfl (Nat.le_of_ble_eq_true rfl) (Nat.le_of_ble_eq_true rfl) (Nat.le_of_ble_eq_true rfl) (post' := fun zv zσ => V 5 MX6_mixedWithDay 63 [some (vR 5 0), some (vL h), none, some (vZ k), some (vL h3), none, none] (zv.toList ++ []) zσ post) (c_N_mixM hRx2 ho (by omega) (by omega) k0 k1 hkz (fun τ3 hx3 hRx3 => (show V 5 MX6_mixedWithDay 63 [some (vR 5 0), some (vL h), none, some (vZ k), some (vL h3), none, none] [vL (zFo (vAt S 13 k) 3 0 h3)] τ3 post from ?_))) (fun _ _ h => h)
    have kx3 := kx2.tr hx3
    refine V_topL (e4.symm) ?_
    refine V_run kX6_mixedWithDay 5 [] (show V 5 MX6_mixedWithDay 71 [some (vR 5 0), some (vL h), none, some (vZ k), some (vL h4), none, none] [vZ k, vZ 23, vL h4, vR 5 0] τ3 post from ?_)
    refine V_callV (a := [vL h4, vZ 23, vZ k]) (rest := []) kX6_mixedWithDay rfl oX6_mixedWithMinute iX6_mixedWithMinute lk_6_382 rfl rfl rfl (Nat.le_of_ble_eq_true rfl) (Nat.le_of_ble_eq_true rfl) (Nat.le_of_ble_eq_true rfl) (post' := fun zv zσ => V 5 MX6_mixedWithDay 74 [some (vR 5 0), some (vL h), none, some (vZ k), some (vL h4), none, none] (zv.toList ++ []) zσ post) (c_N_mixM hRx3 ho (by omega) (by omega) k0 k1 hkz (fun τ4 hx4 hRx4 => (show V 5 MX6_mixedWithDay 74 [some (vR 5 0), some (vL h), none, some (vZ k), some (vL h4), none, none] [vL (zFo (vAt S 23 k) 3 0 h4)] τ4 post from ?_))) (fun _ _ h => h)
    have kx4 := kx3.tr hx4
    refine V_topL (e5.symm) ?_
    refine V_run kX6_mixedWithDay 3 [] (show V 5 MX6_mixedWithDay 79 [some (vR 5 0), some (vL h), none, some (vZ k), some (vL h5), none, some (vZ 0)] [] τ4 post from ?_)
    exact loop2 3 0 h5 (by omega) (by omega) e6.symm _ kx4 hRx4
  have loop1 : ∀ (m : Nat) (i : Int) (y : Int64), 0 ≤ i → i + m = 3 → zFo (vPer S k) m i y = h1 → ∀ σ2 : zSt, dK σ σ2 → RC σ2 S → V 5 MX6_mixedWithDay 6 [some (vR 5 0), some (vL h), none, some (vZ k), some (vL y), none, some (vZ i)] [] σ2 post := by
    intro m
    induction m with
    | zero =>
      intro i y i0 i1 he σ2 hk hR2
      have he : y = h1 := he
      subst he
      refine V_run kX6_mixedWithDay 3 [1] (show (zr i ∧ zr 2 ∧ 2 < i) ∧ V 5 MX6_mixedWithDay 33 [some (vR 5 0), some (vL h), none, some (vZ k), some (vL y), none, some (vZ i)] [] σ2 post from ⟨(by omega), ?_⟩)
      refine V_drop (L := [some (vR 5 0), some (vL h), none, some (vZ k), some (vL y), none, none]) ⟨rfl, ⟨rfl, ⟨rfl, ⟨rfl, trivial⟩⟩⟩⟩ ?_
      exact part2 σ2 hk hR2
    | succ m ih =>
      intro i y i0 i1 he σ2 hk hR2
      unfold zFo at he
      refine V_run kX6_mixedWithDay 7 [0] (show (zr i ∧ zr 2 ∧ i ≤ 2) ∧ V 5 MX6_mixedWithDay 18 [some (vR 5 0), some (vL h), none, some (vZ k), some (vL y), none, some (vZ i)] [vZ i, vZ k, vR 5 0, vL y] σ2 post from ⟨(by omega), ?_⟩)
      refine V_callV (a := [vZ k, vZ i]) (rest := [vL y]) kX6_mixedWithDay rfl oX6_person iX6_person lk_6_379 rfl rfl rfl (Nat.le_of_ble_eq_true rfl) (Nat.le_of_ble_eq_true rfl) (Nat.le_of_ble_eq_true rfl) (post' := fun zv zσ => V 5 MX6_mixedWithDay 21 [some (vR 5 0), some (vL h), none, some (vZ k), some (vL y), none, some (vZ i)] (zv.toList ++ [vL y]) zσ post) (c_N_person hR2 ho (by omega) (by omega) (fun τ1 hx1 hRx1 => (show V 5 MX6_mixedWithDay 21 [some (vR 5 0), some (vL h), none, some (vZ k), some (vL y), none, some (vZ i)] [vZ (aPerson S k i), vL y] τ1 post from ?_))) (fun _ _ h => h)
      have kx1 := hk.tr hx1
      refine V_top (show aPerson S k i = vPer S k i from if_pos ⟨⟨k0, k1⟩, i0, by omega⟩) ?_
      obtain ⟨g2, e_g2⟩ : ∃ q, q = zMx y (vPer S k i) := ⟨_, rfl⟩
      refine V_run kX6_mixedWithDay 1 [] (show V 5 MX6_mixedWithDay 22 [some (vR 5 0), some (vL h), none, some (vZ k), some (vL y), none, some (vZ i)] [vL (zi2l (vPer S k i)), vL y] τ1 post from ?_)
      refine V_callS (a := [vL y, vL (zi2l (vPer S k i))]) (rest := []) kX6_mixedWithDay rfl oX6_mixed iX6_mixed lk_6_292 rfl rfl (Nat.le_of_ble_eq_true rfl) (Nat.le_of_ble_eq_true rfl) (Nat.le_of_ble_eq_true rfl) (post' := fun zv zσ => V 5 MX6_mixedWithDay 25 [some (vR 5 0), some (vL h), none, some (vZ k), some (vL y), none, some (vZ i)] (zv.toList ++ []) zσ post) (c_N_mixed ((show V 5 MX6_mixedWithDay 25 [some (vR 5 0), some (vL h), none, some (vZ k), some (vL y), none, some (vZ i)] [vL ((31 : Int64) * y + zi2l (vPer S k i))] τ1 post from ?_))) (fun _ _ h => h)
      refine V_topL (e_g2.symm) ?_
      refine V_run kX6_mixedWithDay 3 [] (show V 5 MX6_mixedWithDay 6 [some (vR 5 0), some (vL h), none, some (vZ k), some (vL g2), none, some (vZ (i + 1))] [] τ1 post from ?_)
      exact ih (i + 1) _ (by omega) (by omega) (by rw [e_g2]; exact he) _ kx1 hRx1
  show V 5 MX6_mixedWithDay 0 [some (vR 5 0), some (vL h), none, some (vZ k), none, none, none] [] σ post
  refine V_run kX6_mixedWithDay 4 [] (show V 5 MX6_mixedWithDay 6 [some (vR 5 0), some (vL h), none, some (vZ k), some (vL h), none, some (vZ 0)] [] σ post from ?_)
  exact loop1 3 0 h (by omega) (by omega) e1.symm σ dK.rf hR
set_option maxHeartbeats 8000000 in
set_option maxRecDepth 100000 in
/-- mixedWithGuesses -/
theorem c_N_mixG {h : Int64} {k : Int} {S : zAb} {σ : zSt} {post : Option VV → zSt → Prop} (hR : RC σ S) (ho : aOk S) (k0 : 0 ≤ k) (k1 : k < cn (aC S)) (hp : ∀ σ', dK σ σ' → RC σ' S → post (some (vL (zDgG S h k))) σ') : Mc 6 MX6_mixedWithGuesses [vR 5 0, vL h, vZ k] σ post := by
  have hcn := (aC_ok ho).1
  have hkz : zr k := ⟨by omega, by omega⟩
  show V 6 MX6_mixedWithGuesses 0 [some (vR 5 0), some (vL h), none, some (vZ k), none, none] [] σ post
  refine V_run kX6_mixedWithGuesses 4 [] (show V 6 MX6_mixedWithGuesses 4 [some (vR 5 0), some (vL h), none, some (vZ k), none, none] [vZ 0, vZ k, vR 5 0, vL h] σ post from ?_)
  refine V_callV (a := [vZ k, vZ 0]) (rest := [vL h]) kX6_mixedWithGuesses rfl oX6_come iX6_come lk_6_391 rfl rfl rfl (Nat.le_of_ble_eq_true rfl) (Nat.le_of_ble_eq_true rfl) (Nat.le_of_ble_eq_true rfl) (post' := fun zv zσ => V 6 MX6_mixedWithGuesses 7 [some (vR 5 0), some (vL h), none, some (vZ k), none, none] (zv.toList ++ [vL h]) zσ post) (c_N_come hR ho (by omega) (by omega) (fun τ1 hx1 hRx1 => (show V 6 MX6_mixedWithGuesses 7 [some (vR 5 0), some (vL h), none, some (vZ k), none, none] [vZ (aCome S k 0), vL h] τ1 post from ?_))) (fun _ _ h => h)
  have kx1 := hx1
  refine V_top (show aCome S k 0 = zAlw (zCom (aC S) k 24 0 (-1) 0) 0 from if_pos ⟨⟨k0, k1⟩, by decide, by decide⟩) ?_
  obtain ⟨g0, e_g0⟩ : ∃ q, q = zMx h (zAlw (zCom (aC S) k 24 0 (-1) 0) 0) := ⟨_, rfl⟩
  refine V_run kX6_mixedWithGuesses 1 [] (show V 6 MX6_mixedWithGuesses 8 [some (vR 5 0), some (vL h), none, some (vZ k), none, none] [vL (zi2l (zAlw (zCom (aC S) k 24 0 (-1) 0) 0)), vL h] τ1 post from ?_)
  refine V_callS (a := [vL h, vL (zi2l (zAlw (zCom (aC S) k 24 0 (-1) 0) 0))]) (rest := []) kX6_mixedWithGuesses rfl oX6_mixed iX6_mixed lk_6_292 rfl rfl (Nat.le_of_ble_eq_true rfl) (Nat.le_of_ble_eq_true rfl) (Nat.le_of_ble_eq_true rfl) (post' := fun zv zσ => V 6 MX6_mixedWithGuesses 11 [some (vR 5 0), some (vL h), none, some (vZ k), none, none] (zv.toList ++ []) zσ post) (c_N_mixed ((show V 6 MX6_mixedWithGuesses 11 [some (vR 5 0), some (vL h), none, some (vZ k), none, none] [vL ((31 : Int64) * h + zi2l (zAlw (zCom (aC S) k 24 0 (-1) 0) 0))] τ1 post from ?_))) (fun _ _ h => h)
  refine V_topL (e_g0.symm) ?_
  refine V_run kX6_mixedWithGuesses 5 [] (show V 6 MX6_mixedWithGuesses 18 [some (vR 5 0), some (vL h), none, some (vZ k), some (vL g0), none] [vZ 1, vZ k, vR 5 0, vL g0] τ1 post from ?_)
  refine V_callV (a := [vZ k, vZ 1]) (rest := [vL g0]) kX6_mixedWithGuesses rfl oX6_come iX6_come lk_6_391 rfl rfl rfl (Nat.le_of_ble_eq_true rfl) (Nat.le_of_ble_eq_true rfl) (Nat.le_of_ble_eq_true rfl) (post' := fun zv zσ => V 6 MX6_mixedWithGuesses 21 [some (vR 5 0), some (vL h), none, some (vZ k), some (vL g0), none] (zv.toList ++ [vL g0]) zσ post) (c_N_come hRx1 ho (by omega) (by omega) (fun τ2 hx2 hRx2 => (show V 6 MX6_mixedWithGuesses 21 [some (vR 5 0), some (vL h), none, some (vZ k), some (vL g0), none] [vZ (aCome S k 1), vL g0] τ2 post from ?_))) (fun _ _ h => h)
  have kx2 := kx1.tr hx2
  refine V_top (show aCome S k 1 = zAlw (zCom (aC S) k 24 0 (-1) 0) 1 from if_pos ⟨⟨k0, k1⟩, by decide, by decide⟩) ?_
  obtain ⟨g1, e_g1⟩ : ∃ q, q = zMx g0 (zAlw (zCom (aC S) k 24 0 (-1) 0) 1) := ⟨_, rfl⟩
  refine V_run kX6_mixedWithGuesses 1 [] (show V 6 MX6_mixedWithGuesses 22 [some (vR 5 0), some (vL h), none, some (vZ k), some (vL g0), none] [vL (zi2l (zAlw (zCom (aC S) k 24 0 (-1) 0) 1)), vL g0] τ2 post from ?_)
  refine V_callS (a := [vL g0, vL (zi2l (zAlw (zCom (aC S) k 24 0 (-1) 0) 1))]) (rest := []) kX6_mixedWithGuesses rfl oX6_mixed iX6_mixed lk_6_292 rfl rfl (Nat.le_of_ble_eq_true rfl) (Nat.le_of_ble_eq_true rfl) (Nat.le_of_ble_eq_true rfl) (post' := fun zv zσ => V 6 MX6_mixedWithGuesses 25 [some (vR 5 0), some (vL h), none, some (vZ k), some (vL g0), none] (zv.toList ++ []) zσ post) (c_N_mixed ((show V 6 MX6_mixedWithGuesses 25 [some (vR 5 0), some (vL h), none, some (vZ k), some (vL g0), none] [vL ((31 : Int64) * g0 + zi2l (zAlw (zCom (aC S) k 24 0 (-1) 0) 1))] τ2 post from ?_))) (fun _ _ h => h)
  refine V_topL (e_g1.symm) ?_
  refine V_run kX6_mixedWithGuesses 5 [] (show V 6 MX6_mixedWithGuesses 32 [some (vR 5 0), some (vL h), none, some (vZ k), some (vL g1), none] [vZ 0, vZ k, vR 5 0, vL g1] τ2 post from ?_)
  refine V_callV (a := [vZ k, vZ 0]) (rest := [vL g1]) kX6_mixedWithGuesses rfl oX6_was iX6_was lk_6_394 rfl rfl rfl (Nat.le_of_ble_eq_true rfl) (Nat.le_of_ble_eq_true rfl) (Nat.le_of_ble_eq_true rfl) (post' := fun zv zσ => V 6 MX6_mixedWithGuesses 35 [some (vR 5 0), some (vL h), none, some (vZ k), some (vL g1), none] (zv.toList ++ [vL g1]) zσ post) (c_N_was hRx2 ho (by omega) (by omega) (fun τ3 hx3 hRx3 => (show V 6 MX6_mixedWithGuesses 35 [some (vR 5 0), some (vL h), none, some (vZ k), some (vL g1), none] [vZ (aWas S k 0), vL g1] τ3 post from ?_))) (fun _ _ h => h)
  have kx3 := kx2.tr hx3
  refine V_top (show aWas S k 0 = zSos S k 3 0 0 from (if_pos ⟨⟨k0, k1⟩, by decide, by decide⟩).trans (if_pos rfl)) ?_
  obtain ⟨g2, e_g2⟩ : ∃ q, q = zMx g1 (zSos S k 3 0 0) := ⟨_, rfl⟩
  refine V_run kX6_mixedWithGuesses 1 [] (show V 6 MX6_mixedWithGuesses 36 [some (vR 5 0), some (vL h), none, some (vZ k), some (vL g1), none] [vL (zi2l (zSos S k 3 0 0)), vL g1] τ3 post from ?_)
  refine V_callS (a := [vL g1, vL (zi2l (zSos S k 3 0 0))]) (rest := []) kX6_mixedWithGuesses rfl oX6_mixed iX6_mixed lk_6_292 rfl rfl (Nat.le_of_ble_eq_true rfl) (Nat.le_of_ble_eq_true rfl) (Nat.le_of_ble_eq_true rfl) (post' := fun zv zσ => V 6 MX6_mixedWithGuesses 39 [some (vR 5 0), some (vL h), none, some (vZ k), some (vL g1), none] (zv.toList ++ []) zσ post) (c_N_mixed ((show V 6 MX6_mixedWithGuesses 39 [some (vR 5 0), some (vL h), none, some (vZ k), some (vL g1), none] [vL ((31 : Int64) * g1 + zi2l (zSos S k 3 0 0))] τ3 post from ?_))) (fun _ _ h => h)
  refine V_topL (e_g2.symm) ?_
  refine V_run kX6_mixedWithGuesses 5 [] (show V 6 MX6_mixedWithGuesses 46 [some (vR 5 0), some (vL h), none, some (vZ k), some (vL g2), none] [vZ 1, vZ k, vR 5 0, vL g2] τ3 post from ?_)
  refine V_callV (a := [vZ k, vZ 1]) (rest := [vL g2]) kX6_mixedWithGuesses rfl oX6_was iX6_was lk_6_394 rfl rfl rfl (Nat.le_of_ble_eq_true rfl) (Nat.le_of_ble_eq_true rfl) (Nat.le_of_ble_eq_true rfl) (post' := fun zv zσ => V 6 MX6_mixedWithGuesses 49 [some (vR 5 0), some (vL h), none, some (vZ k), some (vL g2), none] (zv.toList ++ [vL g2]) zσ post) (c_N_was hRx3 ho (by omega) (by omega) (fun τ4 hx4 hRx4 => (show V 6 MX6_mixedWithGuesses 49 [some (vR 5 0), some (vL h), none, some (vZ k), some (vL g2), none] [vZ (aWas S k 1), vL g2] τ4 post from ?_))) (fun _ _ h => h)
  have kx4 := kx3.tr hx4
  refine V_top (show aWas S k 1 = zPab S k 9 1 0 from (if_pos ⟨⟨k0, k1⟩, by decide, by decide⟩).trans (if_neg (by decide))) ?_
  obtain ⟨g3, e_g3⟩ : ∃ q, q = zMx g2 (zPab S k 9 1 0) := ⟨_, rfl⟩
  refine V_run kX6_mixedWithGuesses 1 [] (show V 6 MX6_mixedWithGuesses 50 [some (vR 5 0), some (vL h), none, some (vZ k), some (vL g2), none] [vL (zi2l (zPab S k 9 1 0)), vL g2] τ4 post from ?_)
  refine V_callS (a := [vL g2, vL (zi2l (zPab S k 9 1 0))]) (rest := []) kX6_mixedWithGuesses rfl oX6_mixed iX6_mixed lk_6_292 rfl rfl (Nat.le_of_ble_eq_true rfl) (Nat.le_of_ble_eq_true rfl) (Nat.le_of_ble_eq_true rfl) (post' := fun zv zσ => V 6 MX6_mixedWithGuesses 53 [some (vR 5 0), some (vL h), none, some (vZ k), some (vL g2), none] (zv.toList ++ []) zσ post) (c_N_mixed ((show V 6 MX6_mixedWithGuesses 53 [some (vR 5 0), some (vL h), none, some (vZ k), some (vL g2), none] [vL ((31 : Int64) * g2 + zi2l (zPab S k 9 1 0))] τ4 post from ?_))) (fun _ _ h => h)
  refine V_topL (e_g3.symm) ?_
  refine V_run kX6_mixedWithGuesses 4 [] (show V 6 MX6_mixedWithGuesses 59 [some (vR 5 0), some (vL h), none, some (vZ k), some (vL g3), none] [vZ k, vR 5 0, vL g3] τ4 post from ?_)
  refine V_callV (a := [vZ k]) (rest := [vL g3]) kX6_mixedWithGuesses rfl oX6_ask iX6_ask lk_6_397 rfl rfl rfl (Nat.le_of_ble_eq_true rfl) (Nat.le_of_ble_eq_true rfl) (Nat.le_of_ble_eq_true rfl) (post' := fun zv zσ => V 6 MX6_mixedWithGuesses 62 [some (vR 5 0), some (vL h), none, some (vZ k), some (vL g3), none] (zv.toList ++ [vL g3]) zσ post) (c_N_ask hRx4 ho (by omega) (fun τ5 hx5 hRx5 => (show V 6 MX6_mixedWithGuesses 62 [some (vR 5 0), some (vL h), none, some (vZ k), some (vL g3), none] [vZ (aAsk S k), vL g3] τ5 post from ?_))) (fun _ _ h => h)
  have kx5 := kx4.tr hx5
  refine V_top (show aAsk S k = zAk (aC S) k (zPab S k 9 1 0) 24 0 (-1) 0 from if_pos ⟨k0, k1⟩) ?_
  obtain ⟨g4, e_g4⟩ : ∃ q, q = zMx g3 (zAk (aC S) k (zPab S k 9 1 0) 24 0 (-1) 0) := ⟨_, rfl⟩
  refine V_run kX6_mixedWithGuesses 1 [] (show V 6 MX6_mixedWithGuesses 63 [some (vR 5 0), some (vL h), none, some (vZ k), some (vL g3), none] [vL (zi2l (zAk (aC S) k (zPab S k 9 1 0) 24 0 (-1) 0)), vL g3] τ5 post from ?_)
  refine V_callS (a := [vL g3, vL (zi2l (zAk (aC S) k (zPab S k 9 1 0) 24 0 (-1) 0))]) (rest := []) kX6_mixedWithGuesses rfl oX6_mixed iX6_mixed lk_6_292 rfl rfl (Nat.le_of_ble_eq_true rfl) (Nat.le_of_ble_eq_true rfl) (Nat.le_of_ble_eq_true rfl) (post' := fun zv zσ => V 6 MX6_mixedWithGuesses 66 [some (vR 5 0), some (vL h), none, some (vZ k), some (vL g3), none] (zv.toList ++ []) zσ post) (c_N_mixed ((show V 6 MX6_mixedWithGuesses 66 [some (vR 5 0), some (vL h), none, some (vZ k), some (vL g3), none] [vL ((31 : Int64) * g3 + zi2l (zAk (aC S) k (zPab S k 9 1 0) 24 0 (-1) 0))] τ5 post from ?_))) (fun _ _ h => h)
  refine V_topL (e_g4.symm) ?_
  refine V_run kX6_mixedWithGuesses 6 [] (show V 6 MX6_mixedWithGuesses 74 [some (vR 5 0), some (vL h), none, some (vZ k), some (vL g4), none] [vZ 0, vZ k, vZ 5, vR 5 0, vL g4] τ5 post from ?_)
  refine V_callV (a := [vZ 5, vZ k, vZ 0]) (rest := [vL g4]) kX6_mixedWithGuesses rfl oX6_chance iX6_chance lk_6_400 rfl rfl rfl (Nat.le_of_ble_eq_true rfl) (Nat.le_of_ble_eq_true rfl) (Nat.le_of_ble_eq_true rfl) (post' := fun zv zσ => V 6 MX6_mixedWithGuesses 77 [some (vR 5 0), some (vL h), none, some (vZ k), some (vL g4), none] (zv.toList ++ [vL g4]) zσ post) (c_N_chance hRx5 ho (by omega) (by omega) (by omega) (fun τ6 hx6 hRx6 => (show V 6 MX6_mixedWithGuesses 77 [some (vR 5 0), some (vL h), none, some (vZ k), some (vL g4), none] [vL (aChance S 5 k 0), vL g4] τ6 post from ?_))) (fun _ _ h => h)
  have kx6 := kx5.tr hx6
  refine V_topL (show aChance S 5 k 0 = zCha S 5 k 0 from if_pos ⟨⟨by decide, by decide⟩, ⟨k0, k1⟩, by decide, by decide⟩) ?_
  obtain ⟨g5, e_g5⟩ : ∃ q, q = zMl g4 (zCha S 5 k 0) := ⟨_, rfl⟩
  refine V_callS (a := [vL g4, vL (zCha S 5 k 0)]) (rest := []) kX6_mixedWithGuesses rfl oX6_mixed iX6_mixed lk_6_292 rfl rfl (Nat.le_of_ble_eq_true rfl) (Nat.le_of_ble_eq_true rfl) (Nat.le_of_ble_eq_true rfl) (post' := fun zv zσ => V 6 MX6_mixedWithGuesses 80 [some (vR 5 0), some (vL h), none, some (vZ k), some (vL g4), none] (zv.toList ++ []) zσ post) (c_N_mixed ((show V 6 MX6_mixedWithGuesses 80 [some (vR 5 0), some (vL h), none, some (vZ k), some (vL g4), none] [vL ((31 : Int64) * g4 + zCha S 5 k 0)] τ6 post from ?_))) (fun _ _ h => h)
  refine V_topL (e_g5.symm) ?_
  refine V_run kX6_mixedWithGuesses 6 [] (show V 6 MX6_mixedWithGuesses 88 [some (vR 5 0), some (vL h), none, some (vZ k), some (vL g5), none] [vZ 1, vZ k, vZ 5, vR 5 0, vL g5] τ6 post from ?_)
  refine V_callV (a := [vZ 5, vZ k, vZ 1]) (rest := [vL g5]) kX6_mixedWithGuesses rfl oX6_chance iX6_chance lk_6_400 rfl rfl rfl (Nat.le_of_ble_eq_true rfl) (Nat.le_of_ble_eq_true rfl) (Nat.le_of_ble_eq_true rfl) (post' := fun zv zσ => V 6 MX6_mixedWithGuesses 91 [some (vR 5 0), some (vL h), none, some (vZ k), some (vL g5), none] (zv.toList ++ [vL g5]) zσ post) (c_N_chance hRx6 ho (by omega) (by omega) (by omega) (fun τ7 hx7 hRx7 => (show V 6 MX6_mixedWithGuesses 91 [some (vR 5 0), some (vL h), none, some (vZ k), some (vL g5), none] [vL (aChance S 5 k 1), vL g5] τ7 post from ?_))) (fun _ _ h => h)
  have kx7 := kx6.tr hx7
  refine V_topL (show aChance S 5 k 1 = zCha S 5 k 1 from if_pos ⟨⟨by decide, by decide⟩, ⟨k0, k1⟩, by decide, by decide⟩) ?_
  obtain ⟨g6, e_g6⟩ : ∃ q, q = zMl g5 (zCha S 5 k 1) := ⟨_, rfl⟩
  refine V_callS (a := [vL g5, vL (zCha S 5 k 1)]) (rest := []) kX6_mixedWithGuesses rfl oX6_mixed iX6_mixed lk_6_292 rfl rfl (Nat.le_of_ble_eq_true rfl) (Nat.le_of_ble_eq_true rfl) (Nat.le_of_ble_eq_true rfl) (post' := fun zv zσ => V 6 MX6_mixedWithGuesses 94 [some (vR 5 0), some (vL h), none, some (vZ k), some (vL g5), none] (zv.toList ++ []) zσ post) (c_N_mixed ((show V 6 MX6_mixedWithGuesses 94 [some (vR 5 0), some (vL h), none, some (vZ k), some (vL g5), none] [vL ((31 : Int64) * g5 + zCha S 5 k 1)] τ7 post from ?_))) (fun _ _ h => h)
  refine V_topL (e_g6.symm) ?_
  have fin : zMx g6 (if k = 0 then 0 else vApart S 9 0 k) = zDgG S h k := by unfold zDgG; rw [e_g6, e_g5, e_g4, e_g3, e_g2, e_g1, e_g0]
  refine V_run kX6_mixedWithGuesses 3 [] (show V 6 MX6_mixedWithGuesses 99 [some (vR 5 0), some (vL h), none, some (vZ k), some (vL g6), none] [vZ k, vL g6] τ7 post from ?_)
  by_cases z : k = 0
  · skip
    rw [if_pos z] at fin
    refine V_run kX6_mixedWithGuesses 3 [0] (show (zr k ∧ k = 0) ∧ V 6 MX6_mixedWithGuesses 115 [some (vR 5 0), some (vL h), none, some (vZ k), some (vL g6), none] [vL (0 : Int64), vL g6] τ7 post from ⟨(by omega), ?_⟩)
    refine V_callS (a := [vL g6, vL (0 : Int64)]) (rest := []) kX6_mixedWithGuesses rfl oX6_mixed iX6_mixed lk_6_292 rfl rfl (Nat.le_of_ble_eq_true rfl) (Nat.le_of_ble_eq_true rfl) (Nat.le_of_ble_eq_true rfl) (post' := fun zv zσ => V 6 MX6_mixedWithGuesses 118 [some (vR 5 0), some (vL h), none, some (vZ k), some (vL g6), none] (zv.toList ++ []) zσ post) (c_N_mixed ((show V 6 MX6_mixedWithGuesses 118 [some (vR 5 0), some (vL h), none, some (vZ k), some (vL g6), none] [vL ((31 : Int64) * g6 + 0)] τ7 post from ?_))) (fun _ _ h => h)
    refine V_topL (show (31 : Int64) * g6 + zi2l 0 = _ from fin) ?_
    exact V_lret kX6_mixedWithGuesses rfl rfl (hp _ kx7 hRx7)
  · skip
    rw [if_neg z] at fin
    refine V_run kX6_mixedWithGuesses 5 [1] (show (zr k ∧ ¬ k = 0) ∧ V 6 MX6_mixedWithGuesses 111 [some (vR 5 0), some (vL h), none, some (vZ k), some (vL g6), none] [vZ k, vZ 0, vZ 9, vR 5 0, vL g6] τ7 post from ⟨(by omega), ?_⟩)
    refine V_callV (a := [vZ 9, vZ 0, vZ k]) (rest := [vL g6]) kX6_mixedWithGuesses rfl oX6_apart iX6_apart lk_6_403 rfl rfl rfl (Nat.le_of_ble_eq_true rfl) (Nat.le_of_ble_eq_true rfl) (Nat.le_of_ble_eq_true rfl) (post' := fun zv zσ => V 6 MX6_mixedWithGuesses 114 [some (vR 5 0), some (vL h), none, some (vZ k), some (vL g6), none] (zv.toList ++ [vL g6]) zσ post) (c_N_apart hRx7 ho (by omega) (by omega) (by omega) (fun τ8 hx8 hRx8 => (show V 6 MX6_mixedWithGuesses 114 [some (vR 5 0), some (vL h), none, some (vZ k), some (vL g6), none] [vZ (aApart S 9 0 k), vL g6] τ8 post from ?_))) (fun _ _ h => h)
    have kx8 := kx7.tr hx8
    refine V_top (show aApart S 9 0 k = vApart S 9 0 k from if_pos ⟨⟨by decide, by decide⟩, ⟨by decide, by omega⟩, ⟨k0, k1⟩, fun y => z y.symm⟩) ?_
    refine V_run kX6_mixedWithGuesses 1 [] (show V 6 MX6_mixedWithGuesses 115 [some (vR 5 0), some (vL h), none, some (vZ k), some (vL g6), none] [vL (zi2l (vApart S 9 0 k)), vL g6] τ8 post from ?_)
    refine V_callS (a := [vL g6, vL (zi2l (vApart S 9 0 k))]) (rest := []) kX6_mixedWithGuesses rfl oX6_mixed iX6_mixed lk_6_292 rfl rfl (Nat.le_of_ble_eq_true rfl) (Nat.le_of_ble_eq_true rfl) (Nat.le_of_ble_eq_true rfl) (post' := fun zv zσ => V 6 MX6_mixedWithGuesses 118 [some (vR 5 0), some (vL h), none, some (vZ k), some (vL g6), none] (zv.toList ++ []) zσ post) (c_N_mixed ((show V 6 MX6_mixedWithGuesses 118 [some (vR 5 0), some (vL h), none, some (vZ k), some (vL g6), none] [vL ((31 : Int64) * g6 + zi2l (vApart S 9 0 k))] τ8 post from ?_))) (fun _ _ h => h)
    refine V_topL (fin) ?_
    exact V_lret kX6_mixedWithGuesses rfl rfl (hp _ kx8 hRx8)
set_option maxHeartbeats 16000000 in
set_option maxRecDepth 100000 in
/-- digest -/
theorem c_N_digest {S : zAb} {σ : zSt} {post : Option VV → zSt → Prop} (hR : RC σ S) (ho : aOk S) (hp : ∀ σ', dK σ σ' → RC σ' S → post (some (vL (aDigest S))) σ') : Mc 7 MX6_digest [vR 5 0] σ post := by
  have hok := aC_ok ho
  have hcn := hok.1
  obtain ⟨h1, e1⟩ : ∃ y, y = zFo (aCount S) 8 0 17 := ⟨_, rfl⟩
  obtain ⟨h2, e2⟩ : ∃ y, y = zMx h1 (vFault S 0) := ⟨_, rfl⟩
  obtain ⟨h3, e3⟩ : ∃ y, y = zMx h2 (vFault S 1) := ⟨_, rfl⟩
  obtain ⟨h4, e4⟩ : ∃ y, y = zDgT S 24 0 h3 := ⟨_, rfl⟩
  obtain ⟨h5, e5⟩ : ∃ y, y = zDgK S (cn (aC S)).toNat 0 h4 := ⟨_, rfl⟩
  have part4 : ∀ σ2 : zSt, dK σ σ2 → RC σ2 S → V 7 MX6_digest 144 [some (vR 5 0), some (vL h5), none, none] [] σ2 post := by
    intro σ2 hk hR2
    refine V_run kX6_digest 3 [] (show V 7 MX6_digest 147 [some (vR 5 0), some (vL h5), none, none] [vZ 0, vR 5 0, vL h5] σ2 post from ?_)
    refine V_callV (a := [vZ 0]) (rest := [vL h5]) kX6_digest rfl oX6_alfred iX6_alfred lk_6_315 rfl rfl rfl (Nat.le_of_ble_eq_true rfl) (Nat.le_of_ble_eq_true rfl) (Nat.le_of_ble_eq_true rfl) (post' := fun zv zσ => V 7 MX6_digest 150 [some (vR 5 0), some (vL h5), none, none] (zv.toList ++ [vL h5]) zσ post) (c_N_alfred hR2 ho (by omega) (fun τ1 hx1 hRx1 => (show V 7 MX6_digest 150 [some (vR 5 0), some (vL h5), none, none] [vZ (aAlfred S 0), vL h5] τ1 post from ?_))) (fun _ _ h => h)
    have kx1 := hk.tr hx1
    refine V_top (show aAlfred S 0 = zAlw (zAlf (aC S) (cn (aC S)).toNat 0 (-1) 0) 0 from if_pos ⟨by decide, by decide⟩) ?_
    obtain ⟨g0, e_g0⟩ : ∃ q, q = zMx h5 (zAlw (zAlf (aC S) (cn (aC S)).toNat 0 (-1) 0) 0) := ⟨_, rfl⟩
    refine V_run kX6_digest 1 [] (show V 7 MX6_digest 151 [some (vR 5 0), some (vL h5), none, none] [vL (zi2l (zAlw (zAlf (aC S) (cn (aC S)).toNat 0 (-1) 0) 0)), vL h5] τ1 post from ?_)
    refine V_callS (a := [vL h5, vL (zi2l (zAlw (zAlf (aC S) (cn (aC S)).toNat 0 (-1) 0) 0))]) (rest := []) kX6_digest rfl oX6_mixed iX6_mixed lk_6_292 rfl rfl (Nat.le_of_ble_eq_true rfl) (Nat.le_of_ble_eq_true rfl) (Nat.le_of_ble_eq_true rfl) (post' := fun zv zσ => V 7 MX6_digest 154 [some (vR 5 0), some (vL h5), none, none] (zv.toList ++ []) zσ post) (c_N_mixed ((show V 7 MX6_digest 154 [some (vR 5 0), some (vL h5), none, none] [vL ((31 : Int64) * h5 + zi2l (zAlw (zAlf (aC S) (cn (aC S)).toNat 0 (-1) 0) 0))] τ1 post from ?_))) (fun _ _ h => h)
    refine V_topL (e_g0.symm) ?_
    refine V_run kX6_digest 4 [] (show V 7 MX6_digest 158 [some (vR 5 0), some (vL g0), none, none] [vZ 1, vR 5 0, vL g0] τ1 post from ?_)
    refine V_callV (a := [vZ 1]) (rest := [vL g0]) kX6_digest rfl oX6_alfred iX6_alfred lk_6_315 rfl rfl rfl (Nat.le_of_ble_eq_true rfl) (Nat.le_of_ble_eq_true rfl) (Nat.le_of_ble_eq_true rfl) (post' := fun zv zσ => V 7 MX6_digest 161 [some (vR 5 0), some (vL g0), none, none] (zv.toList ++ [vL g0]) zσ post) (c_N_alfred hRx1 ho (by omega) (fun τ2 hx2 hRx2 => (show V 7 MX6_digest 161 [some (vR 5 0), some (vL g0), none, none] [vZ (aAlfred S 1), vL g0] τ2 post from ?_))) (fun _ _ h => h)
    have kx2 := kx1.tr hx2
    refine V_top (show aAlfred S 1 = zAlw (zAlf (aC S) (cn (aC S)).toNat 0 (-1) 0) 1 from if_pos ⟨by decide, by decide⟩) ?_
    obtain ⟨g1, e_g1⟩ : ∃ q, q = zMx g0 (zAlw (zAlf (aC S) (cn (aC S)).toNat 0 (-1) 0) 1) := ⟨_, rfl⟩
    refine V_run kX6_digest 1 [] (show V 7 MX6_digest 162 [some (vR 5 0), some (vL g0), none, none] [vL (zi2l (zAlw (zAlf (aC S) (cn (aC S)).toNat 0 (-1) 0) 1)), vL g0] τ2 post from ?_)
    refine V_callS (a := [vL g0, vL (zi2l (zAlw (zAlf (aC S) (cn (aC S)).toNat 0 (-1) 0) 1))]) (rest := []) kX6_digest rfl oX6_mixed iX6_mixed lk_6_292 rfl rfl (Nat.le_of_ble_eq_true rfl) (Nat.le_of_ble_eq_true rfl) (Nat.le_of_ble_eq_true rfl) (post' := fun zv zσ => V 7 MX6_digest 165 [some (vR 5 0), some (vL g0), none, none] (zv.toList ++ []) zσ post) (c_N_mixed ((show V 7 MX6_digest 165 [some (vR 5 0), some (vL g0), none, none] [vL ((31 : Int64) * g0 + zi2l (zAlw (zAlf (aC S) (cn (aC S)).toNat 0 (-1) 0) 1))] τ2 post from ?_))) (fun _ _ h => h)
    refine V_topL (e_g1.symm) ?_
    refine V_run kX6_digest 3 [] (show V 7 MX6_digest 168 [some (vR 5 0), some (vL g1), none, none] [vR 5 0, vL g1] τ2 post from ?_)
    refine V_callV (a := []) (rest := [vL g1]) kX6_digest rfl oX6_kettle iX6_kettle lk_6_318 rfl rfl rfl (Nat.le_of_ble_eq_true rfl) (Nat.le_of_ble_eq_true rfl) (Nat.le_of_ble_eq_true rfl) (post' := fun zv zσ => V 7 MX6_digest 171 [some (vR 5 0), some (vL g1), none, none] (zv.toList ++ [vL g1]) zσ post) (c_N_kettle hRx2 ho (fun τ3 hx3 hRx3 => (show V 7 MX6_digest 171 [some (vR 5 0), some (vL g1), none, none] [vZ (aKettle S), vL g1] τ3 post from ?_))) (fun _ _ h => h)
    have kx3 := kx2.tr hx3
    refine V_top (show aKettle S = zKet (aC S) (cn (aC S)).toNat 0 0 from rfl) ?_
    obtain ⟨g2, e_g2⟩ : ∃ q, q = zMx g1 (zKet (aC S) (cn (aC S)).toNat 0 0) := ⟨_, rfl⟩
    refine V_run kX6_digest 1 [] (show V 7 MX6_digest 172 [some (vR 5 0), some (vL g1), none, none] [vL (zi2l (zKet (aC S) (cn (aC S)).toNat 0 0)), vL g1] τ3 post from ?_)
    refine V_callS (a := [vL g1, vL (zi2l (zKet (aC S) (cn (aC S)).toNat 0 0))]) (rest := []) kX6_digest rfl oX6_mixed iX6_mixed lk_6_292 rfl rfl (Nat.le_of_ble_eq_true rfl) (Nat.le_of_ble_eq_true rfl) (Nat.le_of_ble_eq_true rfl) (post' := fun zv zσ => V 7 MX6_digest 175 [some (vR 5 0), some (vL g1), none, none] (zv.toList ++ []) zσ post) (c_N_mixed ((show V 7 MX6_digest 175 [some (vR 5 0), some (vL g1), none, none] [vL ((31 : Int64) * g1 + zi2l (zKet (aC S) (cn (aC S)).toNat 0 0))] τ3 post from ?_))) (fun _ _ h => h)
    refine V_topL (e_g2.symm) ?_
    refine V_run kX6_digest 5 [] (show V 7 MX6_digest 181 [some (vR 5 0), some (vL g2), none, none] [vZ 0, vZ 8, vR 5 0, vL g2] τ3 post from ?_)
    refine V_callV (a := [vZ 8, vZ 0]) (rest := [vL g2]) kX6_digest rfl oX6_open iX6_open lk_6_321 rfl rfl rfl (Nat.le_of_ble_eq_true rfl) (Nat.le_of_ble_eq_true rfl) (Nat.le_of_ble_eq_true rfl) (post' := fun zv zσ => V 7 MX6_digest 184 [some (vR 5 0), some (vL g2), none, none] (zv.toList ++ [vL g2]) zσ post) (c_N_open hRx3 ho (by omega) (by omega) (fun τ4 hx4 hRx4 => (show V 7 MX6_digest 184 [some (vR 5 0), some (vL g2), none, none] [vZ (aOpen S 8 0), vL g2] τ4 post from ?_))) (fun _ _ h => h)
    have kx4 := kx3.tr hx4
    refine V_top (show aOpen S 8 0 = zPick (zOpn (aC S) 8 4 0 (-1) (-1)) 0 from if_pos ⟨⟨by decide, by decide⟩, ⟨by decide, by decide⟩⟩) ?_
    obtain ⟨g3, e_g3⟩ : ∃ q, q = zMx g2 (zPick (zOpn (aC S) 8 4 0 (-1) (-1)) 0) := ⟨_, rfl⟩
    refine V_run kX6_digest 1 [] (show V 7 MX6_digest 185 [some (vR 5 0), some (vL g2), none, none] [vL (zi2l (zPick (zOpn (aC S) 8 4 0 (-1) (-1)) 0)), vL g2] τ4 post from ?_)
    refine V_callS (a := [vL g2, vL (zi2l (zPick (zOpn (aC S) 8 4 0 (-1) (-1)) 0))]) (rest := []) kX6_digest rfl oX6_mixed iX6_mixed lk_6_292 rfl rfl (Nat.le_of_ble_eq_true rfl) (Nat.le_of_ble_eq_true rfl) (Nat.le_of_ble_eq_true rfl) (post' := fun zv zσ => V 7 MX6_digest 188 [some (vR 5 0), some (vL g2), none, none] (zv.toList ++ []) zσ post) (c_N_mixed ((show V 7 MX6_digest 188 [some (vR 5 0), some (vL g2), none, none] [vL ((31 : Int64) * g2 + zi2l (zPick (zOpn (aC S) 8 4 0 (-1) (-1)) 0))] τ4 post from ?_))) (fun _ _ h => h)
    refine V_topL (e_g3.symm) ?_
    refine V_run kX6_digest 5 [] (show V 7 MX6_digest 194 [some (vR 5 0), some (vL g3), none, none] [vZ 1, vZ 8, vR 5 0, vL g3] τ4 post from ?_)
    refine V_callV (a := [vZ 8, vZ 1]) (rest := [vL g3]) kX6_digest rfl oX6_open iX6_open lk_6_321 rfl rfl rfl (Nat.le_of_ble_eq_true rfl) (Nat.le_of_ble_eq_true rfl) (Nat.le_of_ble_eq_true rfl) (post' := fun zv zσ => V 7 MX6_digest 197 [some (vR 5 0), some (vL g3), none, none] (zv.toList ++ [vL g3]) zσ post) (c_N_open hRx4 ho (by omega) (by omega) (fun τ5 hx5 hRx5 => (show V 7 MX6_digest 197 [some (vR 5 0), some (vL g3), none, none] [vZ (aOpen S 8 1), vL g3] τ5 post from ?_))) (fun _ _ h => h)
    have kx5 := kx4.tr hx5
    refine V_top (show aOpen S 8 1 = zPick (zOpn (aC S) 8 4 0 (-1) (-1)) 1 from if_pos ⟨⟨by decide, by decide⟩, ⟨by decide, by decide⟩⟩) ?_
    obtain ⟨g4, e_g4⟩ : ∃ q, q = zMx g3 (zPick (zOpn (aC S) 8 4 0 (-1) (-1)) 1) := ⟨_, rfl⟩
    refine V_run kX6_digest 1 [] (show V 7 MX6_digest 198 [some (vR 5 0), some (vL g3), none, none] [vL (zi2l (zPick (zOpn (aC S) 8 4 0 (-1) (-1)) 1)), vL g3] τ5 post from ?_)
    refine V_callS (a := [vL g3, vL (zi2l (zPick (zOpn (aC S) 8 4 0 (-1) (-1)) 1))]) (rest := []) kX6_digest rfl oX6_mixed iX6_mixed lk_6_292 rfl rfl (Nat.le_of_ble_eq_true rfl) (Nat.le_of_ble_eq_true rfl) (Nat.le_of_ble_eq_true rfl) (post' := fun zv zσ => V 7 MX6_digest 201 [some (vR 5 0), some (vL g3), none, none] (zv.toList ++ []) zσ post) (c_N_mixed ((show V 7 MX6_digest 201 [some (vR 5 0), some (vL g3), none, none] [vL ((31 : Int64) * g3 + zi2l (zPick (zOpn (aC S) 8 4 0 (-1) (-1)) 1))] τ5 post from ?_))) (fun _ _ h => h)
    refine V_topL (e_g4.symm) ?_
    refine V_run kX6_digest 5 [] (show V 7 MX6_digest 207 [some (vR 5 0), some (vL g4), none, none] [vZ 0, vZ 8, vR 5 0, vL g4] τ5 post from ?_)
    refine V_callV (a := [vZ 8, vZ 0]) (rest := [vL g4]) kX6_digest rfl oX6_let iX6_let lk_6_324 rfl rfl rfl (Nat.le_of_ble_eq_true rfl) (Nat.le_of_ble_eq_true rfl) (Nat.le_of_ble_eq_true rfl) (post' := fun zv zσ => V 7 MX6_digest 210 [some (vR 5 0), some (vL g4), none, none] (zv.toList ++ [vL g4]) zσ post) (c_N_let hRx5 ho (by omega) (by omega) (fun τ6 hx6 hRx6 => (show V 7 MX6_digest 210 [some (vR 5 0), some (vL g4), none, none] [vZ (aLet S 8 0), vL g4] τ6 post from ?_))) (fun _ _ h => h)
    have kx6 := kx5.tr hx6
    refine V_top (show aLet S 8 0 = zPick (zLet (aC S) 8 (cn (aC S)).toNat 0 (-1) (-1)) 0 from if_pos ⟨⟨by decide, by decide⟩, ⟨by decide, by decide⟩⟩) ?_
    obtain ⟨g5, e_g5⟩ : ∃ q, q = zMx g4 (zPick (zLet (aC S) 8 (cn (aC S)).toNat 0 (-1) (-1)) 0) := ⟨_, rfl⟩
    refine V_run kX6_digest 1 [] (show V 7 MX6_digest 211 [some (vR 5 0), some (vL g4), none, none] [vL (zi2l (zPick (zLet (aC S) 8 (cn (aC S)).toNat 0 (-1) (-1)) 0)), vL g4] τ6 post from ?_)
    refine V_callS (a := [vL g4, vL (zi2l (zPick (zLet (aC S) 8 (cn (aC S)).toNat 0 (-1) (-1)) 0))]) (rest := []) kX6_digest rfl oX6_mixed iX6_mixed lk_6_292 rfl rfl (Nat.le_of_ble_eq_true rfl) (Nat.le_of_ble_eq_true rfl) (Nat.le_of_ble_eq_true rfl) (post' := fun zv zσ => V 7 MX6_digest 214 [some (vR 5 0), some (vL g4), none, none] (zv.toList ++ []) zσ post) (c_N_mixed ((show V 7 MX6_digest 214 [some (vR 5 0), some (vL g4), none, none] [vL ((31 : Int64) * g4 + zi2l (zPick (zLet (aC S) 8 (cn (aC S)).toNat 0 (-1) (-1)) 0))] τ6 post from ?_))) (fun _ _ h => h)
    refine V_topL (e_g5.symm) ?_
    refine V_run kX6_digest 5 [] (show V 7 MX6_digest 220 [some (vR 5 0), some (vL g5), none, none] [vZ 1, vZ 8, vR 5 0, vL g5] τ6 post from ?_)
    refine V_callV (a := [vZ 8, vZ 1]) (rest := [vL g5]) kX6_digest rfl oX6_let iX6_let lk_6_324 rfl rfl rfl (Nat.le_of_ble_eq_true rfl) (Nat.le_of_ble_eq_true rfl) (Nat.le_of_ble_eq_true rfl) (post' := fun zv zσ => V 7 MX6_digest 223 [some (vR 5 0), some (vL g5), none, none] (zv.toList ++ [vL g5]) zσ post) (c_N_let hRx6 ho (by omega) (by omega) (fun τ7 hx7 hRx7 => (show V 7 MX6_digest 223 [some (vR 5 0), some (vL g5), none, none] [vZ (aLet S 8 1), vL g5] τ7 post from ?_))) (fun _ _ h => h)
    have kx7 := kx6.tr hx7
    refine V_top (show aLet S 8 1 = zPick (zLet (aC S) 8 (cn (aC S)).toNat 0 (-1) (-1)) 1 from if_pos ⟨⟨by decide, by decide⟩, ⟨by decide, by decide⟩⟩) ?_
    obtain ⟨g6, e_g6⟩ : ∃ q, q = zMx g5 (zPick (zLet (aC S) 8 (cn (aC S)).toNat 0 (-1) (-1)) 1) := ⟨_, rfl⟩
    refine V_run kX6_digest 1 [] (show V 7 MX6_digest 224 [some (vR 5 0), some (vL g5), none, none] [vL (zi2l (zPick (zLet (aC S) 8 (cn (aC S)).toNat 0 (-1) (-1)) 1)), vL g5] τ7 post from ?_)
    refine V_callS (a := [vL g5, vL (zi2l (zPick (zLet (aC S) 8 (cn (aC S)).toNat 0 (-1) (-1)) 1))]) (rest := []) kX6_digest rfl oX6_mixed iX6_mixed lk_6_292 rfl rfl (Nat.le_of_ble_eq_true rfl) (Nat.le_of_ble_eq_true rfl) (Nat.le_of_ble_eq_true rfl) (post' := fun zv zσ => V 7 MX6_digest 227 [some (vR 5 0), some (vL g5), none, none] (zv.toList ++ []) zσ post) (c_N_mixed ((show V 7 MX6_digest 227 [some (vR 5 0), some (vL g5), none, none] [vL ((31 : Int64) * g5 + zi2l (zPick (zLet (aC S) 8 (cn (aC S)).toNat 0 (-1) (-1)) 1))] τ7 post from ?_))) (fun _ _ h => h)
    refine V_topL (e_g6.symm) ?_
    refine V_run kX6_digest 4 [] (show V 7 MX6_digest 231 [some (vR 5 0), some (vL g6), none, none] [vZ (-1), vR 5 0, vL g6] τ7 post from ?_)
    refine V_callV (a := [vZ (-1)]) (rest := [vL g6]) kX6_digest rfl oX6_spare iX6_spare lk_6_327 rfl rfl rfl (Nat.le_of_ble_eq_true rfl) (Nat.le_of_ble_eq_true rfl) (Nat.le_of_ble_eq_true rfl) (post' := fun zv zσ => V 7 MX6_digest 234 [some (vR 5 0), some (vL g6), none, none] (zv.toList ++ [vL g6]) zσ post) (c_N_spare hRx7 ho (by omega) (fun τ8 hx8 hRx8 => (show V 7 MX6_digest 234 [some (vR 5 0), some (vL g6), none, none] [vZ (aSpare S (-1)), vL g6] τ8 post from ?_))) (fun _ _ h => h)
    have kx8 := kx7.tr hx8
    refine V_top (show aSpare S (-1) = (zSpr S).1 from (if_pos ⟨by decide, by decide⟩).trans (if_pos rfl)) ?_
    obtain ⟨g7, e_g7⟩ : ∃ q, q = zMx g6 ((zSpr S).1) := ⟨_, rfl⟩
    refine V_run kX6_digest 1 [] (show V 7 MX6_digest 235 [some (vR 5 0), some (vL g6), none, none] [vL (zi2l ((zSpr S).1)), vL g6] τ8 post from ?_)
    refine V_callS (a := [vL g6, vL (zi2l ((zSpr S).1))]) (rest := []) kX6_digest rfl oX6_mixed iX6_mixed lk_6_292 rfl rfl (Nat.le_of_ble_eq_true rfl) (Nat.le_of_ble_eq_true rfl) (Nat.le_of_ble_eq_true rfl) (post' := fun zv zσ => V 7 MX6_digest 238 [some (vR 5 0), some (vL g6), none, none] (zv.toList ++ []) zσ post) (c_N_mixed ((show V 7 MX6_digest 238 [some (vR 5 0), some (vL g6), none, none] [vL ((31 : Int64) * g6 + zi2l ((zSpr S).1))] τ8 post from ?_))) (fun _ _ h => h)
    refine V_topL (e_g7.symm) ?_
    refine V_run kX6_digest 4 [] (show V 7 MX6_digest 242 [some (vR 5 0), some (vL g7), none, none] [vZ 0, vR 5 0, vL g7] τ8 post from ?_)
    refine V_callV (a := [vZ 0]) (rest := [vL g7]) kX6_digest rfl oX6_spare iX6_spare lk_6_327 rfl rfl rfl (Nat.le_of_ble_eq_true rfl) (Nat.le_of_ble_eq_true rfl) (Nat.le_of_ble_eq_true rfl) (post' := fun zv zσ => V 7 MX6_digest 245 [some (vR 5 0), some (vL g7), none, none] (zv.toList ++ [vL g7]) zσ post) (c_N_spare hRx8 ho (by omega) (fun τ9 hx9 hRx9 => (show V 7 MX6_digest 245 [some (vR 5 0), some (vL g7), none, none] [vZ (aSpare S 0), vL g7] τ9 post from ?_))) (fun _ _ h => h)
    have kx9 := kx8.tr hx9
    refine V_top (show aSpare S 0 = zOfR (zSpr S) 0 from if_pos ⟨by decide, by decide⟩) ?_
    obtain ⟨g8, e_g8⟩ : ∃ q, q = zMx g7 (zOfR (zSpr S) 0) := ⟨_, rfl⟩
    refine V_run kX6_digest 1 [] (show V 7 MX6_digest 246 [some (vR 5 0), some (vL g7), none, none] [vL (zi2l (zOfR (zSpr S) 0)), vL g7] τ9 post from ?_)
    refine V_callS (a := [vL g7, vL (zi2l (zOfR (zSpr S) 0))]) (rest := []) kX6_digest rfl oX6_mixed iX6_mixed lk_6_292 rfl rfl (Nat.le_of_ble_eq_true rfl) (Nat.le_of_ble_eq_true rfl) (Nat.le_of_ble_eq_true rfl) (post' := fun zv zσ => V 7 MX6_digest 249 [some (vR 5 0), some (vL g7), none, none] (zv.toList ++ []) zσ post) (c_N_mixed ((show V 7 MX6_digest 249 [some (vR 5 0), some (vL g7), none, none] [vL ((31 : Int64) * g7 + zi2l (zOfR (zSpr S) 0))] τ9 post from ?_))) (fun _ _ h => h)
    refine V_topL (e_g8.symm) ?_
    refine V_run kX6_digest 3 [] (show V 7 MX6_digest 252 [some (vR 5 0), some (vL g8), none, none] [vR 5 0, vL g8] τ9 post from ?_)
    refine V_callV (a := []) (rest := [vL g8]) kX6_digest rfl oX6_never iX6_never lk_6_330 rfl rfl rfl (Nat.le_of_ble_eq_true rfl) (Nat.le_of_ble_eq_true rfl) (Nat.le_of_ble_eq_true rfl) (post' := fun zv zσ => V 7 MX6_digest 255 [some (vR 5 0), some (vL g8), none, none] (zv.toList ++ [vL g8]) zσ post) (c_N_never hRx9 ho (fun τ10 hx10 hRx10 => (show V 7 MX6_digest 255 [some (vR 5 0), some (vL g8), none, none] [vZ (aNever S), vL g8] τ10 post from ?_))) (fun _ _ h => h)
    have kx10 := kx9.tr hx10
    obtain ⟨g9, e_g9⟩ : ∃ q, q = zMx g8 (aNever S) := ⟨_, rfl⟩
    refine V_run kX6_digest 1 [] (show V 7 MX6_digest 256 [some (vR 5 0), some (vL g8), none, none] [vL (zi2l (aNever S)), vL g8] τ10 post from ?_)
    refine V_callS (a := [vL g8, vL (zi2l (aNever S))]) (rest := []) kX6_digest rfl oX6_mixed iX6_mixed lk_6_292 rfl rfl (Nat.le_of_ble_eq_true rfl) (Nat.le_of_ble_eq_true rfl) (Nat.le_of_ble_eq_true rfl) (post' := fun zv zσ => V 7 MX6_digest 259 [some (vR 5 0), some (vL g8), none, none] (zv.toList ++ []) zσ post) (c_N_mixed ((show V 7 MX6_digest 259 [some (vR 5 0), some (vL g8), none, none] [vL ((31 : Int64) * g8 + zi2l (aNever S))] τ10 post from ?_))) (fun _ _ h => h)
    refine V_topL (e_g9.symm) ?_
    refine V_run kX6_digest 6 [] (show V 7 MX6_digest 267 [some (vR 5 0), some (vL g9), none, none] [vZ 0, vZ 6, vZ 7, vR 5 0, vL g9] τ10 post from ?_)
    refine V_callV (a := [vZ 7, vZ 6, vZ 0]) (rest := [vL g9]) kX6_digest rfl oX6_decades iX6_decades lk_6_333 rfl rfl rfl (Nat.le_of_ble_eq_true rfl) (Nat.le_of_ble_eq_true rfl) (Nat.le_of_ble_eq_true rfl) (post' := fun zv zσ => V 7 MX6_digest 270 [some (vR 5 0), some (vL g9), none, none] (zv.toList ++ [vL g9]) zσ post) (c_N_decades hRx10 ho (by omega) (by omega) (fun τ11 hx11 hRx11 => (show V 7 MX6_digest 270 [some (vR 5 0), some (vL g9), none, none] [vZ (aDec S 7 6 0), vL g9] τ11 post from ?_))) (fun _ _ h => h)
    have kx11 := kx10.tr hx11
    refine V_top (show aDec S 7 6 0 = vDec S 7 6 0 from if_pos ⟨⟨by decide, by decide⟩, ⟨by decide, by decide⟩⟩) ?_
    obtain ⟨g10, e_g10⟩ : ∃ q, q = zMx g9 (vDec S 7 6 0) := ⟨_, rfl⟩
    refine V_run kX6_digest 1 [] (show V 7 MX6_digest 271 [some (vR 5 0), some (vL g9), none, none] [vL (zi2l (vDec S 7 6 0)), vL g9] τ11 post from ?_)
    refine V_callS (a := [vL g9, vL (zi2l (vDec S 7 6 0))]) (rest := []) kX6_digest rfl oX6_mixed iX6_mixed lk_6_292 rfl rfl (Nat.le_of_ble_eq_true rfl) (Nat.le_of_ble_eq_true rfl) (Nat.le_of_ble_eq_true rfl) (post' := fun zv zσ => V 7 MX6_digest 274 [some (vR 5 0), some (vL g9), none, none] (zv.toList ++ []) zσ post) (c_N_mixed ((show V 7 MX6_digest 274 [some (vR 5 0), some (vL g9), none, none] [vL ((31 : Int64) * g9 + zi2l (vDec S 7 6 0))] τ11 post from ?_))) (fun _ _ h => h)
    refine V_topL (e_g10.symm) ?_
    refine V_run kX6_digest 6 [] (show V 7 MX6_digest 282 [some (vR 5 0), some (vL g10), none, none] [vZ 1, vZ 6, vZ 7, vR 5 0, vL g10] τ11 post from ?_)
    refine V_callV (a := [vZ 7, vZ 6, vZ 1]) (rest := [vL g10]) kX6_digest rfl oX6_decades iX6_decades lk_6_333 rfl rfl rfl (Nat.le_of_ble_eq_true rfl) (Nat.le_of_ble_eq_true rfl) (Nat.le_of_ble_eq_true rfl) (post' := fun zv zσ => V 7 MX6_digest 285 [some (vR 5 0), some (vL g10), none, none] (zv.toList ++ [vL g10]) zσ post) (c_N_decades hRx11 ho (by omega) (by omega) (fun τ12 hx12 hRx12 => (show V 7 MX6_digest 285 [some (vR 5 0), some (vL g10), none, none] [vZ (aDec S 7 6 1), vL g10] τ12 post from ?_))) (fun _ _ h => h)
    have kx12 := kx11.tr hx12
    refine V_top (show aDec S 7 6 1 = vDec S 7 6 1 from if_pos ⟨⟨by decide, by decide⟩, ⟨by decide, by decide⟩⟩) ?_
    obtain ⟨g11, e_g11⟩ : ∃ q, q = zMx g10 (vDec S 7 6 1) := ⟨_, rfl⟩
    refine V_run kX6_digest 1 [] (show V 7 MX6_digest 286 [some (vR 5 0), some (vL g10), none, none] [vL (zi2l (vDec S 7 6 1)), vL g10] τ12 post from ?_)
    refine V_callS (a := [vL g10, vL (zi2l (vDec S 7 6 1))]) (rest := []) kX6_digest rfl oX6_mixed iX6_mixed lk_6_292 rfl rfl (Nat.le_of_ble_eq_true rfl) (Nat.le_of_ble_eq_true rfl) (Nat.le_of_ble_eq_true rfl) (post' := fun zv zσ => V 7 MX6_digest 289 [some (vR 5 0), some (vL g10), none, none] (zv.toList ++ []) zσ post) (c_N_mixed ((show V 7 MX6_digest 289 [some (vR 5 0), some (vL g10), none, none] [vL ((31 : Int64) * g10 + zi2l (vDec S 7 6 1))] τ12 post from ?_))) (fun _ _ h => h)
    refine V_topL (e_g11.symm) ?_
    have fin : aDigest S = g11 := by
      unfold aDigest zDgE
      rw [e_g11, e_g10, e_g9, e_g8, e_g7, e_g6, e_g5, e_g4, e_g3, e_g2, e_g1, e_g0, e5, e4, e3, e2, e1]
    rw [fin] at hp
    exact V_lret kX6_digest rfl rfl (hp _ kx12 hRx12)
  have part3 : ∀ (m : Nat) (i : Int) (y : Int64), 0 ≤ i → i + m = cn (aC S) → zDgK S m i y = h5 → ∀ σ2 : zSt, dK σ σ2 → RC σ2 S → V 7 MX6_digest 113 [some (vR 5 0), some (vL y), none, some (vZ i)] [] σ2 post := by
    intro m
    induction m with
    | zero =>
      intro i y i0 i1 he σ2 hk hR2
      have he : y = h5 := he
      subst he
      refine V_run kX6_digest 3 [] (show V 7 MX6_digest 118 [some (vR 5 0), some (vL y), none, some (vZ i)] [vR 1 5, vZ i] σ2 post from ?_)
      refine V_callV (a := []) (rest := [vZ i]) kX6_digest rfl oX2_people iX2_people lk_6_168 rfl rfl rfl (Nat.le_of_ble_eq_true rfl) (Nat.le_of_ble_eq_true rfl) (Nat.le_of_ble_eq_true rfl) (post' := fun zv zσ => V 7 MX6_digest 121 [some (vR 5 0), some (vL y), none, some (vZ i)] (zv.toList ++ [vZ i]) zσ post) (c_P_people (b := 5) ((show V 7 MX6_digest 121 [some (vR 5 0), some (vL y), none, some (vZ i)] [vZ (σ2.1 5 0), vZ i] σ2 post from ?_))) (fun _ _ h => h)
      refine V_top (hR2.2.1.1.1) ?_
      refine V_run kX6_digest 1 [1] (show (zr i ∧ zr (cn (aC S)) ∧ (cn (aC S)) ≤ i) ∧ V 7 MX6_digest 144 [some (vR 5 0), some (vL y), none, some (vZ i)] [] σ2 post from ⟨(by omega), ?_⟩)
      refine V_drop (L := [some (vR 5 0), some (vL y), none, none]) ⟨rfl, ⟨rfl, trivial⟩⟩ ?_
      exact part4 σ2 hk hR2
    | succ m ih =>
      intro i y i0 i1 he σ2 hk hR2
      unfold zDgK at he
      refine V_run kX6_digest 3 [] (show V 7 MX6_digest 118 [some (vR 5 0), some (vL y), none, some (vZ i)] [vR 1 5, vZ i] σ2 post from ?_)
      refine V_callV (a := []) (rest := [vZ i]) kX6_digest rfl oX2_people iX2_people lk_6_168 rfl rfl rfl (Nat.le_of_ble_eq_true rfl) (Nat.le_of_ble_eq_true rfl) (Nat.le_of_ble_eq_true rfl) (post' := fun zv zσ => V 7 MX6_digest 121 [some (vR 5 0), some (vL y), none, some (vZ i)] (zv.toList ++ [vZ i]) zσ post) (c_P_people (b := 5) ((show V 7 MX6_digest 121 [some (vR 5 0), some (vL y), none, some (vZ i)] [vZ (σ2.1 5 0), vZ i] σ2 post from ?_))) (fun _ _ h => h)
      refine V_top (hR2.2.1.1.1) ?_
      refine V_run kX6_digest 4 [0] (show (zr i ∧ zr (cn (aC S)) ∧ i < (cn (aC S))) ∧ V 7 MX6_digest 127 [some (vR 5 0), some (vL y), none, some (vZ i)] [vZ i, vL y, vR 5 0] σ2 post from ⟨(by omega), ?_⟩)
      refine V_callV (a := [vL y, vZ i]) (rest := []) kX6_digest rfl oX6_mixedWithDay iX6_mixedWithDay lk_6_308 rfl rfl rfl (Nat.le_of_ble_eq_true rfl) (Nat.le_of_ble_eq_true rfl) (Nat.le_of_ble_eq_true rfl) (post' := fun zv zσ => V 7 MX6_digest 130 [some (vR 5 0), some (vL y), none, some (vZ i)] (zv.toList ++ []) zσ post) (c_N_mixD hR2 ho i0 (by omega) (fun τ1 hx1 hRx1 => (show V 7 MX6_digest 130 [some (vR 5 0), some (vL y), none, some (vZ i)] [vL (zDgD S y i)] τ1 post from ?_))) (fun _ _ h => h)
      have kx1 := hk.tr hx1
      obtain ⟨y2, ey2⟩ : ∃ q, q = zDgD S y i := ⟨_, rfl⟩
      refine V_topL (ey2.symm) ?_
      refine V_run kX6_digest 4 [] (show V 7 MX6_digest 134 [some (vR 5 0), some (vL y2), none, some (vZ i)] [vZ i, vL y2, vR 5 0] τ1 post from ?_)
      refine V_callV (a := [vL y2, vZ i]) (rest := []) kX6_digest rfl oX6_mixedWithGuesses iX6_mixedWithGuesses lk_6_312 rfl rfl rfl (Nat.le_of_ble_eq_true rfl) (Nat.le_of_ble_eq_true rfl) (Nat.le_of_ble_eq_true rfl) (post' := fun zv zσ => V 7 MX6_digest 137 [some (vR 5 0), some (vL y2), none, some (vZ i)] (zv.toList ++ []) zσ post) (c_N_mixG hRx1 ho i0 (by omega) (fun τ2 hx2 hRx2 => (show V 7 MX6_digest 137 [some (vR 5 0), some (vL y2), none, some (vZ i)] [vL (zDgG S y2 i)] τ2 post from ?_))) (fun _ _ h => h)
      have kx2 := kx1.tr hx2
      refine V_run kX6_digest 3 [] (show V 7 MX6_digest 113 [some (vR 5 0), some (vL (zDgG S y2 i)), none, some (vZ (i + 1))] [] τ2 post from ?_)
      exact ih (i + 1) _ (by omega) (by omega) (by rw [ey2]; exact he) _ kx2 hRx2
  have part2 : ∀ (m : Nat) (i : Int) (y : Int64), 0 ≤ i → i + m = 24 → zDgT S m i y = h4 → ∀ σ2 : zSt, dK σ σ2 → RC σ2 S → V 7 MX6_digest 53 [some (vR 5 0), some (vL y), none, some (vZ i)] [] σ2 post := by
    intro m
    induction m with
    | zero =>
      intro i y i0 i1 he σ2 hk hR2
      have he : y = h4 := he
      subst he
      refine V_run kX6_digest 5 [1] (show (zr i ∧ zr 24 ∧ 24 ≤ i) ∧ V 7 MX6_digest 113 [some (vR 5 0), some (vL y), none, some (vZ 0)] [] σ2 post from ⟨(by omega), ?_⟩)
      exact part3 (cn (aC S)).toNat 0 y (by omega) (by omega) e5.symm σ2 hk hR2
    | succ m ih =>
      intro i y i0 i1 he σ2 hk hR2
      unfold zDgT at he
      refine V_run kX6_digest 6 [0] (show (zr i ∧ zr 24 ∧ i < 24) ∧ V 7 MX6_digest 62 [some (vR 5 0), some (vL y), none, some (vZ i)] [vZ i, vR 5 0, vL y] σ2 post from ⟨(by omega), ?_⟩)
      refine V_callV (a := [vZ i]) (rest := [vL y]) kX6_digest rfl oX6_window iX6_window lk_6_299 rfl rfl rfl (Nat.le_of_ble_eq_true rfl) (Nat.le_of_ble_eq_true rfl) (Nat.le_of_ble_eq_true rfl) (post' := fun zv zσ => V 7 MX6_digest 65 [some (vR 5 0), some (vL y), none, some (vZ i)] (zv.toList ++ [vL y]) zσ post) (c_N_window hR2 ho (by omega) (fun τ1 hx1 hRx1 => (show V 7 MX6_digest 65 [some (vR 5 0), some (vL y), none, some (vZ i)] [vZ (aWindow S i), vL y] τ1 post from ?_))) (fun _ _ h => h)
      have kx1 := hk.tr hx1
      refine V_top (show aWindow S i = cWi (aC S) i from if_pos ⟨i0, by omega⟩) ?_
      obtain ⟨k0, e_k0⟩ : ∃ q, q = zMx y (cWi (aC S) i) := ⟨_, rfl⟩
      refine V_run kX6_digest 1 [] (show V 7 MX6_digest 66 [some (vR 5 0), some (vL y), none, some (vZ i)] [vL (zi2l (cWi (aC S) i)), vL y] τ1 post from ?_)
      refine V_callS (a := [vL y, vL (zi2l (cWi (aC S) i))]) (rest := []) kX6_digest rfl oX6_mixed iX6_mixed lk_6_292 rfl rfl (Nat.le_of_ble_eq_true rfl) (Nat.le_of_ble_eq_true rfl) (Nat.le_of_ble_eq_true rfl) (post' := fun zv zσ => V 7 MX6_digest 69 [some (vR 5 0), some (vL y), none, some (vZ i)] (zv.toList ++ []) zσ post) (c_N_mixed ((show V 7 MX6_digest 69 [some (vR 5 0), some (vL y), none, some (vZ i)] [vL ((31 : Int64) * y + zi2l (cWi (aC S) i))] τ1 post from ?_))) (fun _ _ h => h)
      refine V_topL (e_k0.symm) ?_
      rw [← e_k0] at he
      refine V_run kX6_digest 4 [] (show V 7 MX6_digest 73 [some (vR 5 0), some (vL k0), none, some (vZ i)] [vZ i, vR 5 0, vL k0] τ1 post from ?_)
      refine V_callV (a := [vZ i]) (rest := [vL k0]) kX6_digest rfl oX6_many iX6_many lk_6_302 rfl rfl rfl (Nat.le_of_ble_eq_true rfl) (Nat.le_of_ble_eq_true rfl) (Nat.le_of_ble_eq_true rfl) (post' := fun zv zσ => V 7 MX6_digest 76 [some (vR 5 0), some (vL k0), none, some (vZ i)] (zv.toList ++ [vL k0]) zσ post) (c_N_many hRx1 ho (by omega) (fun τ2 hx2 hRx2 => (show V 7 MX6_digest 76 [some (vR 5 0), some (vL k0), none, some (vZ i)] [vZ (aMany S i), vL k0] τ2 post from ?_))) (fun _ _ h => h)
      have kx2 := kx1.tr hx2
      refine V_top (show aMany S i = dn (zD (aC S) i) from if_pos ⟨i0, by omega⟩) ?_
      obtain ⟨k1, e_k1⟩ : ∃ q, q = zMx k0 (dn (zD (aC S) i)) := ⟨_, rfl⟩
      refine V_run kX6_digest 1 [] (show V 7 MX6_digest 77 [some (vR 5 0), some (vL k0), none, some (vZ i)] [vL (zi2l (dn (zD (aC S) i))), vL k0] τ2 post from ?_)
      refine V_callS (a := [vL k0, vL (zi2l (dn (zD (aC S) i)))]) (rest := []) kX6_digest rfl oX6_mixed iX6_mixed lk_6_292 rfl rfl (Nat.le_of_ble_eq_true rfl) (Nat.le_of_ble_eq_true rfl) (Nat.le_of_ble_eq_true rfl) (post' := fun zv zσ => V 7 MX6_digest 80 [some (vR 5 0), some (vL k0), none, some (vZ i)] (zv.toList ++ []) zσ post) (c_N_mixed ((show V 7 MX6_digest 80 [some (vR 5 0), some (vL k0), none, some (vZ i)] [vL ((31 : Int64) * k0 + zi2l (dn (zD (aC S) i)))] τ2 post from ?_))) (fun _ _ h => h)
      refine V_topL (e_k1.symm) ?_
      rw [← e_k1] at he
      refine V_run kX6_digest 5 [] (show V 7 MX6_digest 85 [some (vR 5 0), some (vL k1), none, some (vZ i)] [vZ 0, vZ i, vR 5 0, vL k1] τ2 post from ?_)
      refine V_callV (a := [vZ i, vZ 0]) (rest := [vL k1]) kX6_digest rfl oX6_stands iX6_stands lk_6_305 rfl rfl rfl (Nat.le_of_ble_eq_true rfl) (Nat.le_of_ble_eq_true rfl) (Nat.le_of_ble_eq_true rfl) (post' := fun zv zσ => V 7 MX6_digest 88 [some (vR 5 0), some (vL k1), none, some (vZ i)] (zv.toList ++ [vL k1]) zσ post) (c_N_stands hRx2 ho (by omega) (by omega) (fun τ3 hx3 hRx3 => (show V 7 MX6_digest 88 [some (vR 5 0), some (vL k1), none, some (vZ i)] [vZ (aStands S i 0), vL k1] τ3 post from ?_))) (fun _ _ h => h)
      have kx3 := kx2.tr hx3
      refine V_top (show aStands S i 0 = zWho (aC S) i 0 from if_pos ⟨⟨i0, by omega⟩, by decide, by decide⟩) ?_
      obtain ⟨k2, e_k2⟩ : ∃ q, q = zMx k1 (zWho (aC S) i 0) := ⟨_, rfl⟩
      refine V_run kX6_digest 1 [] (show V 7 MX6_digest 89 [some (vR 5 0), some (vL k1), none, some (vZ i)] [vL (zi2l (zWho (aC S) i 0)), vL k1] τ3 post from ?_)
      refine V_callS (a := [vL k1, vL (zi2l (zWho (aC S) i 0))]) (rest := []) kX6_digest rfl oX6_mixed iX6_mixed lk_6_292 rfl rfl (Nat.le_of_ble_eq_true rfl) (Nat.le_of_ble_eq_true rfl) (Nat.le_of_ble_eq_true rfl) (post' := fun zv zσ => V 7 MX6_digest 92 [some (vR 5 0), some (vL k1), none, some (vZ i)] (zv.toList ++ []) zσ post) (c_N_mixed ((show V 7 MX6_digest 92 [some (vR 5 0), some (vL k1), none, some (vZ i)] [vL ((31 : Int64) * k1 + zi2l (zWho (aC S) i 0))] τ3 post from ?_))) (fun _ _ h => h)
      refine V_topL (e_k2.symm) ?_
      rw [← e_k2] at he
      refine V_run kX6_digest 5 [] (show V 7 MX6_digest 97 [some (vR 5 0), some (vL k2), none, some (vZ i)] [vZ 4, vZ i, vR 5 0, vL k2] τ3 post from ?_)
      refine V_callV (a := [vZ i, vZ 4]) (rest := [vL k2]) kX6_digest rfl oX6_stands iX6_stands lk_6_305 rfl rfl rfl (Nat.le_of_ble_eq_true rfl) (Nat.le_of_ble_eq_true rfl) (Nat.le_of_ble_eq_true rfl) (post' := fun zv zσ => V 7 MX6_digest 100 [some (vR 5 0), some (vL k2), none, some (vZ i)] (zv.toList ++ [vL k2]) zσ post) (c_N_stands hRx3 ho (by omega) (by omega) (fun τ4 hx4 hRx4 => (show V 7 MX6_digest 100 [some (vR 5 0), some (vL k2), none, some (vZ i)] [vZ (aStands S i 4), vL k2] τ4 post from ?_))) (fun _ _ h => h)
      have kx4 := kx3.tr hx4
      refine V_top (show aStands S i 4 = zWho (aC S) i 4 from if_pos ⟨⟨i0, by omega⟩, by decide, by decide⟩) ?_
      obtain ⟨k3, e_k3⟩ : ∃ q, q = zMx k2 (zWho (aC S) i 4) := ⟨_, rfl⟩
      refine V_run kX6_digest 1 [] (show V 7 MX6_digest 101 [some (vR 5 0), some (vL k2), none, some (vZ i)] [vL (zi2l (zWho (aC S) i 4)), vL k2] τ4 post from ?_)
      refine V_callS (a := [vL k2, vL (zi2l (zWho (aC S) i 4))]) (rest := []) kX6_digest rfl oX6_mixed iX6_mixed lk_6_292 rfl rfl (Nat.le_of_ble_eq_true rfl) (Nat.le_of_ble_eq_true rfl) (Nat.le_of_ble_eq_true rfl) (post' := fun zv zσ => V 7 MX6_digest 104 [some (vR 5 0), some (vL k2), none, some (vZ i)] (zv.toList ++ []) zσ post) (c_N_mixed ((show V 7 MX6_digest 104 [some (vR 5 0), some (vL k2), none, some (vZ i)] [vL ((31 : Int64) * k2 + zi2l (zWho (aC S) i 4))] τ4 post from ?_))) (fun _ _ h => h)
      refine V_topL (e_k3.symm) ?_
      rw [← e_k3] at he
      refine V_run kX6_digest 3 [] (show V 7 MX6_digest 53 [some (vR 5 0), some (vL k3), none, some (vZ (i + 1))] [] τ4 post from ?_)
      exact ih (i + 1) _ (by omega) (by omega) he _ kx4 hRx4
  have part1 : ∀ (m : Nat) (i : Int) (y : Int64), 0 ≤ i → i + m = 8 → zFo (aCount S) m i y = h1 → ∀ σ2 : zSt, dK σ σ2 → RC σ2 S → V 7 MX6_digest 6 [some (vR 5 0), some (vL y), none, some (vZ i)] [] σ2 post := by
    intro m
    induction m with
    | zero =>
      intro i y i0 i1 he σ2 hk hR2
      have he : y = h1 := he
      subst he
      refine V_run kX6_digest 6 [1] (show (zr i ∧ zr 7 ∧ 7 < i) ∧ V 7 MX6_digest 32 [some (vR 5 0), some (vL y), none, some (vZ i)] [vZ 0, vR 5 0, vL y] σ2 post from ⟨(by omega), ?_⟩)
      refine V_callV (a := [vZ 0]) (rest := [vL y]) kX6_digest rfl oX6_fault iX6_fault lk_6_296 rfl rfl rfl (Nat.le_of_ble_eq_true rfl) (Nat.le_of_ble_eq_true rfl) (Nat.le_of_ble_eq_true rfl) (post' := fun zv zσ => V 7 MX6_digest 35 [some (vR 5 0), some (vL y), none, some (vZ i)] (zv.toList ++ [vL y]) zσ post) (c_N_fault hR2 ho (by omega) (fun τ1 hx1 hRx1 => (show V 7 MX6_digest 35 [some (vR 5 0), some (vL y), none, some (vZ i)] [vZ (aFault S 0), vL y] τ1 post from ?_))) (fun _ _ h => h)
      have kx1 := hk.tr hx1
      refine V_top (show aFault S 0 = vFault S 0 from if_pos ⟨by decide, by decide⟩) ?_
      refine V_run kX6_digest 1 [] (show V 7 MX6_digest 36 [some (vR 5 0), some (vL y), none, some (vZ i)] [vL (zi2l (vFault S 0)), vL y] τ1 post from ?_)
      refine V_callS (a := [vL y, vL (zi2l (vFault S 0))]) (rest := []) kX6_digest rfl oX6_mixed iX6_mixed lk_6_292 rfl rfl (Nat.le_of_ble_eq_true rfl) (Nat.le_of_ble_eq_true rfl) (Nat.le_of_ble_eq_true rfl) (post' := fun zv zσ => V 7 MX6_digest 39 [some (vR 5 0), some (vL y), none, some (vZ i)] (zv.toList ++ []) zσ post) (c_N_mixed ((show V 7 MX6_digest 39 [some (vR 5 0), some (vL y), none, some (vZ i)] [vL ((31 : Int64) * y + zi2l (vFault S 0))] τ1 post from ?_))) (fun _ _ h => h)
      refine V_topL (e2.symm) ?_
      refine V_run kX6_digest 4 [] (show V 7 MX6_digest 43 [some (vR 5 0), some (vL h2), none, some (vZ i)] [vZ 1, vR 5 0, vL h2] τ1 post from ?_)
      refine V_callV (a := [vZ 1]) (rest := [vL h2]) kX6_digest rfl oX6_fault iX6_fault lk_6_296 rfl rfl rfl (Nat.le_of_ble_eq_true rfl) (Nat.le_of_ble_eq_true rfl) (Nat.le_of_ble_eq_true rfl) (post' := fun zv zσ => V 7 MX6_digest 46 [some (vR 5 0), some (vL h2), none, some (vZ i)] (zv.toList ++ [vL h2]) zσ post) (c_N_fault hRx1 ho (by omega) (fun τ2 hx2 hRx2 => (show V 7 MX6_digest 46 [some (vR 5 0), some (vL h2), none, some (vZ i)] [vZ (aFault S 1), vL h2] τ2 post from ?_))) (fun _ _ h => h)
      have kx2 := kx1.tr hx2
      refine V_top (show aFault S 1 = vFault S 1 from if_pos ⟨by decide, by decide⟩) ?_
      refine V_run kX6_digest 1 [] (show V 7 MX6_digest 47 [some (vR 5 0), some (vL h2), none, some (vZ i)] [vL (zi2l (vFault S 1)), vL h2] τ2 post from ?_)
      refine V_callS (a := [vL h2, vL (zi2l (vFault S 1))]) (rest := []) kX6_digest rfl oX6_mixed iX6_mixed lk_6_292 rfl rfl (Nat.le_of_ble_eq_true rfl) (Nat.le_of_ble_eq_true rfl) (Nat.le_of_ble_eq_true rfl) (post' := fun zv zσ => V 7 MX6_digest 50 [some (vR 5 0), some (vL h2), none, some (vZ i)] (zv.toList ++ []) zσ post) (c_N_mixed ((show V 7 MX6_digest 50 [some (vR 5 0), some (vL h2), none, some (vZ i)] [vL ((31 : Int64) * h2 + zi2l (vFault S 1))] τ2 post from ?_))) (fun _ _ h => h)
      refine V_topL (e3.symm) ?_
      refine V_run kX6_digest 3 [] (show V 7 MX6_digest 53 [some (vR 5 0), some (vL h3), none, some (vZ 0)] [] τ2 post from ?_)
      exact part2 24 0 h3 (by omega) (by omega) e4.symm _ kx2 hRx2
    | succ m ih =>
      intro i y i0 i1 he σ2 hk hR2
      unfold zFo at he
      refine V_run kX6_digest 6 [0] (show (zr i ∧ zr 7 ∧ i ≤ 7) ∧ V 7 MX6_digest 15 [some (vR 5 0), some (vL y), none, some (vZ i)] [vZ i, vR 5 0, vL y] σ2 post from ⟨(by omega), ?_⟩)
      refine V_callV (a := [vZ i]) (rest := [vL y]) kX6_digest rfl oX6_count iX6_count lk_6_289 rfl rfl rfl (Nat.le_of_ble_eq_true rfl) (Nat.le_of_ble_eq_true rfl) (Nat.le_of_ble_eq_true rfl) (post' := fun zv zσ => V 7 MX6_digest 18 [some (vR 5 0), some (vL y), none, some (vZ i)] (zv.toList ++ [vL y]) zσ post) (c_N_count hR2 ho (by omega) (fun τ1 hx1 hRx1 => (show V 7 MX6_digest 18 [some (vR 5 0), some (vL y), none, some (vZ i)] [vZ (aCount S i), vL y] τ1 post from ?_))) (fun _ _ h => h)
      have kx1 := hk.tr hx1
      obtain ⟨g9, e_g9⟩ : ∃ q, q = zMx y (aCount S i) := ⟨_, rfl⟩
      refine V_run kX6_digest 1 [] (show V 7 MX6_digest 19 [some (vR 5 0), some (vL y), none, some (vZ i)] [vL (zi2l (aCount S i)), vL y] τ1 post from ?_)
      refine V_callS (a := [vL y, vL (zi2l (aCount S i))]) (rest := []) kX6_digest rfl oX6_mixed iX6_mixed lk_6_292 rfl rfl (Nat.le_of_ble_eq_true rfl) (Nat.le_of_ble_eq_true rfl) (Nat.le_of_ble_eq_true rfl) (post' := fun zv zσ => V 7 MX6_digest 22 [some (vR 5 0), some (vL y), none, some (vZ i)] (zv.toList ++ []) zσ post) (c_N_mixed ((show V 7 MX6_digest 22 [some (vR 5 0), some (vL y), none, some (vZ i)] [vL ((31 : Int64) * y + zi2l (aCount S i))] τ1 post from ?_))) (fun _ _ h => h)
      refine V_topL (e_g9.symm) ?_
      refine V_run kX6_digest 3 [] (show V 7 MX6_digest 6 [some (vR 5 0), some (vL g9), none, some (vZ (i + 1))] [] τ1 post from ?_)
      exact ih (i + 1) _ (by omega) (by omega) (by rw [e_g9]; exact he) _ kx1 hRx1
  show V 7 MX6_digest 0 [some (vR 5 0), none, none, none] [] σ post
  refine V_run kX6_digest 4 [] (show V 7 MX6_digest 6 [some (vR 5 0), some (vL (17 : Int64)), none, some (vZ 0)] [] σ post from ?_)
  exact part1 8 0 17 (by omega) (by omega) e1.symm σ dK.rf hR
