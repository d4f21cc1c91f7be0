theorem aTp_mc {σ : zSt} {S : zAb} (h : zMc σ (aC S)) : aTp σ S := aTp_c h
set_option maxHeartbeats 16000000 in
set_option maxRecDepth 100000 in
/-- digest -/
theorem c_M_digest {S : zAb} {σ : zSt} {post : Option VV → zSt → Prop} (hR : RM σ S) (ho : aOk S) (hp : ∀ σ', mKeep σ σ' → post (some (vL (aDigest S))) σ') : Mc 11 MX7_digest [vR 6 44] σ post := by
  have hok := aC_ok ho
  have hcn := hok.1
  have hrm := RM_who hR
  obtain ⟨h1, e1⟩ : ∃ y, y = zFo (aCount S) 8 0 17 := ⟨_, rfl⟩
  obtain ⟨h2, e2⟩ : ∃ y, y = zMx h1 (vFault S 0) := ⟨_, rfl⟩
  obtain ⟨h3, e3⟩ : ∃ y, y = zMx h2 (vFault S 1) := ⟨_, rfl⟩
  obtain ⟨h4, e4⟩ : ∃ y, y = zDgT S 24 0 h3 := ⟨_, rfl⟩
  obtain ⟨h5, e5⟩ : ∃ y, y = zDgK S (cn (aC S)).toNat 0 h4 := ⟨_, rfl⟩
  have part4 : ∀ σ2 : zSt, mKeep σ σ2 → V 11 MX7_digest 148 [some (vR 6 44), some (vL h5), none, none] [] σ2 post := by
    intro σ2 hk
    refine V_run kX7_digest 5 [] (show V 11 MX7_digest 155 [some (vR 6 44), some (vL h5), none, none] [vZ 0, vR 6 44, vL ((31 : Int64) * h5)] σ2 post from ?_)
    refine V_callV (a := [vZ 0]) (rest := [vL ((31 : Int64) * h5)]) kX7_digest rfl oX7_alfredOf iX7_alfredOf lk_7_249 rfl rfl rfl (Nat.le_of_ble_eq_true rfl) (Nat.le_of_ble_eq_true rfl) (Nat.le_of_ble_eq_true rfl) (post' := fun zv zσ => V 11 MX7_digest 158 [some (vR 6 44), some (vL h5), none, none] (zv.toList ++ [vL ((31 : Int64) * h5)]) zσ post) (c_M_alfredOf (RM_k hk hR) ho (by omega) (fun σ11 hq11 => (show V 11 MX7_digest 158 [some (vR 6 44), some (vL h5), none, none] [vZ (zAlw (zAlf (aC S) (cn (aC S)).toNat 0 (-1) 0) 0), vL ((31 : Int64) * h5)] σ11 post from ?_))) (fun _ _ h => h)
    have hk11 := hk.tr hq11
    obtain ⟨h11, e11⟩ : ∃ q, q = zMx h5 (zAlw (zAlf (aC S) (cn (aC S)).toNat 0 (-1) 0) 0) := ⟨_, rfl⟩
    refine V_run kX7_digest 2 [] (show V 11 MX7_digest 160 [some (vR 6 44), some (vL h5), none, none] [vL (((31 : Int64) * h5) + (zi2l (zAlw (zAlf (aC S) (cn (aC S)).toNat 0 (-1) 0) 0)))] σ11 post from ?_)
    refine V_topL (e11.symm) ?_
    refine V_run kX7_digest 6 [] (show V 11 MX7_digest 168 [some (vR 6 44), some (vL h11), none, none] [vZ 1, vR 6 44, vL ((31 : Int64) * h11)] σ11 post from ?_)
    refine V_callV (a := [vZ 1]) (rest := [vL ((31 : Int64) * h11)]) kX7_digest rfl oX7_alfredOf iX7_alfredOf lk_7_249 rfl rfl rfl (Nat.le_of_ble_eq_true rfl) (Nat.le_of_ble_eq_true rfl) (Nat.le_of_ble_eq_true rfl) (post' := fun zv zσ => V 11 MX7_digest 171 [some (vR 6 44), some (vL h11), none, none] (zv.toList ++ [vL ((31 : Int64) * h11)]) zσ post) (c_M_alfredOf (RM_k hk11 hR) ho (by omega) (fun σ12 hq12 => (show V 11 MX7_digest 171 [some (vR 6 44), some (vL h11), none, none] [vZ (zAlw (zAlf (aC S) (cn (aC S)).toNat 0 (-1) 0) 1), vL ((31 : Int64) * h11)] σ12 post from ?_))) (fun _ _ h => h)
    have hk12 := hk11.tr hq12
    obtain ⟨h12, e12⟩ : ∃ q, q = zMx h11 (zAlw (zAlf (aC S) (cn (aC S)).toNat 0 (-1) 0) 1) := ⟨_, rfl⟩
    refine V_run kX7_digest 2 [] (show V 11 MX7_digest 173 [some (vR 6 44), some (vL h11), none, none] [vL (((31 : Int64) * h11) + (zi2l (zAlw (zAlf (aC S) (cn (aC S)).toNat 0 (-1) 0) 1)))] σ12 post from ?_)
    refine V_topL (e12.symm) ?_
    refine V_run kX7_digest 5 [] (show V 11 MX7_digest 180 [some (vR 6 44), some (vL h12), none, none] [vR 6 44, vL ((31 : Int64) * h12)] σ12 post from ?_)
    refine V_callV (a := []) (rest := [vL ((31 : Int64) * h12)]) kX7_digest rfl oX7_kettleOf iX7_kettleOf lk_7_252 rfl rfl rfl (Nat.le_of_ble_eq_true rfl) (Nat.le_of_ble_eq_true rfl) (Nat.le_of_ble_eq_true rfl) (post' := fun zv zσ => V 11 MX7_digest 183 [some (vR 6 44), some (vL h12), none, none] (zv.toList ++ [vL ((31 : Int64) * h12)]) zσ post) (c_M_kettleOf (RM_k hk12 hR) ho (fun σ13 hq13 => (show V 11 MX7_digest 183 [some (vR 6 44), some (vL h12), none, none] [vZ (zKet (aC S) (cn (aC S)).toNat 0 0), vL ((31 : Int64) * h12)] σ13 post from ?_))) (fun _ _ h => h)
    have hk13 := hk12.tr hq13
    obtain ⟨h13, e13⟩ : ∃ q, q = zMx h12 (zKet (aC S) (cn (aC S)).toNat 0 0) := ⟨_, rfl⟩
    refine V_run kX7_digest 2 [] (show V 11 MX7_digest 185 [some (vR 6 44), some (vL h12), none, none] [vL (((31 : Int64) * h12) + (zi2l (zKet (aC S) (cn (aC S)).toNat 0 0)))] σ13 post from ?_)
    refine V_topL (e13.symm) ?_
    refine V_run kX7_digest 7 [] (show V 11 MX7_digest 195 [some (vR 6 44), some (vL h13), none, none] [vZ 0, vZ 8, vR 6 44, vL ((31 : Int64) * h13)] σ13 post from ?_)
    refine V_callV (a := [vZ 8, vZ 0]) (rest := [vL ((31 : Int64) * h13)]) kX7_digest rfl oX7_openOf iX7_openOf lk_7_261 rfl rfl rfl (Nat.le_of_ble_eq_true rfl) (Nat.le_of_ble_eq_true rfl) (Nat.le_of_ble_eq_true rfl) (post' := fun zv zσ => V 11 MX7_digest 198 [some (vR 6 44), some (vL h13), none, none] (zv.toList ++ [vL ((31 : Int64) * h13)]) zσ post) (c_M_openOf (RM_k hk13 hR) ho (by omega) (by omega) (by omega) (fun σ14 hq14 => (show V 11 MX7_digest 198 [some (vR 6 44), some (vL h13), none, none] [vZ (zPick (zOpn (aC S) 8 4 0 (-1) (-1)) 0), vL ((31 : Int64) * h13)] σ14 post from ?_))) (fun _ _ h => h)
    have hk14 := hk13.tr hq14
    obtain ⟨h14, e14⟩ : ∃ q, q = zMx h13 (zPick (zOpn (aC S) 8 4 0 (-1) (-1)) 0) := ⟨_, rfl⟩
    refine V_run kX7_digest 2 [] (show V 11 MX7_digest 200 [some (vR 6 44), some (vL h13), none, none] [vL (((31 : Int64) * h13) + (zi2l (zPick (zOpn (aC S) 8 4 0 (-1) (-1)) 0)))] σ14 post from ?_)
    refine V_topL (e14.symm) ?_
    refine V_run kX7_digest 7 [] (show V 11 MX7_digest 210 [some (vR 6 44), some (vL h14), none, none] [vZ 1, vZ 8, vR 6 44, vL ((31 : Int64) * h14)] σ14 post from ?_)
    refine V_callV (a := [vZ 8, vZ 1]) (rest := [vL ((31 : Int64) * h14)]) kX7_digest rfl oX7_openOf iX7_openOf lk_7_261 rfl rfl rfl (Nat.le_of_ble_eq_true rfl) (Nat.le_of_ble_eq_true rfl) (Nat.le_of_ble_eq_true rfl) (post' := fun zv zσ => V 11 MX7_digest 213 [some (vR 6 44), some (vL h14), none, none] (zv.toList ++ [vL ((31 : Int64) * h14)]) zσ post) (c_M_openOf (RM_k hk14 hR) ho (by omega) (by omega) (by omega) (fun σ15 hq15 => (show V 11 MX7_digest 213 [some (vR 6 44), some (vL h14), none, none] [vZ (zPick (zOpn (aC S) 8 4 0 (-1) (-1)) 1), vL ((31 : Int64) * h14)] σ15 post from ?_))) (fun _ _ h => h)
    have hk15 := hk14.tr hq15
    obtain ⟨h15, e15⟩ : ∃ q, q = zMx h14 (zPick (zOpn (aC S) 8 4 0 (-1) (-1)) 1) := ⟨_, rfl⟩
    refine V_run kX7_digest 2 [] (show V 11 MX7_digest 215 [some (vR 6 44), some (vL h14), none, none] [vL (((31 : Int64) * h14) + (zi2l (zPick (zOpn (aC S) 8 4 0 (-1) (-1)) 1)))] σ15 post from ?_)
    refine V_topL (e15.symm) ?_
    refine V_run kX7_digest 7 [] (show V 11 MX7_digest 225 [some (vR 6 44), some (vL h15), none, none] [vZ 0, vZ 8, vR 6 44, vL ((31 : Int64) * h15)] σ15 post from ?_)
    refine V_callV (a := [vZ 8, vZ 0]) (rest := [vL ((31 : Int64) * h15)]) kX7_digest rfl oX7_letOf iX7_letOf lk_7_264 rfl rfl rfl (Nat.le_of_ble_eq_true rfl) (Nat.le_of_ble_eq_true rfl) (Nat.le_of_ble_eq_true rfl) (post' := fun zv zσ => V 11 MX7_digest 228 [some (vR 6 44), some (vL h15), none, none] (zv.toList ++ [vL ((31 : Int64) * h15)]) zσ post) (c_M_letOf (RM_k hk15 hR) ho (by omega) (by omega) (by omega) (fun σ16 hq16 => (show V 11 MX7_digest 228 [some (vR 6 44), some (vL h15), none, none] [vZ (zPick (zLet (aC S) 8 (cn (aC S)).toNat 0 (-1) (-1)) 0), vL ((31 : Int64) * h15)] σ16 post from ?_))) (fun _ _ h => h)
    have hk16 := hk15.tr hq16
    obtain ⟨h16, e16⟩ : ∃ q, q = zMx h15 (zPick (zLet (aC S) 8 (cn (aC S)).toNat 0 (-1) (-1)) 0) := ⟨_, rfl⟩
    refine V_run kX7_digest 2 [] (show V 11 MX7_digest 230 [some (vR 6 44), some (vL h15), none, none] [vL (((31 : Int64) * h15) + (zi2l (zPick (zLet (aC S) 8 (cn (aC S)).toNat 0 (-1) (-1)) 0)))] σ16 post from ?_)
    refine V_topL (e16.symm) ?_
    refine V_run kX7_digest 7 [] (show V 11 MX7_digest 240 [some (vR 6 44), some (vL h16), none, none] [vZ 1, vZ 8, vR 6 44, vL ((31 : Int64) * h16)] σ16 post from ?_)
    refine V_callV (a := [vZ 8, vZ 1]) (rest := [vL ((31 : Int64) * h16)]) kX7_digest rfl oX7_letOf iX7_letOf lk_7_264 rfl rfl rfl (Nat.le_of_ble_eq_true rfl) (Nat.le_of_ble_eq_true rfl) (Nat.le_of_ble_eq_true rfl) (post' := fun zv zσ => V 11 MX7_digest 243 [some (vR 6 44), some (vL h16), none, none] (zv.toList ++ [vL ((31 : Int64) * h16)]) zσ post) (c_M_letOf (RM_k hk16 hR) ho (by omega) (by omega) (by omega) (fun σ17 hq17 => (show V 11 MX7_digest 243 [some (vR 6 44), some (vL h16), none, none] [vZ (zPick (zLet (aC S) 8 (cn (aC S)).toNat 0 (-1) (-1)) 1), vL ((31 : Int64) * h16)] σ17 post from ?_))) (fun _ _ h => h)
    have hk17 := hk16.tr hq17
    obtain ⟨h17, e17⟩ : ∃ q, q = zMx h16 (zPick (zLet (aC S) 8 (cn (aC S)).toNat 0 (-1) (-1)) 1) := ⟨_, rfl⟩
    refine V_run kX7_digest 2 [] (show V 11 MX7_digest 245 [some (vR 6 44), some (vL h16), none, none] [vL (((31 : Int64) * h16) + (zi2l (zPick (zLet (aC S) 8 (cn (aC S)).toNat 0 (-1) (-1)) 1)))] σ17 post from ?_)
    refine V_topL (e17.symm) ?_
    refine V_run kX7_digest 2 [] (show V 11 MX7_digest 247 [some (vR 6 44), some (vL h17), none, none] [vR 6 44] σ17 post from ?_)
    refine V_callV (a := []) (rest := []) kX7_digest rfl oX7_spareBy iX7_spareBy lk_7_270 rfl rfl rfl (Nat.le_of_ble_eq_true rfl) (Nat.le_of_ble_eq_true rfl) (Nat.le_of_ble_eq_true rfl) (post' := fun zv zσ => V 11 MX7_digest 250 [some (vR 6 44), some (vL h17), none, none] (zv.toList ++ []) zσ post) (c_M_spareBy (RM_k hk17 hR) ho (fun σ18 hq18 hrow => (show V 11 MX7_digest 250 [some (vR 6 44), some (vL h17), none, none] [vZ ((zSpr S).1)] σ18 post from ?_))) (fun _ _ h => h)
    have hk18 := hk17.tr hq18
    obtain ⟨h18, e18⟩ : ∃ q, q = zMx h17 ((zSpr S).1) := ⟨_, rfl⟩
    refine V_run kX7_digest 7 [] (show V 11 MX7_digest 259 [some (vR 6 44), some (vL h17), none, some (vZ ((zSpr S).1))] [vL (((31 : Int64) * h17) + (zi2l ((zSpr S).1)))] σ18 post from ?_)
    refine V_topL (e18.symm) ?_
    refine V_run kX7_digest 7 [] (show V 11 MX7_digest 268 [some (vR 6 44), some (vL h18), none, some (vZ ((zSpr S).1))] [vZ 0, vZ ((zSpr S).1), vR 6 44, vL ((31 : Int64) * h18)] σ18 post from ?_)
    refine V_callV (a := [vZ ((zSpr S).1), vZ 0]) (rest := [vL ((31 : Int64) * h18)]) kX7_digest rfl oX7_ofRow iX7_ofRow lk_7_273 rfl rfl rfl (Nat.le_of_ble_eq_true rfl) (Nat.le_of_ble_eq_true rfl) (Nat.le_of_ble_eq_true rfl) (post' := fun zv zσ => V 11 MX7_digest 271 [some (vR 6 44), some (vL h18), none, some (vZ ((zSpr S).1))] (zv.toList ++ [vL ((31 : Int64) * h18)]) zσ post) (c_M_ofRow hrow (by omega) (by omega) ((show V 11 MX7_digest 271 [some (vR 6 44), some (vL h18), none, some (vZ ((zSpr S).1))] [vZ (zOfR (zSpr S) 0), vL ((31 : Int64) * h18)] σ18 post from ?_))) (fun _ _ h => h)
    obtain ⟨h19, e19⟩ : ∃ q, q = zMx h18 (zOfR (zSpr S) 0) := ⟨_, rfl⟩
    refine V_run kX7_digest 2 [] (show V 11 MX7_digest 273 [some (vR 6 44), some (vL h18), none, some (vZ ((zSpr S).1))] [vL (((31 : Int64) * h18) + (zi2l (zOfR (zSpr S) 0)))] σ18 post from ?_)
    refine V_topL (e19.symm) ?_
    refine V_run kX7_digest 5 [] (show V 11 MX7_digest 280 [some (vR 6 44), some (vL h19), none, some (vZ ((zSpr S).1))] [vR 6 44, vL ((31 : Int64) * h19)] σ18 post from ?_)
    refine V_callV (a := []) (rest := [vL ((31 : Int64) * h19)]) kX7_digest rfl oX7_neverNow iX7_neverNow lk_7_283 rfl rfl rfl (Nat.le_of_ble_eq_true rfl) (Nat.le_of_ble_eq_true rfl) (Nat.le_of_ble_eq_true rfl) (post' := fun zv zσ => V 11 MX7_digest 283 [some (vR 6 44), some (vL h19), none, some (vZ ((zSpr S).1))] (zv.toList ++ [vL ((31 : Int64) * h19)]) zσ post) (c_M_neverNow (RM_k hk18 hR) ho (fun σ20 hq20 => (show V 11 MX7_digest 283 [some (vR 6 44), some (vL h19), none, some (vZ ((zSpr S).1))] [vZ (aNever S), vL ((31 : Int64) * h19)] σ20 post from ?_))) (fun _ _ h => h)
    have hk20 := hk18.tr hq20
    obtain ⟨h20, e20⟩ : ∃ q, q = zMx h19 (aNever S) := ⟨_, rfl⟩
    refine V_run kX7_digest 2 [] (show V 11 MX7_digest 285 [some (vR 6 44), some (vL h19), none, some (vZ ((zSpr S).1))] [vL (((31 : Int64) * h19) + (zi2l (aNever S)))] σ20 post from ?_)
    refine V_topL (e20.symm) ?_
    refine V_run kX7_digest 8 [] (show V 11 MX7_digest 297 [some (vR 6 44), some (vL h20), none, some (vZ ((zSpr S).1))] [vZ 0, vZ 6, vZ 7, vR 6 44, vL ((31 : Int64) * h20)] σ20 post from ?_)
    refine V_callV (a := [vZ 7, vZ 6, vZ 0]) (rest := [vL ((31 : Int64) * h20)]) kX7_digest rfl oX7_decadesOf iX7_decadesOf lk_7_313 rfl rfl rfl (Nat.le_of_ble_eq_true rfl) (Nat.le_of_ble_eq_true rfl) (Nat.le_of_ble_eq_true rfl) (post' := fun zv zσ => V 11 MX7_digest 300 [some (vR 6 44), some (vL h20), none, some (vZ ((zSpr S).1))] (zv.toList ++ [vL ((31 : Int64) * h20)]) zσ post) (c_M_decadesOf (RM_k hk20 hR) ho (by omega) (by omega) (by omega) (fun σ21 hq21 => (show V 11 MX7_digest 300 [some (vR 6 44), some (vL h20), none, some (vZ ((zSpr S).1))] [vZ (vDec S 7 6 0), vL ((31 : Int64) * h20)] σ21 post from ?_))) (fun _ _ h => h)
    have hk21 := hk20.tr hq21
    obtain ⟨h21, e21⟩ : ∃ q, q = zMx h20 (vDec S 7 6 0) := ⟨_, rfl⟩
    refine V_run kX7_digest 2 [] (show V 11 MX7_digest 302 [some (vR 6 44), some (vL h20), none, some (vZ ((zSpr S).1))] [vL (((31 : Int64) * h20) + (zi2l (vDec S 7 6 0)))] σ21 post from ?_)
    refine V_topL (e21.symm) ?_
    refine V_run kX7_digest 8 [] (show V 11 MX7_digest 314 [some (vR 6 44), some (vL h21), none, some (vZ ((zSpr S).1))] [vZ 1, vZ 6, vZ 7, vR 6 44, vL ((31 : Int64) * h21)] σ21 post from ?_)
    refine V_callV (a := [vZ 7, vZ 6, vZ 1]) (rest := [vL ((31 : Int64) * h21)]) kX7_digest rfl oX7_decadesOf iX7_decadesOf lk_7_313 rfl rfl rfl (Nat.le_of_ble_eq_true rfl) (Nat.le_of_ble_eq_true rfl) (Nat.le_of_ble_eq_true rfl) (post' := fun zv zσ => V 11 MX7_digest 317 [some (vR 6 44), some (vL h21), none, some (vZ ((zSpr S).1))] (zv.toList ++ [vL ((31 : Int64) * h21)]) zσ post) (c_M_decadesOf (RM_k hk21 hR) ho (by omega) (by omega) (by omega) (fun σ22 hq22 => (show V 11 MX7_digest 317 [some (vR 6 44), some (vL h21), none, some (vZ ((zSpr S).1))] [vZ (vDec S 7 6 1), vL ((31 : Int64) * h21)] σ22 post from ?_))) (fun _ _ h => h)
    have hk22 := hk21.tr hq22
    obtain ⟨h22, e22⟩ : ∃ q, q = zMx h21 (vDec S 7 6 1) := ⟨_, rfl⟩
    refine V_run kX7_digest 2 [] (show V 11 MX7_digest 319 [some (vR 6 44), some (vL h21), none, some (vZ ((zSpr S).1))] [vL (((31 : Int64) * h21) + (zi2l (vDec S 7 6 1)))] σ22 post from ?_)
    refine V_topL (e22.symm) ?_
    have fin : aDigest S = h22 := by
      unfold aDigest zDgE
      rw [e22, e21, e20, e19, e18, e17, e16, e15, e14, e13, e12, e11, e5, e4, e3, e2, e1]
    rw [fin] at hp
    exact V_lret kX7_digest rfl rfl (hp _ hk22)
  have part3 : ∀ (m : Nat) (i : Int) (y : Int64), 0 ≤ i → i + m = cn (aC S) → zDgK S m i y = h5 → ∀ σ2 : zSt, mKeep σ σ2 → aTp σ2 S → V 11 MX7_digest 127 [some (vR 6 44), some (vL y), none, some (vZ i)] [] σ2 post := by
    intro m
    induction m with
    | zero =>
      intro i y i0 i1 he σ2 hk ht
      unfold zDgK at he
      subst he
      refine V_run kX7_digest 3 [] (show V 11 MX7_digest 132 [some (vR 6 44), some (vL y), none, some (vZ i)] [vZ (σ2.1 44 2), vZ i] σ2 post from ?_)
      refine V_top (ht.1) ?_
      refine V_run kX7_digest 1 [1] (show (zr i ∧ zr (cn (aC S)) ∧ (cn (aC S)) ≤ i) ∧ V 11 MX7_digest 148 [some (vR 6 44), some (vL y), none, some (vZ i)] [] σ2 post from ⟨(by omega), ?_⟩)
      refine V_drop (L := [some (vR 6 44), some (vL y), none, none]) ⟨rfl, ⟨rfl, trivial⟩⟩ ?_
      exact part4 σ2 hk
    | succ m ih =>
      intro i y i0 i1 he σ2 hk ht
      unfold zDgK at he
      refine V_run kX7_digest 3 [] (show V 11 MX7_digest 132 [some (vR 6 44), some (vL y), none, some (vZ i)] [vZ (σ2.1 44 2), vZ i] σ2 post from ?_)
      refine V_top (ht.1) ?_
      refine V_run kX7_digest 4 [0] (show (zr i ∧ zr (cn (aC S)) ∧ i < (cn (aC S))) ∧ V 11 MX7_digest 138 [some (vR 6 44), some (vL y), none, some (vZ i)] [vZ i, vL y, vR 6 44] σ2 post from ⟨(by omega), ?_⟩)
      refine V_callV (a := [vL y, vZ i]) (rest := []) kX7_digest rfl oX7_personDigest iX7_personDigest lk_7_341 rfl rfl rfl (Nat.le_of_ble_eq_true rfl) (Nat.le_of_ble_eq_true rfl) (Nat.le_of_ble_eq_true rfl) (post' := fun zv zσ => V 11 MX7_digest 141 [some (vR 6 44), some (vL y), none, some (vZ i)] (zv.toList ++ []) zσ post) (c_M_personDigest (RM_k hk hR) ho ht i0 (by omega) (fun σ3 hk3 ht3 => (show V 11 MX7_digest 141 [some (vR 6 44), some (vL y), none, some (vZ i)] [vL (zDgP S y i)] σ3 post from ?_))) (fun _ _ h => h)
      refine V_run kX7_digest 3 [] (show V 11 MX7_digest 127 [some (vR 6 44), some (vL (zDgP S y i)), none, some (vZ (i + 1))] [] σ3 post from ?_)
      exact ih (i + 1) _ (by omega) (by omega) he σ3 (hk.tr hk3) ht3
  have part2 : ∀ (m : Nat) (i : Int) (y : Int64), 0 ≤ i → i + m = 24 → zDgT S m i y = h4 → ∀ σ2 : zSt, mKeep σ σ2 → (m = 0 → aTp σ2 S) → V 11 MX7_digest 59 [some (vR 6 44), some (vL y), none, some (vZ i)] [] σ2 post := by
    intro m
    induction m with
    | zero =>
      intro i y i0 i1 he σ2 hk ht
      unfold zDgT at he
      subst he
      refine V_run kX7_digest 5 [1] (show (zr i ∧ zr 24 ∧ 24 ≤ i) ∧ V 11 MX7_digest 127 [some (vR 6 44), some (vL y), none, some (vZ 0)] [] σ2 post from ⟨(by omega), ?_⟩)
      exact part3 (cn (aC S)).toNat 0 y (by omega) (by omega) e5.symm σ2 hk (ht rfl)
    | succ m ih =>
      intro i y i0 i1 he σ2 hk ht
      unfold zDgT at he
      refine V_run kX7_digest 8 [0] (show (zr i ∧ zr 24 ∧ i < 24) ∧ V 11 MX7_digest 72 [some (vR 6 44), some (vL y), none, some (vZ i)] [vZ i, vR 6 44, vL ((31 : Int64) * y)] σ2 post from ⟨(by omega), ?_⟩)
      refine V_callV (a := [vZ i]) (rest := [vL ((31 : Int64) * y)]) kX7_digest rfl oX7_windowOf iX7_windowOf lk_7_155 rfl rfl rfl (Nat.le_of_ble_eq_true rfl) (Nat.le_of_ble_eq_true rfl) (Nat.le_of_ble_eq_true rfl) (post' := fun zv zσ => V 11 MX7_digest 75 [some (vR 6 44), some (vL y), none, some (vZ i)] (zv.toList ++ [vL ((31 : Int64) * y)]) zσ post) (c_M_windowOf (RM_k hk hR) ho i0 (by omega) (fun σ31 hq31 => (show V 11 MX7_digest 75 [some (vR 6 44), some (vL y), none, some (vZ i)] [vZ (cWi (aC S) i), vL ((31 : Int64) * y)] σ31 post from ?_))) (fun _ _ h => h)
      have hk31 := hk.tr hq31
      obtain ⟨h31, e31⟩ : ∃ q, q = zMx y (cWi (aC S) i) := ⟨_, rfl⟩
      rw [← e31] at he
      refine V_run kX7_digest 2 [] (show V 11 MX7_digest 77 [some (vR 6 44), some (vL y), none, some (vZ i)] [vL (((31 : Int64) * y) + (zi2l (cWi (aC S) i)))] σ31 post from ?_)
      refine V_topL (e31.symm) ?_
      refine V_run kX7_digest 6 [] (show V 11 MX7_digest 85 [some (vR 6 44), some (vL h31), none, some (vZ i)] [vZ i, vR 6 44, vL ((31 : Int64) * h31)] σ31 post from ?_)
      refine V_callV (a := [vZ i]) (rest := [vL ((31 : Int64) * h31)]) kX7_digest rfl oX7_manyOf iX7_manyOf lk_7_225 rfl rfl rfl (Nat.le_of_ble_eq_true rfl) (Nat.le_of_ble_eq_true rfl) (Nat.le_of_ble_eq_true rfl) (post' := fun zv zσ => V 11 MX7_digest 88 [some (vR 6 44), some (vL h31), none, some (vZ i)] (zv.toList ++ [vL ((31 : Int64) * h31)]) zσ post) (c_M_manyOf (RM_k hk31 hR) ho i0 (by omega) (fun σ32 hq32 => (show V 11 MX7_digest 88 [some (vR 6 44), some (vL h31), none, some (vZ i)] [vZ (dn (zD (aC S) i)), vL ((31 : Int64) * h31)] σ32 post from ?_))) (fun _ _ h => h)
      have hk32 := hk31.tr hq32
      obtain ⟨h32, e32⟩ : ∃ q, q = zMx h31 (dn (zD (aC S) i)) := ⟨_, rfl⟩
      rw [← e32] at he
      refine V_run kX7_digest 2 [] (show V 11 MX7_digest 90 [some (vR 6 44), some (vL h31), none, some (vZ i)] [vL (((31 : Int64) * h31) + (zi2l (dn (zD (aC S) i))))] σ32 post from ?_)
      refine V_topL (e32.symm) ?_
      refine V_run kX7_digest 7 [] (show V 11 MX7_digest 99 [some (vR 6 44), some (vL h32), none, some (vZ i)] [vZ 0, vZ i, vR 6 44, vL ((31 : Int64) * h32)] σ32 post from ?_)
      refine V_callV (a := [vZ i, vZ 0]) (rest := [vL ((31 : Int64) * h32)]) kX7_digest rfl oX7_standsOf iX7_standsOf lk_7_222 rfl rfl rfl (Nat.le_of_ble_eq_true rfl) (Nat.le_of_ble_eq_true rfl) (Nat.le_of_ble_eq_true rfl) (post' := fun zv zσ => V 11 MX7_digest 102 [some (vR 6 44), some (vL h32), none, some (vZ i)] (zv.toList ++ [vL ((31 : Int64) * h32)]) zσ post) (c_M_standsOf2 (RM_k hk32 hR) ho i0 (by omega) (by omega) (by omega) (fun σ33 hq33 ht33 => (show V 11 MX7_digest 102 [some (vR 6 44), some (vL h32), none, some (vZ i)] [vZ (zWho (aC S) i 0), vL ((31 : Int64) * h32)] σ33 post from ?_))) (fun _ _ h => h)
      have hk33 := hk32.tr hq33
      obtain ⟨h33, e33⟩ : ∃ q, q = zMx h32 (zWho (aC S) i 0) := ⟨_, rfl⟩
      rw [← e33] at he
      refine V_run kX7_digest 2 [] (show V 11 MX7_digest 104 [some (vR 6 44), some (vL h32), none, some (vZ i)] [vL (((31 : Int64) * h32) + (zi2l (zWho (aC S) i 0)))] σ33 post from ?_)
      refine V_topL (e33.symm) ?_
      refine V_run kX7_digest 7 [] (show V 11 MX7_digest 113 [some (vR 6 44), some (vL h33), none, some (vZ i)] [vZ 4, vZ i, vR 6 44, vL ((31 : Int64) * h33)] σ33 post from ?_)
      refine V_callV (a := [vZ i, vZ 4]) (rest := [vL ((31 : Int64) * h33)]) kX7_digest rfl oX7_standsOf iX7_standsOf lk_7_222 rfl rfl rfl (Nat.le_of_ble_eq_true rfl) (Nat.le_of_ble_eq_true rfl) (Nat.le_of_ble_eq_true rfl) (post' := fun zv zσ => V 11 MX7_digest 116 [some (vR 6 44), some (vL h33), none, some (vZ i)] (zv.toList ++ [vL ((31 : Int64) * h33)]) zσ post) (c_M_standsOf2 (RM_k hk33 hR) ho i0 (by omega) (by omega) (by omega) (fun σ34 hq34 ht34 => (show V 11 MX7_digest 116 [some (vR 6 44), some (vL h33), none, some (vZ i)] [vZ (zWho (aC S) i 4), vL ((31 : Int64) * h33)] σ34 post from ?_))) (fun _ _ h => h)
      have hk34 := hk33.tr hq34
      obtain ⟨h34, e34⟩ : ∃ q, q = zMx h33 (zWho (aC S) i 4) := ⟨_, rfl⟩
      rw [← e34] at he
      refine V_run kX7_digest 2 [] (show V 11 MX7_digest 118 [some (vR 6 44), some (vL h33), none, some (vZ i)] [vL (((31 : Int64) * h33) + (zi2l (zWho (aC S) i 4)))] σ34 post from ?_)
      refine V_topL (e34.symm) ?_
      refine V_run kX7_digest 3 [] (show V 11 MX7_digest 59 [some (vR 6 44), some (vL h34), none, some (vZ (i + 1))] [] σ34 post from ?_)
      exact ih (i + 1) _ (by omega) (by omega) he σ34 hk34 (fun _ => ht34)
  have part1 : ∀ (m : Nat) (i : Int) (y : Int64), 0 ≤ i → i + m = 8 → zFo (aCount S) m i y = h1 → ∀ σ2 : zSt, mKeep σ σ2 → V 11 MX7_digest 6 [some (vR 6 44), some (vL y), none, some (vZ i)] [] σ2 post := by
    intro m
    induction m with
    | zero =>
      intro i y i0 i1 he σ2 hk
      unfold zFo at he
      subst he
      refine V_run kX7_digest 8 [1] (show (zr i ∧ zr 8 ∧ 8 ≤ i) ∧ V 11 MX7_digest 38 [some (vR 6 44), some (vL y), none, some (vZ i)] [vZ 0, vR 6 44, vL ((31 : Int64) * y)] σ2 post from ⟨(by omega), ?_⟩)
      have hw40 := RM_who (RM_k hk hR)
      refine V_callV (a := [vZ 0]) (rest := [vL ((31 : Int64) * y)]) kX7_digest rfl oX7_faultOf iX7_faultOf lk_7_140 rfl rfl rfl (Nat.le_of_ble_eq_true rfl) (Nat.le_of_ble_eq_true rfl) (Nat.le_of_ble_eq_true rfl) (post' := fun zv zσ => V 11 MX7_digest 41 [some (vR 6 44), some (vL y), none, some (vZ i)] (zv.toList ++ [vL ((31 : Int64) * y)]) zσ post) (c_M_faultOf (RM_t (RM_k hk hR) ho) (by decide) (fun σ40 hf40 hd40 => (show V 11 MX7_digest 41 [some (vR 6 44), some (vL y), none, some (vZ i)] [vZ (if 0 = 0 then zflt 1 (σ2.1 46) (σ2.1 45 0) else zflt 0 (zGt σ2) (σ2.1 45 1)), vL ((31 : Int64) * y)] σ40 post from ?_))) (fun _ _ h => h)
      refine V_top (show (if (0 : Int) = 0 then zflt 1 (σ2.1 46) (σ2.1 45 0) else zflt 0 (zGt σ2) (σ2.1 45 1)) = vFault S 0 by rw [hw40.2.2.1, hw40.2.2.2]; rfl) ?_
      have hk40 := hk.tr hf40.k
      refine V_run kX7_digest 2 [] (show V 11 MX7_digest 43 [some (vR 6 44), some (vL y), none, some (vZ i)] [vL (((31 : Int64) * y) + (zi2l (vFault S 0)))] σ40 post from ?_)
      refine V_topL (e2.symm) ?_
      refine V_run kX7_digest 6 [] (show V 11 MX7_digest 51 [some (vR 6 44), some (vL h2), none, some (vZ i)] [vZ 1, vR 6 44, vL ((31 : Int64) * h2)] σ40 post from ?_)
      have hw41 := RM_who (RM_k hk40 hR)
      refine V_callV (a := [vZ 1]) (rest := [vL ((31 : Int64) * h2)]) kX7_digest rfl oX7_faultOf iX7_faultOf lk_7_140 rfl rfl rfl (Nat.le_of_ble_eq_true rfl) (Nat.le_of_ble_eq_true rfl) (Nat.le_of_ble_eq_true rfl) (post' := fun zv zσ => V 11 MX7_digest 54 [some (vR 6 44), some (vL h2), none, some (vZ i)] (zv.toList ++ [vL ((31 : Int64) * h2)]) zσ post) (c_M_faultOf (RM_t (RM_k hk40 hR) ho) (by decide) (fun σ41 hf41 hd41 => (show V 11 MX7_digest 54 [some (vR 6 44), some (vL h2), none, some (vZ i)] [vZ (if 1 = 0 then zflt 1 (σ40.1 46) (σ40.1 45 0) else zflt 0 (zGt σ40) (σ40.1 45 1)), vL ((31 : Int64) * h2)] σ41 post from ?_))) (fun _ _ h => h)
      refine V_top (show (if (1 : Int) = 0 then zflt 1 (σ40.1 46) (σ40.1 45 0) else zflt 0 (zGt σ40) (σ40.1 45 1)) = vFault S 1 by rw [hw41.2.2.1, hw41.2.2.2]; rfl) ?_
      have hk41 := hk40.tr hf41.k
      refine V_run kX7_digest 2 [] (show V 11 MX7_digest 56 [some (vR 6 44), some (vL h2), none, some (vZ i)] [vL (((31 : Int64) * h2) + (zi2l (vFault S 1)))] σ41 post from ?_)
      refine V_topL (e3.symm) ?_
      refine V_run kX7_digest 3 [] (show V 11 MX7_digest 59 [some (vR 6 44), some (vL h3), none, some (vZ 0)] [] σ41 post from ?_)
      exact part2 24 0 h3 (by omega) (by omega) e4.symm σ41 hk41 (fun q => absurd q (by omega))
    | succ m ih =>
      intro i y i0 i1 he σ2 hk
      unfold zFo at he
      refine V_run kX7_digest 8 [0] (show (zr i ∧ zr 8 ∧ i < 8) ∧ V 11 MX7_digest 19 [some (vR 6 44), some (vL y), none, some (vZ i)] [vZ i, vR 6 44, vL ((31 : Int64) * y)] σ2 post from ⟨(by omega), ?_⟩)
      refine V_callV (a := [vZ i]) (rest := [vL ((31 : Int64) * y)]) kX7_digest rfl oX7_count iX7_count lk_7_338 rfl rfl rfl (Nat.le_of_ble_eq_true rfl) (Nat.le_of_ble_eq_true rfl) (Nat.le_of_ble_eq_true rfl) (post' := fun zv zσ => V 11 MX7_digest 22 [some (vR 6 44), some (vL y), none, some (vZ i)] (zv.toList ++ [vL ((31 : Int64) * y)]) zσ post) (c_M_count (RM_k hk hR) ho (by omega) (fun σ3 hk3 => (show V 11 MX7_digest 22 [some (vR 6 44), some (vL y), none, some (vZ i)] [vZ (aCount S i), vL ((31 : Int64) * y)] σ3 post from ?_))) (fun _ _ h => h)
      refine V_run kX7_digest 5 [] (show V 11 MX7_digest 6 [some (vR 6 44), some (vL (((31 : Int64) * y) + (zi2l (aCount S i)))), none, some (vZ (i + 1))] [] σ3 post from ?_)
      exact ih (i + 1) _ (by omega) (by omega) he σ3 (hk.tr hk3)
  show V 11 MX7_digest 0 [some (vR 6 44), none, none, none] [] σ post
  refine V_run kX7_digest 4 [] (show V 11 MX7_digest 6 [some (vR 6 44), some (vL (17 : Int64)), none, some (vZ 0)] [] σ post from ?_)
  exact part1 8 0 17 (by omega) (by omega) e1.symm σ mKeep.rf
