theorem zor_0 {a : Int} (h : zr a) : zor a 0 = a := by
  unfold zor
  rw [show Int32.ofInt 0 = (0 : Int32) from rfl, Int32.or_zero]
  exact zi_to h
theorem zor_zr (a b : Int) : zr (zor a b) := ⟨by have := Int32.le_toInt (Int32.ofInt a ||| Int32.ofInt b); unfold zor; omega, by have := Int32.toInt_lt (Int32.ofInt a ||| Int32.ofInt b); unfold zor; omega⟩
theorem zMov_s {C : zCf} {p t b a : Int} {m : Nat} : zMov C p (m + 1) t b a = zMov C p m (t + 1) (zPla C t p) (if b = -1 ∨ zPla C t p = -1 ∨ zPla C t p = b then a else a + 1) := rfl
/-- who stands at the end, as bits -/
def zKet (C : zCf) : Nat → Int → Int → Int
  | 0, _, b => b
  | m + 1, p, b => zKet C m (p + 1) (if ds (zD C 23) p = 1 then zor b (zshl 1 p) else b)
set_option maxHeartbeats 4000000 in
set_option maxRecDepth 100000 in
/-- stoodNow -/
theorem c_M_stoodNow {C : zCf} {k : Int} {σ : zSt} {post : Option VV → zSt → Prop} (hC : zCv C) (hrec : zRec σ C 24) (k0 : 0 ≤ k) (k1 : k < cn C) (hp : post (some (vZ (zSto C k 24 0 0))) σ) : Mc 0 MX7_stoodNow [vR 6 44, vZ k] σ post := by
  have hcn := hC.1
  obtain ⟨v, hv⟩ : ∃ v : Int, v = zSto C k 24 0 0 := ⟨_, rfl⟩
  rw [← hv] at hp
  have loop : ∀ (m : Nat) (t a : Int), 0 ≤ t → t + m = 24 → zSto C k m t a = v → V 0 MX7_stoodNow 4 [some (vR 6 44), some (vZ k), some (vZ a), some (vZ t)] [] σ post := by
    intro m
    induction m with
    | zero =>
      intro t a t0 t1 he
      rw [← he] at hp
      refine V_run kX7_stoodNow 4 [1] (show (zr t ∧ zr 24 ∧ 24 ≤ t) ∧ V 0 MX7_stoodNow 40 [some (vR 6 44), some (vZ k), some (vZ a), some (vZ t)] [vZ a] σ post from ⟨(by omega), ?_⟩)
      exact V_iret kX7_stoodNow rfl rfl (hp)
    | succ m ih =>
      intro t a t0 t1 he
      unfold zSto at he
      have hq := (zPla_rng hC t k0).2.2
      have hrs := ((hrec t t0 (by omega)).1 k k0 (by omega)).2.1
      have hsr := (zJ_D hC t).2.2.2.2.2.2.1 k
      refine V_run kX7_stoodNow 12 [0] (show (zr t ∧ zr 24 ∧ t < 24) ∧ (0 ≤ ((12 * t) + k) ∧ ((12 * t) + k) < 288) ∧ V 0 MX7_stoodNow 22 [some (vR 6 44), some (vZ k), some (vZ a), some (vZ t)] [vZ (σ.1 62 ((12 * t) + k)), vZ a] σ post from ⟨(by omega), (by omega), ?_⟩)
      refine V_top (hrs) ?_
      refine V_run kX7_stoodNow 1 [] (show V 0 MX7_stoodNow 23 [some (vR 6 44), some (vZ k), some (vZ a), some (vZ t)] [vZ 1, vZ (ds (zD C t) k), vZ a] σ post from ?_)
      by_cases h1 : ds (zD C t) k = 1
      · skip
        rw [if_neg (fun z => hq.mp z ⟨k1, h1⟩)] at he
        refine V_run kX7_stoodNow 7 [0] (show (zr (ds (zD C t) k) ∧ zr 1 ∧ (ds (zD C t) k) = 1) ∧ V 0 MX7_stoodNow 4 [some (vR 6 44), some (vZ k), some (vZ (a + 1)), some (vZ (t + 1))] [] σ post from ⟨(by omega), ?_⟩)
        exact ih (t + 1) (a + 1) (by omega) (by omega) he
      · skip
        rw [if_pos (hq.mpr (fun z => h1 z.2))] at he
        refine V_run kX7_stoodNow 2 [1] (show (zr (ds (zD C t) k) ∧ zr 1 ∧ ¬ (ds (zD C t) k) = 1) ∧ V 0 MX7_stoodNow 31 [some (vR 6 44), some (vZ k), some (vZ a), some (vZ t)] [vZ 0, vZ a] σ post from ⟨(by omega), ?_⟩)
        refine V_run kX7_stoodNow 4 [] (show V 0 MX7_stoodNow 4 [some (vR 6 44), some (vZ k), some (vZ (a + 0)), some (vZ (t + 1))] [] σ post from ?_)
        rw [show a + 0 = a from Int.add_zero a]
        exact ih (t + 1) a (by omega) (by omega) he
  show V 0 MX7_stoodNow 0 [some (vR 6 44), some (vZ k), none, none] [] σ post
  refine V_run kX7_stoodNow 4 [] (show V 0 MX7_stoodNow 4 [some (vR 6 44), some (vZ k), some (vZ 0), some (vZ 0)] [] σ post from ?_)
  exact loop 24 0 0 (by omega) (by omega) hv.symm
set_option maxHeartbeats 4000000 in
set_option maxRecDepth 100000 in
/-- movesNow -/
theorem c_M_movesNow {C : zCf} {k : Int} {σ : zSt} {post : Option VV → zSt → Prop} (hC : zCv C) (hrec : zRec σ C 24) (k0 : 0 ≤ k) (k1 : k < cn C) (hp : post (some (vZ (zMov C k (23 + 1) 0 (-1) 0))) σ) : Mc 1 MX7_movesNow [vR 6 44, vZ k] σ post := by
  have hcn := hC.1
  obtain ⟨v, hv⟩ : ∃ v : Int, v = zMov C k (23 + 1) 0 (-1) 0 := ⟨_, rfl⟩
  rw [← hv] at hp
  rw [zMov_s, if_pos (Or.inl rfl)] at hv
  have loop : ∀ (m : Nat) (t a : Int), 1 ≤ t → t + m = 24 → zMov C k m t (zPla C (t - 1) k) a = v → V 1 MX7_movesNow 4 [some (vR 6 44), some (vZ k), some (vZ a), some (vZ t), none, none] [] σ post := by
    intro m
    induction m with
    | zero =>
      intro t a t0 t1 he
      rw [← he] at hp
      refine V_run kX7_movesNow 4 [1] (show (zr t ∧ zr 24 ∧ 24 ≤ t) ∧ V 1 MX7_movesNow 62 [some (vR 6 44), some (vZ k), some (vZ a), some (vZ t), none, none] [vZ a] σ post from ⟨(by omega), ?_⟩)
      exact V_iret kX7_movesNow rfl rfl (hp)
    | succ m ih =>
      intro t a t0 t1 he
      unfold zMov at he
      have hq := zPla_rng hC t k0
      have hq1 := zPla_rng hC (t - 1) k0
      refine V_run kX7_movesNow 8 [0] (show (zr t ∧ zr 24 ∧ t < 24) ∧ V 1 MX7_movesNow 15 [some (vR 6 44), some (vZ k), some (vZ a), some (vZ t), none, none] [vZ k, vZ (t - 1), vR 6 44] σ post from ⟨(by omega), ?_⟩)
      refine V_callV (a := [vZ (t - 1), vZ k]) (rest := []) kX7_movesNow rfl oX7_placeAt iX7_placeAt lk_7_228 rfl rfl rfl (Nat.le_of_ble_eq_true rfl) (Nat.le_of_ble_eq_true rfl) (Nat.le_of_ble_eq_true rfl) (post' := fun zv zσ => V 1 MX7_movesNow 18 [some (vR 6 44), some (vZ k), some (vZ a), some (vZ t), none, none] (zv.toList ++ []) zσ post) (c_M_placeAt hC hrec (by omega) (by omega) k0 k1 ((show V 1 MX7_movesNow 18 [some (vR 6 44), some (vZ k), some (vZ a), some (vZ t), none, none] [vZ (zPla C (t - 1) k)] σ post from ?_))) (fun _ _ h => h)
      refine V_run kX7_movesNow 4 [] (show V 1 MX7_movesNow 23 [some (vR 6 44), some (vZ k), some (vZ a), some (vZ t), some (vZ (zPla C (t - 1) k)), none] [vZ k, vZ t, vR 6 44] σ post from ?_)
      refine V_callV (a := [vZ t, vZ k]) (rest := []) kX7_movesNow rfl oX7_placeAt iX7_placeAt lk_7_228 rfl rfl rfl (Nat.le_of_ble_eq_true rfl) (Nat.le_of_ble_eq_true rfl) (Nat.le_of_ble_eq_true rfl) (post' := fun zv zσ => V 1 MX7_movesNow 26 [some (vR 6 44), some (vZ k), some (vZ a), some (vZ t), some (vZ (zPla C (t - 1) k)), none] (zv.toList ++ []) zσ post) (c_M_placeAt hC hrec (by omega) (by omega) k0 k1 ((show V 1 MX7_movesNow 26 [some (vR 6 44), some (vZ k), some (vZ a), some (vZ t), some (vZ (zPla C (t - 1) k)), none] [vZ (zPla C t k)] σ post from ?_))) (fun _ _ h => h)
      refine V_run kX7_movesNow 4 [] (show V 1 MX7_movesNow 32 [some (vR 6 44), some (vZ k), some (vZ a), some (vZ t), some (vZ (zPla C (t - 1) k)), some (vZ (zPla C t k))] [vZ (-1), vZ (zPla C (t - 1) k), vZ a] σ post from ?_)
      by_cases h1 : zPla C (t - 1) k = -1
      · skip
        rw [if_pos (Or.inl h1)] at he
        refine V_run kX7_movesNow 2 [1] (show (zr (zPla C (t - 1) k) ∧ zr (-1) ∧ (zPla C (t - 1) k) = (-1)) ∧ V 1 MX7_movesNow 53 [some (vR 6 44), some (vZ k), some (vZ a), some (vZ t), some (vZ (zPla C (t - 1) k)), some (vZ (zPla C t k))] [vZ 0, vZ a] σ post from ⟨(by omega), ?_⟩)
        refine V_run kX7_movesNow 4 [] (show V 1 MX7_movesNow 4 [some (vR 6 44), some (vZ k), some (vZ (a + 0)), some (vZ (t + 1)), some (vZ (zPla C (t - 1) k)), some (vZ (zPla C t k))] [] σ post from ?_)
        refine V_drop (L := [some (vR 6 44), some (vZ k), some (vZ (a + 0)), some (vZ (t + 1)), none, none]) ⟨rfl, ⟨rfl, ⟨rfl, ⟨rfl, trivial⟩⟩⟩⟩ ?_
        rw [show a + 0 = a from Int.add_zero a]
        exact ih (t + 1) a (by omega) (by omega) (by rw [show t + 1 - 1 = t by omega]; exact he)
      · skip
        refine V_run kX7_movesNow 3 [0] (show (zr (zPla C (t - 1) k) ∧ zr (-1) ∧ ¬ (zPla C (t - 1) k) = (-1)) ∧ V 1 MX7_movesNow 38 [some (vR 6 44), some (vZ k), some (vZ a), some (vZ t), some (vZ (zPla C (t - 1) k)), some (vZ (zPla C t k))] [vZ (-1), vZ (zPla C t k), vZ a] σ post from ⟨(by omega), ?_⟩)
        by_cases h2 : zPla C t k = -1
        · skip
          rw [if_pos (Or.inr (Or.inl h2))] at he
          refine V_run kX7_movesNow 2 [1] (show (zr (zPla C t k) ∧ zr (-1) ∧ (zPla C t k) = (-1)) ∧ V 1 MX7_movesNow 53 [some (vR 6 44), some (vZ k), some (vZ a), some (vZ t), some (vZ (zPla C (t - 1) k)), some (vZ (zPla C t k))] [vZ 0, vZ a] σ post from ⟨(by omega), ?_⟩)
          refine V_run kX7_movesNow 4 [] (show V 1 MX7_movesNow 4 [some (vR 6 44), some (vZ k), some (vZ (a + 0)), some (vZ (t + 1)), some (vZ (zPla C (t - 1) k)), some (vZ (zPla C t k))] [] σ post from ?_)
          refine V_drop (L := [some (vR 6 44), some (vZ k), some (vZ (a + 0)), some (vZ (t + 1)), none, none]) ⟨rfl, ⟨rfl, ⟨rfl, ⟨rfl, trivial⟩⟩⟩⟩ ?_
          rw [show a + 0 = a from Int.add_zero a]
          exact ih (t + 1) a (by omega) (by omega) (by rw [show t + 1 - 1 = t by omega]; exact he)
        · skip
          refine V_run kX7_movesNow 3 [0] (show (zr (zPla C t k) ∧ zr (-1) ∧ ¬ (zPla C t k) = (-1)) ∧ V 1 MX7_movesNow 45 [some (vR 6 44), some (vZ k), some (vZ a), some (vZ t), some (vZ (zPla C (t - 1) k)), some (vZ (zPla C t k))] [vZ (zPla C t k), vZ (zPla C (t - 1) k), vZ a] σ post from ⟨(by omega), ?_⟩)
          by_cases h3 : zPla C (t - 1) k = zPla C t k
          · skip
            rw [if_pos (Or.inr (Or.inr h3.symm))] at he
            refine V_run kX7_movesNow 2 [1] (show (zr (zPla C (t - 1) k) ∧ zr (zPla C t k) ∧ (zPla C (t - 1) k) = (zPla C t k)) ∧ V 1 MX7_movesNow 53 [some (vR 6 44), some (vZ k), some (vZ a), some (vZ t), some (vZ (zPla C (t - 1) k)), some (vZ (zPla C t k))] [vZ 0, vZ a] σ post from ⟨(by omega), ?_⟩)
            refine V_run kX7_movesNow 4 [] (show V 1 MX7_movesNow 4 [some (vR 6 44), some (vZ k), some (vZ (a + 0)), some (vZ (t + 1)), some (vZ (zPla C (t - 1) k)), some (vZ (zPla C t k))] [] σ post from ?_)
            refine V_drop (L := [some (vR 6 44), some (vZ k), some (vZ (a + 0)), some (vZ (t + 1)), none, none]) ⟨rfl, ⟨rfl, ⟨rfl, ⟨rfl, trivial⟩⟩⟩⟩ ?_
            rw [show a + 0 = a from Int.add_zero a]
            exact ih (t + 1) a (by omega) (by omega) (by rw [show t + 1 - 1 = t by omega]; exact he)
          · skip
            rw [if_neg (fun q => q.elim h1 (fun q => q.elim h2 (fun q => h3 q.symm)))] at he
            refine V_run kX7_movesNow 7 [0] (show (zr (zPla C (t - 1) k) ∧ zr (zPla C t k) ∧ ¬ (zPla C (t - 1) k) = (zPla C t k)) ∧ V 1 MX7_movesNow 4 [some (vR 6 44), some (vZ k), some (vZ (a + 1)), some (vZ (t + 1)), some (vZ (zPla C (t - 1) k)), some (vZ (zPla C t k))] [] σ post from ⟨(by omega), ?_⟩)
            refine V_drop (L := [some (vR 6 44), some (vZ k), some (vZ (a + 1)), some (vZ (t + 1)), none, none]) ⟨rfl, ⟨rfl, ⟨rfl, ⟨rfl, trivial⟩⟩⟩⟩ ?_
            exact ih (t + 1) (a + 1) (by omega) (by omega) (by rw [show t + 1 - 1 = t by omega]; exact he)
  show V 1 MX7_movesNow 0 [some (vR 6 44), some (vZ k), none, none, none, none] [] σ post
  refine V_run kX7_movesNow 4 [] (show V 1 MX7_movesNow 4 [some (vR 6 44), some (vZ k), some (vZ 0), some (vZ 1), none, none] [] σ post from ?_)
  exact loop 23 1 0 (by omega) (by omega) hv.symm
set_option maxHeartbeats 4000000 in
set_option maxRecDepth 100000 in
/-- servedNow -/
theorem c_M_servedNow {C : zCf} {σ : zSt} {post : Option VV → zSt → Prop} (hC : zCv C) (hn : σ.1 44 2 = cn C) (hm : zMd σ (dDay C 24)) (hp : post (some (vZ (zSvc C (cn C).toNat 0 0))) σ) : Mc 0 MX7_servedNow [vR 6 44] σ post := by
  have hcn := hC.1
  have hJ := zJ_D hC 23
  obtain ⟨v, hv⟩ : ∃ v : Int, v = zSvc C (cn C).toNat 0 0 := ⟨_, rfl⟩
  rw [← hv] at hp
  have loop : ∀ (m : Nat) (k a : Int), 0 ≤ k → k + m = cn C → zSvc C m k a = v → V 0 MX7_servedNow 4 [some (vR 6 44), some (vZ a), some (vZ k)] [] σ post := by
    intro m
    induction m with
    | zero =>
      intro k a k0 k1 he
      rw [← he] at hp
      refine V_run kX7_servedNow 3 [] (show V 0 MX7_servedNow 9 [some (vR 6 44), some (vZ a), some (vZ k)] [vZ (σ.1 44 2), vZ k] σ post from ?_)
      refine V_top (hn) ?_
      refine V_run kX7_servedNow 2 [1] (show (zr k ∧ zr (cn C) ∧ (cn C) ≤ k) ∧ V 0 MX7_servedNow 37 [some (vR 6 44), some (vZ a), some (vZ k)] [vZ a] σ post from ⟨(by omega), ?_⟩)
      exact V_iret kX7_servedNow rfl rfl (hp)
    | succ m ih =>
      intro k a k0 k1 he
      unfold zSvc at he
      have hs := (hm.2.2 k k0 (by omega)).1
      have hsr := hJ.2.2.2.2.2.2.1 k
      have hi := hJ.2.2.2.2.2.1 k k0 (by omega)
      refine V_run kX7_servedNow 3 [] (show V 0 MX7_servedNow 9 [some (vR 6 44), some (vZ a), some (vZ k)] [vZ (σ.1 44 2), vZ k] σ post from ?_)
      refine V_top (hn) ?_
      refine V_run kX7_servedNow 6 [0] (show (zr k ∧ zr (cn C) ∧ k < (cn C)) ∧ (0 ≤ k ∧ k < 12) ∧ V 0 MX7_servedNow 19 [some (vR 6 44), some (vZ a), some (vZ k)] [vZ (σ.1 58 k), vZ a] σ post from ⟨(by omega), (by omega), ?_⟩)
      refine V_top (hs) ?_
      refine V_run kX7_servedNow 1 [] (show V 0 MX7_servedNow 20 [some (vR 6 44), some (vZ a), some (vZ k)] [vZ 2, vZ (ds (zD C 23) k), vZ a] σ post from ?_)
      by_cases h1 : ds (zD C 23) k = 2
      · skip
        rw [if_pos (hi.mp h1)] at he
        refine V_run kX7_servedNow 7 [0] (show (zr (ds (zD C 23) k) ∧ zr 2 ∧ (ds (zD C 23) k) = 2) ∧ V 0 MX7_servedNow 4 [some (vR 6 44), some (vZ (a + 1)), some (vZ (k + 1))] [] σ post from ⟨(by omega), ?_⟩)
        exact ih (k + 1) (a + 1) (by omega) (by omega) he
      · skip
        rw [if_neg (fun q => h1 (hi.mpr q))] at he
        refine V_run kX7_servedNow 6 [1] (show (zr (ds (zD C 23) k) ∧ zr 2 ∧ ¬ (ds (zD C 23) k) = 2) ∧ V 0 MX7_servedNow 4 [some (vR 6 44), some (vZ (a + 0)), some (vZ (k + 1))] [] σ post from ⟨(by omega), ?_⟩)
        rw [show a + 0 = a from Int.add_zero a]
        exact ih (k + 1) a (by omega) (by omega) he
  show V 0 MX7_servedNow 0 [some (vR 6 44), none, none] [] σ post
  refine V_run kX7_servedNow 4 [] (show V 0 MX7_servedNow 4 [some (vR 6 44), some (vZ 0), some (vZ 0)] [] σ post from ?_)
  exact loop (cn C).toNat 0 0 (by omega) (by omega) hv.symm
set_option maxHeartbeats 4000000 in
set_option maxRecDepth 100000 in
/-- kettleOf -/
theorem c_M_kettleOf {S : zAb} {σ : zSt} {post : Option VV → zSt → Prop} (hR : RM σ S) (ho : aOk S) (hp : ∀ σ', mKeep σ σ' → post (some (vZ (zKet (aC S) (cn (aC S)).toNat 0 0))) σ') : Mc 8 MX7_kettleOf [vR 6 44] σ post := by
  have hC := aC_ok ho
  have hcn := hC.1
  have hJ := zJ_D hC 23
  obtain ⟨v, hv⟩ : ∃ v : Int, v = zKet (aC S) (cn (aC S)).toNat 0 0 := ⟨_, rfl⟩
  rw [← hv] at hp
  show V 8 MX7_kettleOf 0 [some (vR 6 44), none, none] [] σ post
  refine V_run kX7_kettleOf 1 [] (show V 8 MX7_kettleOf 1 [some (vR 6 44), none, none] [vR 6 44] σ post from ?_)
  refine V_callV (a := []) (rest := []) kX7_kettleOf rfl oX7_runsTold iX7_runsTold lk_7_219 rfl rfl rfl (Nat.le_of_ble_eq_true rfl) (Nat.le_of_ble_eq_true rfl) (Nat.le_of_ble_eq_true rfl) (post' := fun zv zσ => V 8 MX7_kettleOf 4 [some (vR 6 44), none, none] (zv.toList ++ []) zσ post) (c_M_runsTold hR ho (fun σ1 hk1 hc1 hm1 hr1 => (show V 8 MX7_kettleOf 4 [some (vR 6 44), none, none] [] σ1 post from ?_))) (fun _ _ h => h)
  have loop : ∀ (m : Nat) (k a : Int), 0 ≤ k → k + m = cn (aC S) → zr a → zKet (aC S) m k a = v → V 8 MX7_kettleOf 8 [some (vR 6 44), some (vZ a), some (vZ k)] [] σ1 post := by
    intro m
    induction m with
    | zero =>
      intro k a k0 k1 hz he
      have hp := hp σ1 hk1
      rw [← he] at hp
      refine V_run kX7_kettleOf 3 [] (show V 8 MX7_kettleOf 13 [some (vR 6 44), some (vZ a), some (vZ k)] [vZ (σ1.1 44 2), vZ k] σ1 post from ?_)
      refine V_top (hc1.1) ?_
      refine V_run kX7_kettleOf 2 [1] (show (zr k ∧ zr (cn (aC S)) ∧ (cn (aC S)) ≤ k) ∧ V 8 MX7_kettleOf 43 [some (vR 6 44), some (vZ a), some (vZ k)] [vZ a] σ1 post from ⟨(by omega), ?_⟩)
      exact V_iret kX7_kettleOf rfl rfl (hp)
    | succ m ih =>
      intro k a k0 k1 hz he
      unfold zKet at he
      have hs := (hm1.2.2 k k0 (by omega)).1
      have hsr := hJ.2.2.2.2.2.2.1 k
      refine V_run kX7_kettleOf 3 [] (show V 8 MX7_kettleOf 13 [some (vR 6 44), some (vZ a), some (vZ k)] [vZ (σ1.1 44 2), vZ k] σ1 post from ?_)
      refine V_top (hc1.1) ?_
      refine V_run kX7_kettleOf 6 [0] (show (zr k ∧ zr (cn (aC S)) ∧ k < (cn (aC S))) ∧ (0 ≤ k ∧ k < 12) ∧ V 8 MX7_kettleOf 23 [some (vR 6 44), some (vZ a), some (vZ k)] [vZ (σ1.1 58 k), vZ a] σ1 post from ⟨(by omega), (by omega), ?_⟩)
      refine V_top (hs) ?_
      refine V_run kX7_kettleOf 1 [] (show V 8 MX7_kettleOf 24 [some (vR 6 44), some (vZ a), some (vZ k)] [vZ 1, vZ (ds (zD (aC S) 23) k), vZ a] σ1 post from ?_)
      by_cases h1 : ds (zD (aC S) 23) k = 1
      · skip
        rw [if_pos h1] at he
        refine V_run kX7_kettleOf 9 [0] (show (zr (ds (zD (aC S) 23) k) ∧ zr 1 ∧ (ds (zD (aC S) 23) k) = 1) ∧ V 8 MX7_kettleOf 8 [some (vR 6 44), some (vZ (zor a (zshl 1 k))), some (vZ (k + 1))] [] σ1 post from ⟨(by omega), ?_⟩)
        exact ih (k + 1) _ (by omega) (by omega) (zor_zr _ _) he
      · skip
        rw [if_neg h1] at he
        refine V_run kX7_kettleOf 6 [1] (show (zr (ds (zD (aC S) 23) k) ∧ zr 1 ∧ ¬ (ds (zD (aC S) 23) k) = 1) ∧ V 8 MX7_kettleOf 8 [some (vR 6 44), some (vZ (zor a 0)), some (vZ (k + 1))] [] σ1 post from ⟨(by omega), ?_⟩)
        rw [zor_0 hz]
        exact ih (k + 1) a (by omega) (by omega) hz he
  refine V_run kX7_kettleOf 4 [] (show V 8 MX7_kettleOf 8 [some (vR 6 44), some (vZ 0), some (vZ 0)] [] σ1 post from ?_)
  exact loop (cn (aC S)).toNat 0 0 (by omega) (by omega) (by decide) hv.symm
def aKettle (S : zAb) : Int := zKet (aC S) (cn (aC S)).toNat 0 0
set_option maxHeartbeats 4000000 in
set_option maxRecDepth 100000 in
/-- kettle -/
theorem c_M_kettle {S : zAb} {σ : zSt} {post : Option VV → zSt → Prop} (hR : RM σ S) (ho : aOk S) (hp : ∀ σ', mKeep σ σ' → post (some (vZ (aKettle S))) σ') : Mc 9 MX7_kettle [vR 6 44] σ post := by
  show V 9 MX7_kettle 0 [some (vR 6 44)] [] σ post
  refine V_run kX7_kettle 1 [] (show V 9 MX7_kettle 1 [some (vR 6 44)] [vR 6 44] σ post from ?_)
  refine V_callV (a := []) (rest := []) kX7_kettle rfl oX7_kettleOf iX7_kettleOf lk_7_252 rfl rfl rfl (Nat.le_of_ble_eq_true rfl) (Nat.le_of_ble_eq_true rfl) (Nat.le_of_ble_eq_true rfl) (post' := fun zv zσ => V 9 MX7_kettle 4 [some (vR 6 44)] (zv.toList ++ []) zσ post) (c_M_kettleOf hR ho (fun σ1 hk1 => (show V 9 MX7_kettle 4 [some (vR 6 44)] [vZ (aKettle S)] σ1 post from ?_))) (fun _ _ h => h)
  exact V_iret kX7_kettle rfl rfl (hp σ1 hk1)
set_option maxHeartbeats 4000000 in
set_option maxRecDepth 100000 in
/-- atOf -/
theorem c_M_atOf {t k x : Int} {S : zAb} {σ : zSt} {post : Option VV → zSt → Prop} (hR : RM σ S) (ho : aOk S) (t0 : 0 ≤ t) (t1 : t < 24) (k0 : 0 ≤ k) (k1 : k < cn (aC S)) (hx : zr x) (hp : ∀ σ', mKeep σ σ' → post (some (vZ (if x = 0 then ds (zD (aC S) t) k else if x = 1 then zPla (aC S) t k else dl (zD (aC S) t) k))) σ') : Mc 8 MX7_atOf [vR 6 44, vZ t, vZ k, vZ x] σ post := by
  have hC := aC_ok ho
  have hcn := hC.1
  show V 8 MX7_atOf 0 [some (vR 6 44), some (vZ t), some (vZ k), some (vZ x)] [] σ post
  refine V_run kX7_atOf 1 [] (show V 8 MX7_atOf 1 [some (vR 6 44), some (vZ t), some (vZ k), some (vZ x)] [vR 6 44] σ post from ?_)
  refine V_callV (a := []) (rest := []) kX7_atOf rfl oX7_runsTold iX7_runsTold lk_7_219 rfl rfl rfl (Nat.le_of_ble_eq_true rfl) (Nat.le_of_ble_eq_true rfl) (Nat.le_of_ble_eq_true rfl) (post' := fun zv zσ => V 8 MX7_atOf 4 [some (vR 6 44), some (vZ t), some (vZ k), some (vZ x)] (zv.toList ++ []) zσ post) (c_M_runsTold hR ho (fun σ1 hk1 hc1 hm1 hr1 => (show V 8 MX7_atOf 4 [some (vR 6 44), some (vZ t), some (vZ k), some (vZ x)] [] σ1 post from ?_))) (fun _ _ h => h)
  have h3 := (hr1 t t0 t1).1 k k0 (by omega)
  have hp := hp σ1 hk1
  refine V_run kX7_atOf 1 [] (show V 8 MX7_atOf 5 [some (vR 6 44), some (vZ t), some (vZ k), some (vZ x)] [vZ x] σ1 post from ?_)
  by_cases q0 : x = 0
  · skip
    rw [if_pos q0] at hp
    refine V_run kX7_atOf 9 [0] (show (zr x ∧ x = 0) ∧ (0 ≤ ((12 * t) + k) ∧ ((12 * t) + k) < 288) ∧ V 8 MX7_atOf 19 [some (vR 6 44), some (vZ t), some (vZ k), some (vZ x)] [vZ (σ1.1 62 ((12 * t) + k))] σ1 post from ⟨(by omega), (by omega), ?_⟩)
    refine V_top (h3.2.1) ?_
    refine V_run kX7_atOf 1 [] (show V 8 MX7_atOf 47 [some (vR 6 44), some (vZ t), some (vZ k), some (vZ x)] [vZ (ds (zD (aC S) t) k)] σ1 post from ?_)
    exact V_iret kX7_atOf rfl rfl (hp)
  · skip
    rw [if_neg q0] at hp
    refine V_run kX7_atOf 3 [1] (show (zr x ∧ ¬ x = 0) ∧ V 8 MX7_atOf 24 [some (vR 6 44), some (vZ t), some (vZ k), some (vZ x)] [vZ 1, vZ x] σ1 post from ⟨(by omega), ?_⟩)
    by_cases q1 : x = 1
    · skip
      rw [if_pos q1] at hp
      refine V_run kX7_atOf 4 [0] (show (zr x ∧ zr 1 ∧ x = 1) ∧ V 8 MX7_atOf 30 [some (vR 6 44), some (vZ t), some (vZ k), some (vZ x)] [vZ k, vZ t, vR 6 44] σ1 post from ⟨(by omega), ?_⟩)
      refine V_callV (a := [vZ t, vZ k]) (rest := []) kX7_atOf rfl oX7_placeAt iX7_placeAt lk_7_228 rfl rfl rfl (Nat.le_of_ble_eq_true rfl) (Nat.le_of_ble_eq_true rfl) (Nat.le_of_ble_eq_true rfl) (post' := fun zv zσ => V 8 MX7_atOf 33 [some (vR 6 44), some (vZ t), some (vZ k), some (vZ x)] (zv.toList ++ []) zσ post) (c_M_placeAt hC hr1 t0 t1 k0 k1 ((show V 8 MX7_atOf 33 [some (vR 6 44), some (vZ t), some (vZ k), some (vZ x)] [vZ (zPla (aC S) t k)] σ1 post from ?_))) (fun _ _ h => h)
      refine V_run kX7_atOf 1 [] (show V 8 MX7_atOf 47 [some (vR 6 44), some (vZ t), some (vZ k), some (vZ x)] [vZ (zPla (aC S) t k)] σ1 post from ?_)
      exact V_iret kX7_atOf rfl rfl (hp)
    · skip
      rw [if_neg q1] at hp
      refine V_run kX7_atOf 9 [1] (show (zr x ∧ zr 1 ∧ ¬ x = 1) ∧ (0 ≤ ((12 * t) + k) ∧ ((12 * t) + k) < 288) ∧ V 8 MX7_atOf 47 [some (vR 6 44), some (vZ t), some (vZ k), some (vZ x)] [vZ (σ1.1 63 ((12 * t) + k))] σ1 post from ⟨(by omega), (by omega), ?_⟩)
      refine V_top (h3.2.2) ?_
      exact V_iret kX7_atOf rfl rfl (hp)
set_option maxHeartbeats 4000000 in
set_option maxRecDepth 100000 in
/-- at -/
theorem c_M_at {t k x : Int} {S : zAb} {σ : zSt} {post : Option VV → zSt → Prop} (hR : RM σ S) (ho : aOk S) (ht : zr t) (hq : zr k) (hx : zr x) (hp : ∀ σ', mKeep σ σ' → post (some (vZ (aAt S t k x))) σ') : Mc 9 MX7_at [vR 6 44, vZ t, vZ k, vZ x] σ post := by
  show V 9 MX7_at 0 [some (vR 6 44), some (vZ t), some (vZ k), some (vZ x)] [] σ post
  refine V_run kX7_at 1 [] (show V 9 MX7_at 1 [some (vR 6 44), some (vZ t), some (vZ k), some (vZ x)] [vZ t] σ post from ?_)
  refine V_callS (a := [vZ t]) (rest := []) kX7_at rfl oX7_isMinute iX7_isMinute lk_7_116 rfl rfl (Nat.le_of_ble_eq_true rfl) (Nat.le_of_ble_eq_true rfl) (Nat.le_of_ble_eq_true rfl) (post' := fun zv zσ => V 9 MX7_at 4 [some (vR 6 44), some (vZ t), some (vZ k), some (vZ x)] (zv.toList ++ []) zσ post) (c_M_isMinute (by omega) ((show V 9 MX7_at 4 [some (vR 6 44), some (vZ t), some (vZ k), some (vZ x)] [vZ (if 0 ≤ t ∧ t ≤ 23 then 1 else 0)] σ post from ?_))) (fun _ _ h => h)
  by_cases h1 : 0 ≤ t ∧ t ≤ 23
  rotate_left
  · skip
    refine V_top (if_neg h1) ?_
    refine V_run kX7_at 2 [1] (show (zr 0 ∧ 0 = 0) ∧ V 9 MX7_at 34 [some (vR 6 44), some (vZ t), some (vZ k), some (vZ x)] [vZ (-2)] σ post from ⟨(by omega), ?_⟩)
    have e9 : aAt S t k x = -2 := if_neg (by omega)
    rw [e9] at hp
    exact V_iret kX7_at rfl rfl (hp _ mKeep.rf)
  refine V_top (if_pos h1) ?_
  refine V_run kX7_at 3 [0] (show (zr 1 ∧ ¬ 1 = 0) ∧ V 9 MX7_at 9 [some (vR 6 44), some (vZ t), some (vZ k), some (vZ x)] [vZ k, vR 6 44] σ post from ⟨(by omega), ?_⟩)
  refine V_callV (a := [vZ k]) (rest := []) kX7_at rfl oX7_isPerson iX7_isPerson lk_7_146 rfl rfl rfl (Nat.le_of_ble_eq_true rfl) (Nat.le_of_ble_eq_true rfl) (Nat.le_of_ble_eq_true rfl) (post' := fun zv zσ => V 9 MX7_at 12 [some (vR 6 44), some (vZ t), some (vZ k), some (vZ x)] (zv.toList ++ []) zσ post) (c_M_isPerson hR ho (by omega) (fun σp1 hkp1 htd1 => (show V 9 MX7_at 12 [some (vR 6 44), some (vZ t), some (vZ k), some (vZ x)] [vZ (if 0 ≤ k ∧ k < cn (aC S) then 1 else 0)] σp1 post from ?_))) (fun _ _ h => h)
  have hRp1 := RM_k hkp1 hR
  by_cases h2 : 0 ≤ k ∧ k < cn (aC S)
  rotate_left
  · skip
    refine V_top (if_neg h2) ?_
    refine V_run kX7_at 2 [1] (show (zr 0 ∧ 0 = 0) ∧ V 9 MX7_at 34 [some (vR 6 44), some (vZ t), some (vZ k), some (vZ x)] [vZ (-2)] σp1 post from ⟨(by omega), ?_⟩)
    have e9 : aAt S t k x = -2 := if_neg (by omega)
    rw [e9] at hp
    exact V_iret kX7_at rfl rfl (hp _ hkp1)
  refine V_top (if_pos h2) ?_
  refine V_run kX7_at 2 [0] (show (zr 1 ∧ ¬ 1 = 0) ∧ V 9 MX7_at 16 [some (vR 6 44), some (vZ t), some (vZ k), some (vZ x)] [vZ x] σp1 post from ⟨(by omega), ?_⟩)
  refine V_callS (a := [vZ x]) (rest := []) kX7_at rfl oX7_isThree iX7_isThree lk_7_149 rfl rfl (Nat.le_of_ble_eq_true rfl) (Nat.le_of_ble_eq_true rfl) (Nat.le_of_ble_eq_true rfl) (post' := fun zv zσ => V 9 MX7_at 19 [some (vR 6 44), some (vZ t), some (vZ k), some (vZ x)] (zv.toList ++ []) zσ post) (c_M_isThree (by omega) ((show V 9 MX7_at 19 [some (vR 6 44), some (vZ t), some (vZ k), some (vZ x)] [vZ (if 0 ≤ x ∧ x ≤ 2 then 1 else 0)] σp1 post from ?_))) (fun _ _ h => h)
  by_cases h3 : 0 ≤ x ∧ x ≤ 2
  rotate_left
  · skip
    refine V_top (if_neg h3) ?_
    refine V_run kX7_at 2 [1] (show (zr 0 ∧ 0 = 0) ∧ V 9 MX7_at 34 [some (vR 6 44), some (vZ t), some (vZ k), some (vZ x)] [vZ (-2)] σp1 post from ⟨(by omega), ?_⟩)
    have e9 : aAt S t k x = -2 := if_neg (by omega)
    rw [e9] at hp
    exact V_iret kX7_at rfl rfl (hp _ hkp1)
  refine V_top (if_pos h3) ?_
  refine V_run kX7_at 5 [0] (show (zr 1 ∧ ¬ 1 = 0) ∧ V 9 MX7_at 26 [some (vR 6 44), some (vZ t), some (vZ k), some (vZ x)] [vZ x, vZ k, vZ t, vR 6 44] σp1 post from ⟨(by omega), ?_⟩)
  refine V_callV (a := [vZ t, vZ k, vZ x]) (rest := []) kX7_at rfl oX7_atOf iX7_atOf lk_7_231 rfl rfl rfl (Nat.le_of_ble_eq_true rfl) (Nat.le_of_ble_eq_true rfl) (Nat.le_of_ble_eq_true rfl) (post' := fun zv zσ => V 9 MX7_at 29 [some (vR 6 44), some (vZ t), some (vZ k), some (vZ x)] (zv.toList ++ []) zσ post) (c_M_atOf hRp1 ho h1.1 (by omega) h2.1 h2.2 (by omega) (fun σ9 hk9 => (show V 9 MX7_at 29 [some (vR 6 44), some (vZ t), some (vZ k), some (vZ x)] [vZ (if x = 0 then ds (zD (aC S) t) k else if x = 1 then zPla (aC S) t k else dl (zD (aC S) t) k)] σ9 post from ?_))) (fun _ _ h => h)
  have e9 : aAt S t k x = if x = 0 then ds (zD (aC S) t) k else if x = 1 then zPla (aC S) t k else dl (zD (aC S) t) k := if_pos ⟨h1, h2, h3⟩
  rw [e9] at hp
  refine V_run kX7_at 1 [] (show V 9 MX7_at 34 [some (vR 6 44), some (vZ t), some (vZ k), some (vZ x)] [vZ (if x = 0 then ds (zD (aC S) t) k else if x = 1 then zPla (aC S) t k else dl (zD (aC S) t) k)] σ9 post from ?_)
  exact V_iret kX7_at rfl rfl (hp _ (hkp1.tr hk9))
