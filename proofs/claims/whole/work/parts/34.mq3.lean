theorem zMf_b {C : zCf} {p : Int} : ∀ (m : Nat) (t a : Int), a ≤ zMf C p m t a ∧ zMf C p m t a ≤ a + m
  | 0, _, a => by unfold zMf; omega
  | m + 1, t, a => by
    unfold zMf
    have h := zMf_b (C := C) (p := p) m (t + 1) (if zWho C t 0 = p then a + 1 else a)
    split at h <;> split <;> omega
/-- who was first longest: who, and how long -/
def zAlf (C : zCf) : Nat → Int → Int → Int → Int × Int
  | 0, _, b, y => (b, y)
  | m + 1, p, b, y => zAlf C m (p + 1) (if y < zMf C p 24 0 0 then p else b) (if y < zMf C p 24 0 0 then zMf C p 24 0 0 else y)
def zAlw (r : Int × Int) (x : Int) : Int := if r.1 = -1 ∨ x = 0 then r.1 else r.2
def aAlfred (S : zAb) (x : Int) : Int := if 0 ≤ x ∧ x ≤ 1 then zAlw (zAlf (aC S) (cn (aC S)).toNat 0 (-1) 0) x else -2
set_option maxHeartbeats 4000000 in
set_option maxRecDepth 100000 in
/-- apartOf -/
theorem c_M_apartOf {t k l : Int} {S : zAb} {σ : zSt} {post : Option VV → zSt → Prop} (hR : RM σ S) (ho : aOk S) (t0 : 0 ≤ t) (t1 : t < 24) (k0 : 0 ≤ k) (k1 : k < cn (aC S)) (l0 : 0 ≤ l) (l1 : l < cn (aC S)) (hp : ∀ σ', mKeep σ σ' → post (some (vZ (if zPla (aC S) t k = -1 ∨ zPla (aC S) t l = -1 then -1 else if zPla (aC S) t l < zPla (aC S) t k then zPla (aC S) t k - zPla (aC S) t l - 1 else zPla (aC S) t l - zPla (aC S) t k - 1))) σ') : Mc 8 MX7_apartOf [vR 6 44, vZ t, vZ k, vZ l] σ post := by
  have hC := aC_ok ho
  have hcn := hC.1
  have hq1 := zPla_rng hC t k0
  have hq2 := zPla_rng hC t l0
  show V 8 MX7_apartOf 0 [some (vR 6 44), some (vZ t), some (vZ k), some (vZ l), none, none] [] σ post
  refine V_run kX7_apartOf 1 [] (show V 8 MX7_apartOf 1 [some (vR 6 44), some (vZ t), some (vZ k), some (vZ l), none, none] [vR 6 44] σ post from ?_)
  refine V_callV (a := []) (rest := []) kX7_apartOf rfl oX7_runsTold iX7_runsTold lk_7_219 rfl rfl rfl (Nat.le_of_ble_eq_true rfl) (Nat.le_of_ble_eq_true rfl) (Nat.le_of_ble_eq_true rfl) (post' := fun zv zσ => V 8 MX7_apartOf 4 [some (vR 6 44), some (vZ t), some (vZ k), some (vZ l), none, none] (zv.toList ++ []) zσ post) (c_M_runsTold hR ho (fun σ1 hk1 hc1 hm1 hr1 => (show V 8 MX7_apartOf 4 [some (vR 6 44), some (vZ t), some (vZ k), some (vZ l), none, none] [] σ1 post from ?_))) (fun _ _ h => h)
  have hp := hp σ1 hk1
  refine V_run kX7_apartOf 3 [] (show V 8 MX7_apartOf 7 [some (vR 6 44), some (vZ t), some (vZ k), some (vZ l), none, none] [vZ k, vZ t, vR 6 44] σ1 post from ?_)
  refine V_callV (a := [vZ t, vZ k]) (rest := []) kX7_apartOf rfl oX7_placeAt iX7_placeAt lk_7_228 rfl rfl rfl (Nat.le_of_ble_eq_true rfl) (Nat.le_of_ble_eq_true rfl) (Nat.le_of_ble_eq_true rfl) (post' := fun zv zσ => V 8 MX7_apartOf 10 [some (vR 6 44), some (vZ t), some (vZ k), some (vZ l), none, none] (zv.toList ++ []) zσ post) (c_M_placeAt hC hr1 t0 t1 k0 k1 ((show V 8 MX7_apartOf 10 [some (vR 6 44), some (vZ t), some (vZ k), some (vZ l), none, none] [vZ (zPla (aC S) t k)] σ1 post from ?_))) (fun _ _ h => h)
  refine V_run kX7_apartOf 4 [] (show V 8 MX7_apartOf 15 [some (vR 6 44), some (vZ t), some (vZ k), some (vZ l), some (vZ (zPla (aC S) t k)), none] [vZ l, vZ t, vR 6 44] σ1 post from ?_)
  refine V_callV (a := [vZ t, vZ l]) (rest := []) kX7_apartOf rfl oX7_placeAt iX7_placeAt lk_7_228 rfl rfl rfl (Nat.le_of_ble_eq_true rfl) (Nat.le_of_ble_eq_true rfl) (Nat.le_of_ble_eq_true rfl) (post' := fun zv zσ => V 8 MX7_apartOf 18 [some (vR 6 44), some (vZ t), some (vZ k), some (vZ l), some (vZ (zPla (aC S) t k)), none] (zv.toList ++ []) zσ post) (c_M_placeAt hC hr1 t0 t1 l0 l1 ((show V 8 MX7_apartOf 18 [some (vR 6 44), some (vZ t), some (vZ k), some (vZ l), some (vZ (zPla (aC S) t k)), none] [vZ (zPla (aC S) t l)] σ1 post from ?_))) (fun _ _ h => h)
  refine V_run kX7_apartOf 3 [] (show V 8 MX7_apartOf 23 [some (vR 6 44), some (vZ t), some (vZ k), some (vZ l), some (vZ (zPla (aC S) t k)), some (vZ (zPla (aC S) t l))] [vZ (-1), vZ (zPla (aC S) t k)] σ1 post from ?_)
  by_cases h1 : zPla (aC S) t k = -1
  · skip
    rw [if_pos (Or.inl h1)] at hp
    refine V_run kX7_apartOf 3 [1] (show (zr (zPla (aC S) t k) ∧ zr (-1) ∧ (zPla (aC S) t k) = (-1)) ∧ V 8 MX7_apartOf 60 [some (vR 6 44), some (vZ t), some (vZ k), some (vZ l), some (vZ (zPla (aC S) t k)), some (vZ (zPla (aC S) t l))] [vZ (-1)] σ1 post from ⟨(by omega), ?_⟩)
    exact V_iret kX7_apartOf rfl rfl (hp)
  · skip
    refine V_run kX7_apartOf 3 [0] (show (zr (zPla (aC S) t k) ∧ zr (-1) ∧ ¬ (zPla (aC S) t k) = (-1)) ∧ V 8 MX7_apartOf 29 [some (vR 6 44), some (vZ t), some (vZ k), some (vZ l), some (vZ (zPla (aC S) t k)), some (vZ (zPla (aC S) t l))] [vZ (-1), vZ (zPla (aC S) t l)] σ1 post from ⟨(by omega), ?_⟩)
    by_cases h2 : zPla (aC S) t l = -1
    · skip
      rw [if_pos (Or.inr h2)] at hp
      refine V_run kX7_apartOf 3 [0] (show (zr (zPla (aC S) t l) ∧ zr (-1) ∧ (zPla (aC S) t l) = (-1)) ∧ V 8 MX7_apartOf 60 [some (vR 6 44), some (vZ t), some (vZ k), some (vZ l), some (vZ (zPla (aC S) t k)), some (vZ (zPla (aC S) t l))] [vZ (-1)] σ1 post from ⟨(by omega), ?_⟩)
      exact V_iret kX7_apartOf rfl rfl (hp)
    · skip
      refine V_run kX7_apartOf 3 [1] (show (zr (zPla (aC S) t l) ∧ zr (-1) ∧ ¬ (zPla (aC S) t l) = (-1)) ∧ V 8 MX7_apartOf 40 [some (vR 6 44), some (vZ t), some (vZ k), some (vZ l), some (vZ (zPla (aC S) t k)), some (vZ (zPla (aC S) t l))] [vZ (zPla (aC S) t l), vZ (zPla (aC S) t k)] σ1 post from ⟨(by omega), ?_⟩)
      rw [if_neg (fun q => q.elim h1 h2)] at hp
      rcases Int.lt_or_le (zPla (aC S) t l) (zPla (aC S) t k) with h3 | h3
      · skip
        rw [if_pos h3] at hp
        refine V_run kX7_apartOf 7 [0] (show (zr (zPla (aC S) t k) ∧ zr (zPla (aC S) t l) ∧ (zPla (aC S) t l) < (zPla (aC S) t k)) ∧ V 8 MX7_apartOf 60 [some (vR 6 44), some (vZ t), some (vZ k), some (vZ l), some (vZ (zPla (aC S) t k)), some (vZ (zPla (aC S) t l))] [vZ (((zPla (aC S) t k) - (zPla (aC S) t l)) - 1)] σ1 post from ⟨(by omega), ?_⟩)
        exact V_iret kX7_apartOf rfl rfl (hp)
      · skip
        rw [if_neg (by omega)] at hp
        refine V_run kX7_apartOf 6 [1] (show (zr (zPla (aC S) t k) ∧ zr (zPla (aC S) t l) ∧ (zPla (aC S) t k) ≤ (zPla (aC S) t l)) ∧ V 8 MX7_apartOf 60 [some (vR 6 44), some (vZ t), some (vZ k), some (vZ l), some (vZ (zPla (aC S) t k)), some (vZ (zPla (aC S) t l))] [vZ (((zPla (aC S) t l) - (zPla (aC S) t k)) - 1)] σ1 post from ⟨(by omega), ?_⟩)
        exact V_iret kX7_apartOf rfl rfl (hp)
set_option maxHeartbeats 4000000 in
set_option maxRecDepth 100000 in
/-- apart -/
theorem c_M_apart {t k l : Int} {S : zAb} {σ : zSt} {post : Option VV → zSt → Prop} (hR : RM σ S) (ho : aOk S) (ht : zr t) (hq : zr k) (hl : zr l) (hp : ∀ σ', mKeep σ σ' → post (some (vZ (aApart S t k l))) σ') : Mc 9 MX7_apart [vR 6 44, vZ t, vZ k, vZ l] σ post := by
  show V 9 MX7_apart 0 [some (vR 6 44), some (vZ t), some (vZ k), some (vZ l)] [] σ post
  refine V_run kX7_apart 1 [] (show V 9 MX7_apart 1 [some (vR 6 44), some (vZ t), some (vZ k), some (vZ l)] [vZ t] σ post from ?_)
  refine V_callS (a := [vZ t]) (rest := []) kX7_apart rfl oX7_isMinute iX7_isMinute lk_7_116 rfl rfl (Nat.le_of_ble_eq_true rfl) (Nat.le_of_ble_eq_true rfl) (Nat.le_of_ble_eq_true rfl) (post' := fun zv zσ => V 9 MX7_apart 4 [some (vR 6 44), some (vZ t), some (vZ k), some (vZ l)] (zv.toList ++ []) zσ post) (c_M_isMinute (by omega) ((show V 9 MX7_apart 4 [some (vR 6 44), some (vZ t), some (vZ k), some (vZ l)] [vZ (if 0 ≤ t ∧ t ≤ 23 then 1 else 0)] σ post from ?_))) (fun _ _ h => h)
  by_cases h1 : 0 ≤ t ∧ t ≤ 23
  rotate_left
  · skip
    refine V_top (if_neg h1) ?_
    refine V_run kX7_apart 2 [1] (show (zr 0 ∧ 0 = 0) ∧ V 9 MX7_apart 40 [some (vR 6 44), some (vZ t), some (vZ k), some (vZ l)] [vZ (-2)] σ post from ⟨(by omega), ?_⟩)
    have e9 : aApart S t k l = -2 := if_neg (by omega)
    rw [e9] at hp
    exact V_iret kX7_apart rfl rfl (hp _ mKeep.rf)
  refine V_top (if_pos h1) ?_
  refine V_run kX7_apart 3 [0] (show (zr 1 ∧ ¬ 1 = 0) ∧ V 9 MX7_apart 9 [some (vR 6 44), some (vZ t), some (vZ k), some (vZ l)] [vZ k, vR 6 44] σ post from ⟨(by omega), ?_⟩)
  refine V_callV (a := [vZ k]) (rest := []) kX7_apart rfl oX7_isPerson iX7_isPerson lk_7_146 rfl rfl rfl (Nat.le_of_ble_eq_true rfl) (Nat.le_of_ble_eq_true rfl) (Nat.le_of_ble_eq_true rfl) (post' := fun zv zσ => V 9 MX7_apart 12 [some (vR 6 44), some (vZ t), some (vZ k), some (vZ l)] (zv.toList ++ []) zσ post) (c_M_isPerson hR ho (by omega) (fun σp1 hkp1 htd1 => (show V 9 MX7_apart 12 [some (vR 6 44), some (vZ t), some (vZ k), some (vZ l)] [vZ (if 0 ≤ k ∧ k < cn (aC S) then 1 else 0)] σp1 post from ?_))) (fun _ _ h => h)
  have hRp1 := RM_k hkp1 hR
  by_cases h2 : 0 ≤ k ∧ k < cn (aC S)
  rotate_left
  · skip
    refine V_top (if_neg h2) ?_
    refine V_run kX7_apart 2 [1] (show (zr 0 ∧ 0 = 0) ∧ V 9 MX7_apart 40 [some (vR 6 44), some (vZ t), some (vZ k), some (vZ l)] [vZ (-2)] σp1 post from ⟨(by omega), ?_⟩)
    have e9 : aApart S t k l = -2 := if_neg (by omega)
    rw [e9] at hp
    exact V_iret kX7_apart rfl rfl (hp _ hkp1)
  refine V_top (if_pos h2) ?_
  refine V_run kX7_apart 3 [0] (show (zr 1 ∧ ¬ 1 = 0) ∧ V 9 MX7_apart 17 [some (vR 6 44), some (vZ t), some (vZ k), some (vZ l)] [vZ l, vR 6 44] σp1 post from ⟨(by omega), ?_⟩)
  refine V_callV (a := [vZ l]) (rest := []) kX7_apart rfl oX7_isPerson iX7_isPerson lk_7_146 rfl rfl rfl (Nat.le_of_ble_eq_true rfl) (Nat.le_of_ble_eq_true rfl) (Nat.le_of_ble_eq_true rfl) (post' := fun zv zσ => V 9 MX7_apart 20 [some (vR 6 44), some (vZ t), some (vZ k), some (vZ l)] (zv.toList ++ []) zσ post) (c_M_isPerson hRp1 ho (by omega) (fun σp2 hkp2 htd2 => (show V 9 MX7_apart 20 [some (vR 6 44), some (vZ t), some (vZ k), some (vZ l)] [vZ (if 0 ≤ l ∧ l < cn (aC S) then 1 else 0)] σp2 post from ?_))) (fun _ _ h => h)
  have hRp2 := RM_k hkp2 hRp1
  by_cases h3 : 0 ≤ l ∧ l < cn (aC S)
  rotate_left
  · skip
    refine V_top (if_neg h3) ?_
    refine V_run kX7_apart 2 [1] (show (zr 0 ∧ 0 = 0) ∧ V 9 MX7_apart 40 [some (vR 6 44), some (vZ t), some (vZ k), some (vZ l)] [vZ (-2)] σp2 post from ⟨(by omega), ?_⟩)
    have e9 : aApart S t k l = -2 := if_neg (by omega)
    rw [e9] at hp
    exact V_iret kX7_apart rfl rfl (hp _ (hkp1.tr hkp2))
  refine V_top (if_pos h3) ?_
  refine V_run kX7_apart 3 [0] (show (zr 1 ∧ ¬ 1 = 0) ∧ V 9 MX7_apart 25 [some (vR 6 44), some (vZ t), some (vZ k), some (vZ l)] [vZ l, vZ k] σp2 post from ⟨(by omega), ?_⟩)
  by_cases h4 : k = l
  · skip
    refine V_run kX7_apart 2 [1] (show (zr k ∧ zr l ∧ k = l) ∧ V 9 MX7_apart 40 [some (vR 6 44), some (vZ t), some (vZ k), some (vZ l)] [vZ (-2)] σp2 post from ⟨(by omega), ?_⟩)
    have e9 : aApart S t k l = -2 := if_neg (fun z => z.2.2.2 h4)
    rw [e9] at hp
    exact V_iret kX7_apart rfl rfl (hp _ (hkp1.tr hkp2))
  · skip
    refine V_run kX7_apart 5 [0] (show (zr k ∧ zr l ∧ ¬ k = l) ∧ V 9 MX7_apart 32 [some (vR 6 44), some (vZ t), some (vZ k), some (vZ l)] [vZ l, vZ k, vZ t, vR 6 44] σp2 post from ⟨(by omega), ?_⟩)
    refine V_callV (a := [vZ t, vZ k, vZ l]) (rest := []) kX7_apart rfl oX7_apartOf iX7_apartOf lk_7_234 rfl rfl rfl (Nat.le_of_ble_eq_true rfl) (Nat.le_of_ble_eq_true rfl) (Nat.le_of_ble_eq_true rfl) (post' := fun zv zσ => V 9 MX7_apart 35 [some (vR 6 44), some (vZ t), some (vZ k), some (vZ l)] (zv.toList ++ []) zσ post) (c_M_apartOf hRp2 ho h1.1 (by omega) h2.1 h2.2 h3.1 h3.2 (fun σ9 hk9 => (show V 9 MX7_apart 35 [some (vR 6 44), some (vZ t), some (vZ k), some (vZ l)] [vZ (if zPla (aC S) t k = -1 ∨ zPla (aC S) t l = -1 then -1 else if zPla (aC S) t l < zPla (aC S) t k then zPla (aC S) t k - zPla (aC S) t l - 1 else zPla (aC S) t l - zPla (aC S) t k - 1)] σ9 post from ?_))) (fun _ _ h => h)
    have e9 : aApart S t k l = if zPla (aC S) t k = -1 ∨ zPla (aC S) t l = -1 then -1 else if zPla (aC S) t l < zPla (aC S) t k then zPla (aC S) t k - zPla (aC S) t l - 1 else zPla (aC S) t l - zPla (aC S) t k - 1 := if_pos ⟨h1, h2, h3, h4⟩
    rw [e9] at hp
    refine V_run kX7_apart 1 [] (show V 9 MX7_apart 40 [some (vR 6 44), some (vZ t), some (vZ k), some (vZ l)] [vZ (if zPla (aC S) t k = -1 ∨ zPla (aC S) t l = -1 then -1 else if zPla (aC S) t l < zPla (aC S) t k then zPla (aC S) t k - zPla (aC S) t l - 1 else zPla (aC S) t l - zPla (aC S) t k - 1)] σ9 post from ?_)
    exact V_iret kX7_apart rfl rfl (hp _ ((hkp1.tr hkp2).tr hk9))
set_option maxHeartbeats 4000000 in
set_option maxRecDepth 100000 in
/-- alfredOf -/
theorem c_M_alfredOf {x : Int} {S : zAb} {σ : zSt} {post : Option VV → zSt → Prop} (hR : RM σ S) (ho : aOk S) (hx : zr x) (hp : ∀ σ', mKeep σ σ' → post (some (vZ (zAlw (zAlf (aC S) (cn (aC S)).toNat 0 (-1) 0) x))) σ') : Mc 8 MX7_alfredOf [vR 6 44, vZ x] σ post := by
  have hC := aC_ok ho
  have hcn := hC.1
  obtain ⟨v, hv⟩ : ∃ v : Int, v = zAlw (zAlf (aC S) (cn (aC S)).toNat 0 (-1) 0) x := ⟨_, rfl⟩
  rw [← hv] at hp
  show V 8 MX7_alfredOf 0 [some (vR 6 44), some (vZ x), none, none, none, none, none] [] σ post
  refine V_run kX7_alfredOf 1 [] (show V 8 MX7_alfredOf 1 [some (vR 6 44), some (vZ x), none, none, none, none, none] [vR 6 44] σ post from ?_)
  refine V_callV (a := []) (rest := []) kX7_alfredOf rfl oX7_runsTold iX7_runsTold lk_7_219 rfl rfl rfl (Nat.le_of_ble_eq_true rfl) (Nat.le_of_ble_eq_true rfl) (Nat.le_of_ble_eq_true rfl) (post' := fun zv zσ => V 8 MX7_alfredOf 4 [some (vR 6 44), some (vZ x), none, none, none, none, none] (zv.toList ++ []) zσ post) (c_M_runsTold hR ho (fun σ1 hk1 hc1 hm1 hr1 => (show V 8 MX7_alfredOf 4 [some (vR 6 44), some (vZ x), none, none, none, none, none] [] σ1 post from ?_))) (fun _ _ h => h)
  have loop : ∀ (m : Nat) (p bb y : Int), 0 ≤ p → p + m = cn (aC S) → (-1 ≤ bb ∧ bb ≤ 12) → (0 ≤ y ∧ y ≤ 24) → zAlw (zAlf (aC S) m p bb y) x = v → V 8 MX7_alfredOf 11 [some (vR 6 44), some (vZ x), some (vZ bb), some (vZ y), some (vZ p), none, none] [] σ1 post := by
    intro m
    induction m with
    | zero =>
      intro p bb y p0 p1 hb hy he
      have hp := hp σ1 hk1
      unfold zAlf zAlw at he
      refine V_run kX7_alfredOf 3 [] (show V 8 MX7_alfredOf 17 [some (vR 6 44), some (vZ x), some (vZ bb), some (vZ y), some (vZ p), none, none] [vZ (σ1.1 44 2), vZ p] σ1 post from ?_)
      refine V_top (hc1.1) ?_
      refine V_run kX7_alfredOf 3 [1] (show (zr p ∧ zr (cn (aC S)) ∧ (cn (aC S)) ≤ p) ∧ V 8 MX7_alfredOf 98 [some (vR 6 44), some (vZ x), some (vZ bb), some (vZ y), some (vZ p), none, none] [vZ (-1), vZ bb] σ1 post from ⟨(by omega), ?_⟩)
      by_cases h1 : bb = -1
      · skip
        rw [if_pos (Or.inl h1)] at he
        rw [← he] at hp
        refine V_run kX7_alfredOf 3 [1] (show (zr bb ∧ zr (-1) ∧ bb = (-1)) ∧ V 8 MX7_alfredOf 110 [some (vR 6 44), some (vZ x), some (vZ bb), some (vZ y), some (vZ p), none, none] [vZ bb] σ1 post from ⟨(by omega), ?_⟩)
        exact V_iret kX7_alfredOf rfl rfl (hp)
      · skip
        refine V_run kX7_alfredOf 2 [0] (show (zr bb ∧ zr (-1) ∧ ¬ bb = (-1)) ∧ V 8 MX7_alfredOf 102 [some (vR 6 44), some (vZ x), some (vZ bb), some (vZ y), some (vZ p), none, none] [vZ x] σ1 post from ⟨(by omega), ?_⟩)
        by_cases h2 : x = 0
        · skip
          rw [if_pos (Or.inr h2)] at he
          rw [← he] at hp
          refine V_run kX7_alfredOf 3 [0] (show (zr x ∧ x = 0) ∧ V 8 MX7_alfredOf 110 [some (vR 6 44), some (vZ x), some (vZ bb), some (vZ y), some (vZ p), none, none] [vZ bb] σ1 post from ⟨(by omega), ?_⟩)
          exact V_iret kX7_alfredOf rfl rfl (hp)
        · skip
          rw [if_neg (fun q => q.elim h1 h2)] at he
          rw [← he] at hp
          refine V_run kX7_alfredOf 2 [1] (show (zr x ∧ ¬ x = 0) ∧ V 8 MX7_alfredOf 110 [some (vR 6 44), some (vZ x), some (vZ bb), some (vZ y), some (vZ p), none, none] [vZ y] σ1 post from ⟨(by omega), ?_⟩)
          exact V_iret kX7_alfredOf rfl rfl (hp)
    | succ m ih =>
      intro p bb y p0 p1 hb hy he
      unfold zAlf at he
      have hM := zMf_b (C := aC S) (p := p) 24 0 0
      obtain ⟨n9, hn9⟩ : ∃ n : Int, n = zMf (aC S) p 24 0 0 := ⟨_, rfl⟩
      rw [← hn9] at he hM
      have inner : ∀ (m2 : Nat) (t a : Int), 0 ≤ t → t + m2 = 24 → zMf (aC S) p m2 t a = n9 → V 8 MX7_alfredOf 26 [some (vR 6 44), some (vZ x), some (vZ bb), some (vZ y), some (vZ p), some (vZ a), some (vZ t)] [] σ1 post := by
        intro m2
        induction m2 with
        | zero =>
          intro t a t0 t1 ha
          unfold zMf at ha
          subst ha
          refine V_run kX7_alfredOf 5 [1] (show (zr t ∧ zr 24 ∧ 24 ≤ t) ∧ V 8 MX7_alfredOf 67 [some (vR 6 44), some (vZ x), some (vZ bb), some (vZ y), some (vZ p), some (vZ a), some (vZ t)] [vZ y, vZ a] σ1 post from ⟨(by omega), ?_⟩)
          rcases Int.lt_or_le y a with h1 | h1
          · skip
            rw [if_pos h1, if_pos h1] at he
            refine V_run kX7_alfredOf 12 [0, 0] (show (zr a ∧ zr y ∧ y < a) ∧ (zr a ∧ zr y ∧ y < a) ∧ V 8 MX7_alfredOf 11 [some (vR 6 44), some (vZ x), some (vZ p), some (vZ a), some (vZ (p + 1)), some (vZ a), some (vZ t)] [] σ1 post from ⟨(by omega), (by omega), ?_⟩)
            refine V_drop (L := [some (vR 6 44), some (vZ x), some (vZ p), some (vZ a), some (vZ (p + 1)), none, none]) ⟨rfl, ⟨rfl, ⟨rfl, ⟨rfl, ⟨rfl, trivial⟩⟩⟩⟩⟩ ?_
            exact ih (p + 1) _ _ (by omega) (by omega) (by omega) (by omega) he
          · skip
            rw [if_neg (by omega), if_neg (by omega)] at he
            refine V_run kX7_alfredOf 10 [1, 1] (show (zr a ∧ zr y ∧ a ≤ y) ∧ (zr a ∧ zr y ∧ a ≤ y) ∧ V 8 MX7_alfredOf 11 [some (vR 6 44), some (vZ x), some (vZ bb), some (vZ y), some (vZ (p + 1)), some (vZ a), some (vZ t)] [] σ1 post from ⟨(by omega), (by omega), ?_⟩)
            refine V_drop (L := [some (vR 6 44), some (vZ x), some (vZ bb), some (vZ y), some (vZ (p + 1)), none, none]) ⟨rfl, ⟨rfl, ⟨rfl, ⟨rfl, ⟨rfl, trivial⟩⟩⟩⟩⟩ ?_
            exact ih (p + 1) _ _ (by omega) (by omega) (by omega) (by omega) he
        | succ m2 ih2 =>
          intro t a t0 t1 ha
          unfold zMf at ha
          have hw := ((hr1 t t0 (by omega)).1 0 (by omega) (by omega)).1
          rw [Int.add_zero] at hw
          have hwr := zWho_rng hC t (j := 0) (by omega)
          refine V_run kX7_alfredOf 10 [0] (show (zr t ∧ zr 24 ∧ t < 24) ∧ (0 ≤ (12 * t) ∧ (12 * t) < 288) ∧ V 8 MX7_alfredOf 45 [some (vR 6 44), some (vZ x), some (vZ bb), some (vZ y), some (vZ p), some (vZ a), some (vZ t)] [vZ (σ1.1 61 (12 * t)), vZ a] σ1 post from ⟨(by omega), (by omega), ?_⟩)
          refine V_top (hw) ?_
          refine V_run kX7_alfredOf 1 [] (show V 8 MX7_alfredOf 47 [some (vR 6 44), some (vZ x), some (vZ bb), some (vZ y), some (vZ p), some (vZ a), some (vZ t)] [vZ p, vZ (zWho (aC S) t 0), vZ a] σ1 post from ?_)
          by_cases h1 : zWho (aC S) t 0 = p
          · skip
            rw [if_pos h1] at ha
            refine V_run kX7_alfredOf 7 [0] (show (zr (zWho (aC S) t 0) ∧ zr p ∧ (zWho (aC S) t 0) = p) ∧ V 8 MX7_alfredOf 26 [some (vR 6 44), some (vZ x), some (vZ bb), some (vZ y), some (vZ p), some (vZ (a + 1)), some (vZ (t + 1))] [] σ1 post from ⟨(by omega), ?_⟩)
            exact ih2 (t + 1) (a + 1) (by omega) (by omega) ha
          · skip
            rw [if_neg h1] at ha
            refine V_run kX7_alfredOf 6 [1] (show (zr (zWho (aC S) t 0) ∧ zr p ∧ ¬ (zWho (aC S) t 0) = p) ∧ V 8 MX7_alfredOf 26 [some (vR 6 44), some (vZ x), some (vZ bb), some (vZ y), some (vZ p), some (vZ (a + 0)), some (vZ (t + 1))] [] σ1 post from ⟨(by omega), ?_⟩)
            rw [show a + 0 = a from Int.add_zero a]
            exact ih2 (t + 1) a (by omega) (by omega) ha
      refine V_run kX7_alfredOf 3 [] (show V 8 MX7_alfredOf 17 [some (vR 6 44), some (vZ x), some (vZ bb), some (vZ y), some (vZ p), none, none] [vZ (σ1.1 44 2), vZ p] σ1 post from ?_)
      refine V_top (hc1.1) ?_
      refine V_run kX7_alfredOf 5 [0] (show (zr p ∧ zr (cn (aC S)) ∧ p < (cn (aC S))) ∧ V 8 MX7_alfredOf 26 [some (vR 6 44), some (vZ x), some (vZ bb), some (vZ y), some (vZ p), some (vZ 0), some (vZ 0)] [] σ1 post from ⟨(by omega), ?_⟩)
      exact inner 24 0 0 (by omega) (by omega) hn9.symm
  refine V_run kX7_alfredOf 6 [] (show V 8 MX7_alfredOf 11 [some (vR 6 44), some (vZ x), some (vZ (-1)), some (vZ 0), some (vZ 0), none, none] [] σ1 post from ?_)
  exact loop (cn (aC S)).toNat 0 (-1) 0 (by omega) (by omega) (by omega) (by omega) hv.symm
set_option maxHeartbeats 4000000 in
set_option maxRecDepth 100000 in
/-- alfred -/
theorem c_M_alfred {x : Int} {S : zAb} {σ : zSt} {post : Option VV → zSt → Prop} (hR : RM σ S) (ho : aOk S) (hx : zr x) (hp : ∀ σ', mKeep σ σ' → post (some (vZ (aAlfred S x))) σ') : Mc 9 MX7_alfred [vR 6 44, vZ x] σ post := by
  show V 9 MX7_alfred 0 [some (vR 6 44), some (vZ x)] [] σ post
  refine V_run kX7_alfred 1 [] (show V 9 MX7_alfred 1 [some (vR 6 44), some (vZ x)] [vZ x] σ post from ?_)
  refine V_callS (a := [vZ x]) (rest := []) kX7_alfred rfl oX7_isTwo iX7_isTwo lk_7_246 rfl rfl (Nat.le_of_ble_eq_true rfl) (Nat.le_of_ble_eq_true rfl) (Nat.le_of_ble_eq_true rfl) (post' := fun zv zσ => V 9 MX7_alfred 4 [some (vR 6 44), some (vZ x)] (zv.toList ++ []) zσ post) (c_M_isTwo (by omega) ((show V 9 MX7_alfred 4 [some (vR 6 44), some (vZ x)] [vZ (if 0 ≤ x ∧ x ≤ 1 then 1 else 0)] σ post from ?_))) (fun _ _ h => h)
  by_cases h1 : 0 ≤ x ∧ x ≤ 1
  rotate_left
  · skip
    refine V_top (if_neg h1) ?_
    refine V_run kX7_alfred 2 [1] (show (zr 0 ∧ 0 = 0) ∧ V 9 MX7_alfred 17 [some (vR 6 44), some (vZ x)] [vZ (-2)] σ post from ⟨(by omega), ?_⟩)
    have e9 : aAlfred S x = -2 := if_neg (by omega)
    rw [e9] at hp
    exact V_iret kX7_alfred rfl rfl (hp _ mKeep.rf)
  refine V_top (if_pos h1) ?_
  refine V_run kX7_alfred 3 [0] (show (zr 1 ∧ ¬ 1 = 0) ∧ V 9 MX7_alfred 9 [some (vR 6 44), some (vZ x)] [vZ x, vR 6 44] σ post from ⟨(by omega), ?_⟩)
  refine V_callV (a := [vZ x]) (rest := []) kX7_alfred rfl oX7_alfredOf iX7_alfredOf lk_7_249 rfl rfl rfl (Nat.le_of_ble_eq_true rfl) (Nat.le_of_ble_eq_true rfl) (Nat.le_of_ble_eq_true rfl) (post' := fun zv zσ => V 9 MX7_alfred 12 [some (vR 6 44), some (vZ x)] (zv.toList ++ []) zσ post) (c_M_alfredOf hR ho (by omega) (fun σ9 hk9 => (show V 9 MX7_alfred 12 [some (vR 6 44), some (vZ x)] [vZ (zAlw (zAlf (aC S) (cn (aC S)).toNat 0 (-1) 0) x)] σ9 post from ?_))) (fun _ _ h => h)
  have e9 : aAlfred S x = zAlw (zAlf (aC S) (cn (aC S)).toNat 0 (-1) 0) x := if_pos h1
  rw [e9] at hp
  refine V_run kX7_alfred 1 [] (show V 9 MX7_alfred 17 [some (vR 6 44), some (vZ x)] [vZ (zAlw (zAlf (aC S) (cn (aC S)).toNat 0 (-1) 0) x)] σ9 post from ?_)
  exact V_iret kX7_alfred rfl rfl (hp _ (hk9))
