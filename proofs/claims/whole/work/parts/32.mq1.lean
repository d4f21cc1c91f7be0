def aTd (σ : zSt) (S : zAb) : Prop := σ.1 44 2 = cn (aC S) ∧ σ.1 44 6 = zwho 0 (a_wF S) (a_wN S) ∧ (∀ p : Int, 0 ≤ p → p < cn (aC S) → σ.1 47 p = cCm (aC S) p ∧ σ.1 48 p = cSo (aC S) p ∧ σ.1 49 p = cPa (aC S) p) ∧ ∀ t : Int, 0 ≤ t → t < 24 → σ.1 50 t = cWi (aC S) t
theorem aTd_of {σ : zSt} {S : zAb} (hR : RM σ S) (ho : aOk S) (hd : zTd σ) : aTd σ S := by
  have hw := RM_who hR
  have hP := hd.1
  have hW := hd.2
  unfold zTdP at hP
  unfold zTdW at hW
  rw [hw.1] at hP
  rw [hw.2.1] at hW
  refine ⟨hP.1, hW.1, fun k k0 k1 => ?_, fun t t0 t1 => ?_⟩
  · have h9 := hP.2 k k0 k1
    have q := (zwho1_fit (f := a_pF S) ho.1.1 k0 k1).1
    rw [h9.1, h9.2.1, h9.2.2, hR.1.2 _ (by omega) (by omega), hR.1.2 _ (by omega) (by omega), hR.1.2 _ (by omega) (by omega)]
    exact ⟨rfl, rfl, rfl⟩
  · rw [hW.2 t t0 t1]
    show _ = if t < zwho 0 (a_wF S) (a_wN S) then zopn (a_wF S t) else 1
    by_cases q : t < zwho 0 (a_wF S) (a_wN S)
    · have q1 := (zwho0_fit ho.2.1.1 t0 q).1
      rw [if_pos q, if_pos q, show zGt σ t = a_wF S t from hR.2.1.2 t t0 q1]
    · rw [if_neg q, if_neg q]
theorem zWho_pla {C : zCf} (hC : zCv C) {t p k : Int} (p0 : 0 ≤ p) (k0 : 0 ≤ k) (k1 : k < cn C) : zWho C t p = k ↔ zPla C t k = p := by
  have hJ := zJ_D hC t
  unfold zWho zPla
  constructor
  · intro h
    by_cases q : p < dn (zD C t)
    · rw [if_pos q] at h
      have h2 := hJ.2.1 p p0 q
      rw [if_pos ⟨k1, by rw [← h]; exact h2.2.1⟩, ← h]
      exact dPos_at hJ p0 q
    · rw [if_neg q] at h; omega
  · intro h
    by_cases q : k < cn C ∧ ds (zD C t) k = 1
    · rw [if_pos q] at h
      have h2 := dPos_in hJ k0 k1 q.2
      rw [h] at h2
      rw [if_pos h2.2.1]
      exact h2.2.2
    · rw [if_neg q] at h; omega
def aFault (S : zAb) (x : Int) : Int := if 0 ≤ x ∧ x ≤ 1 then (if x = 0 then zflt 1 (a_pF S) (a_pN S) else zflt 0 (a_wF S) (a_wN S)) else -2
def aPerson (S : zAb) (k what : Int) : Int := if (0 ≤ k ∧ k < cn (aC S)) ∧ 0 ≤ what ∧ what ≤ 2 then (if what = 0 then cCm (aC S) k else if what = 1 then cSo (aC S) k else cPa (aC S) k) else -2
def aWindow (S : zAb) (t : Int) : Int := if 0 ≤ t ∧ t ≤ 23 then cWi (aC S) t else -2
def aStands (S : zAb) (t p : Int) : Int := if (0 ≤ t ∧ t ≤ 23) ∧ 0 ≤ p ∧ p ≤ 11 then zWho (aC S) t p else -2
def aMany (S : zAb) (t : Int) : Int := if 0 ≤ t ∧ t ≤ 23 then dn (zD (aC S) t) else -2
def aAt (S : zAb) (t k what : Int) : Int := if (0 ≤ t ∧ t ≤ 23) ∧ (0 ≤ k ∧ k < cn (aC S)) ∧ 0 ≤ what ∧ what ≤ 2 then (if what = 0 then ds (zD (aC S) t) k else if what = 1 then zPla (aC S) t k else dl (zD (aC S) t) k) else -2
def aApart (S : zAb) (t a b : Int) : Int := if (0 ≤ t ∧ t ≤ 23) ∧ (0 ≤ a ∧ a < cn (aC S)) ∧ (0 ≤ b ∧ b < cn (aC S)) ∧ a ≠ b then (if zPla (aC S) t a = -1 ∨ zPla (aC S) t b = -1 then -1 else if zPla (aC S) t b < zPla (aC S) t a then zPla (aC S) t a - zPla (aC S) t b - 1 else zPla (aC S) t b - zPla (aC S) t a - 1) else -2
set_option maxHeartbeats 4000000 in
set_option maxRecDepth 100000 in
/-- fault -/
theorem c_M_fault {x : Int} {S : zAb} {σ : zSt} {post : Option VV → zSt → Prop} (hR : RM σ S) (ho : aOk S) (hx : zr x) (hp : ∀ σ', mKeep σ σ' → post (some (vZ (aFault S x))) σ') : Mc 5 MX7_fault [vR 6 44, vZ x] σ post := by
  show V 5 MX7_fault 0 [some (vR 6 44), some (vZ x)] [] σ post
  refine V_run kX7_fault 1 [] (show V 5 MX7_fault 1 [some (vR 6 44), some (vZ x)] [vZ x] σ post from ?_)
  refine V_callS (a := [vZ x]) (rest := []) kX7_fault rfl oX7_isText iX7_isText lk_7_108 rfl rfl (Nat.le_of_ble_eq_true rfl) (Nat.le_of_ble_eq_true rfl) (Nat.le_of_ble_eq_true rfl) (post' := fun zv zσ => V 5 MX7_fault 4 [some (vR 6 44), some (vZ x)] (zv.toList ++ []) zσ post) (c_M_isText (by omega) ((show V 5 MX7_fault 4 [some (vR 6 44), some (vZ x)] [vZ (if 0 ≤ x ∧ x ≤ 1 then 1 else 0)] σ post from ?_))) (fun _ _ h => h)
  by_cases h1 : 0 ≤ x ∧ x ≤ 1
  rotate_left
  · skip
    refine V_top (if_neg h1) ?_
    refine V_run kX7_fault 2 [1] (show (zr 0 ∧ 0 = 0) ∧ V 5 MX7_fault 17 [some (vR 6 44), some (vZ x)] [vZ (-2)] σ post from ⟨(by omega), ?_⟩)
    have e9 : aFault S x = -2 := if_neg (by omega)
    rw [e9] at hp
    exact V_iret kX7_fault rfl rfl (hp _ mKeep.rf)
  refine V_top (if_pos h1) ?_
  refine V_run kX7_fault 3 [0] (show (zr 1 ∧ ¬ 1 = 0) ∧ V 5 MX7_fault 9 [some (vR 6 44), some (vZ x)] [vZ x, vR 6 44] σ post from ⟨(by omega), ?_⟩)
  have hw := RM_who hR
  refine V_callV (a := [vZ x]) (rest := []) kX7_fault rfl oX7_faultOf iX7_faultOf lk_7_140 rfl rfl rfl (Nat.le_of_ble_eq_true rfl) (Nat.le_of_ble_eq_true rfl) (Nat.le_of_ble_eq_true rfl) (post' := fun zv zσ => V 5 MX7_fault 12 [some (vR 6 44), some (vZ x)] (zv.toList ++ []) zσ post) (c_M_faultOf (RM_t hR ho) (by omega) (fun σ1 hf1 hd1 => (show V 5 MX7_fault 12 [some (vR 6 44), some (vZ x)] [vZ (if x = 0 then zflt 1 (σ.1 46) (σ.1 45 0) else zflt 0 (zGt σ) (σ.1 45 1))] σ1 post from ?_))) (fun _ _ h => h)
  have e9 : aFault S x = if x = 0 then zflt 1 (σ.1 46) (σ.1 45 0) else zflt 0 (zGt σ) (σ.1 45 1) := by rw [hw.2.2.1, hw.2.2.2]; exact if_pos h1
  rw [e9] at hp
  refine V_run kX7_fault 1 [] (show V 5 MX7_fault 17 [some (vR 6 44), some (vZ x)] [vZ (if x = 0 then zflt 1 (σ.1 46) (σ.1 45 0) else zflt 0 (zGt σ) (σ.1 45 1))] σ1 post from ?_)
  exact V_iret kX7_fault rfl rfl (hp σ1 hf1.k)
set_option maxHeartbeats 4000000 in
set_option maxRecDepth 100000 in
/-- isPerson -/
theorem c_M_isPerson {k : Int} {S : zAb} {σ : zSt} {post : Option VV → zSt → Prop} (hR : RM σ S) (ho : aOk S) (hk : zr k) (hp : ∀ σ', mKeep σ σ' → aTd σ' S → post (some (vZ (if 0 ≤ k ∧ k < cn (aC S) then 1 else 0))) σ') : Mc 6 MX7_isPerson [vR 6 44, vZ k] σ post := by
  have hcn := (aC_ok ho).1
  show V 6 MX7_isPerson 0 [some (vR 6 44), some (vZ k)] [] σ post
  refine V_run kX7_isPerson 1 [] (show V 6 MX7_isPerson 1 [some (vR 6 44), some (vZ k)] [vR 6 44] σ post from ?_)
  refine V_callV (a := []) (rest := []) kX7_isPerson rfl oX7_reads iX7_reads lk_7_143 rfl rfl rfl (Nat.le_of_ble_eq_true rfl) (Nat.le_of_ble_eq_true rfl) (Nat.le_of_ble_eq_true rfl) (post' := fun zv zσ => V 6 MX7_isPerson 4 [some (vR 6 44), some (vZ k)] (zv.toList ++ []) zσ post) (c_M_reads (RM_t hR ho) (fun σ1 hf1 hd1 => (show V 6 MX7_isPerson 4 [some (vR 6 44), some (vZ k)] [] σ1 post from ?_))) (fun _ _ h => h)
  have ht := aTd_of (RM_k hf1.k hR) ho hd1
  refine V_run kX7_isPerson 4 [] (show V 6 MX7_isPerson 10 [some (vR 6 44), some (vZ k)] [vZ (σ1.1 44 2), vZ 0, vZ k] σ1 post from ?_)
  refine V_top (ht.1) ?_
  refine V_run kX7_isPerson 2 [] (show V 6 MX7_isPerson 12 [some (vR 6 44), some (vZ k)] [vZ ((cn (aC S)) - 1), vZ 0, vZ k] σ1 post from ?_)
  refine V_callS (a := [vZ k, vZ 0, vZ ((cn (aC S)) - 1)]) (rest := []) kX7_isPerson rfl oX7_in iX7_in lk_7_104 rfl rfl (Nat.le_of_ble_eq_true rfl) (Nat.le_of_ble_eq_true rfl) (Nat.le_of_ble_eq_true rfl) (post' := fun zv zσ => V 6 MX7_isPerson 15 [some (vR 6 44), some (vZ k)] (zv.toList ++ []) zσ post) (c_M_in (by omega) (by omega) (by omega) ((show V 6 MX7_isPerson 15 [some (vR 6 44), some (vZ k)] [vZ (if 0 ≤ k ∧ k ≤ cn (aC S) - 1 then 1 else 0)] σ1 post from ?_))) (fun _ _ h => h)
  refine V_top (show (if 0 ≤ k ∧ k ≤ cn (aC S) - 1 then (1 : Int) else 0) = (if 0 ≤ k ∧ k < cn (aC S) then 1 else 0) by (repeat' split) <;> omega) ?_
  exact V_zret kX7_isPerson rfl rfl (by split; exact Or.inr rfl; exact Or.inl rfl) (hp σ1 hf1.k ht)
set_option maxHeartbeats 4000000 in
set_option maxRecDepth 100000 in
/-- personOf -/
theorem c_M_personOf {k x : Int} {S : zAb} {σ : zSt} {post : Option VV → zSt → Prop} (ho : aOk S) (ht : aTd σ S) (h0 : 0 ≤ k) (h1 : k < cn (aC S)) (hx : zr x) (hp : post (some (vZ (if x = 0 then cCm (aC S) k else if x = 1 then cSo (aC S) k else cPa (aC S) k))) σ) : Mc 0 MX7_personOf [vR 6 44, vZ k, vZ x] σ post := by
  have hcn := (aC_ok ho).1
  have h3 := ht.2.2.1 k h0 h1
  show V 0 MX7_personOf 0 [some (vR 6 44), some (vZ k), some (vZ x)] [] σ post
  refine V_run kX7_personOf 1 [] (show V 0 MX7_personOf 1 [some (vR 6 44), some (vZ k), some (vZ x)] [vZ x] σ post from ?_)
  by_cases q0 : x = 0
  · skip
    rw [if_pos q0, ← h3.1] at hp
    refine V_run kX7_personOf 6 [0] (show (zr x ∧ x = 0) ∧ (0 ≤ k ∧ k < 13) ∧ V 0 MX7_personOf 33 [some (vR 6 44), some (vZ k), some (vZ x)] [vZ (σ.1 47 k)] σ post from ⟨(by omega), (by omega), ?_⟩)
    exact V_iret kX7_personOf rfl rfl (hp)
  · skip
    rw [if_neg q0] at hp
    refine V_run kX7_personOf 3 [1] (show (zr x ∧ ¬ x = 0) ∧ V 0 MX7_personOf 15 [some (vR 6 44), some (vZ k), some (vZ x)] [vZ 1, vZ x] σ post from ⟨(by omega), ?_⟩)
    by_cases q1 : x = 1
    · skip
      rw [if_pos q1, ← h3.2.1] at hp
      refine V_run kX7_personOf 6 [0] (show (zr x ∧ zr 1 ∧ x = 1) ∧ (0 ≤ k ∧ k < 13) ∧ V 0 MX7_personOf 33 [some (vR 6 44), some (vZ k), some (vZ x)] [vZ (σ.1 48 k)] σ post from ⟨(by omega), (by omega), ?_⟩)
      exact V_iret kX7_personOf rfl rfl (hp)
    · skip
      rw [if_neg q1, ← h3.2.2] at hp
      refine V_run kX7_personOf 5 [1] (show (zr x ∧ zr 1 ∧ ¬ x = 1) ∧ (0 ≤ k ∧ k < 13) ∧ V 0 MX7_personOf 33 [some (vR 6 44), some (vZ k), some (vZ x)] [vZ (σ.1 49 k)] σ post from ⟨(by omega), (by omega), ?_⟩)
      exact V_iret kX7_personOf rfl rfl (hp)
set_option maxHeartbeats 4000000 in
set_option maxRecDepth 100000 in
/-- person -/
theorem c_M_person {k x : Int} {S : zAb} {σ : zSt} {post : Option VV → zSt → Prop} (hR : RM σ S) (ho : aOk S) (hk : zr k) (hx : zr x) (hp : ∀ σ', mKeep σ σ' → post (some (vZ (aPerson S k x))) σ') : Mc 7 MX7_person [vR 6 44, vZ k, vZ x] σ post := by
  show V 7 MX7_person 0 [some (vR 6 44), some (vZ k), some (vZ x)] [] σ post
  refine V_run kX7_person 2 [] (show V 7 MX7_person 2 [some (vR 6 44), some (vZ k), some (vZ x)] [vZ k, vR 6 44] σ post from ?_)
  refine V_callV (a := [vZ k]) (rest := []) kX7_person rfl oX7_isPerson iX7_isPerson lk_7_146 rfl rfl rfl (Nat.le_of_ble_eq_true rfl) (Nat.le_of_ble_eq_true rfl) (Nat.le_of_ble_eq_true rfl) (post' := fun zv zσ => V 7 MX7_person 5 [some (vR 6 44), some (vZ k), some (vZ x)] (zv.toList ++ []) zσ post) (c_M_isPerson hR ho (by omega) (fun σp1 hkp1 htd1 => (show V 7 MX7_person 5 [some (vR 6 44), some (vZ k), some (vZ x)] [vZ (if 0 ≤ k ∧ k < cn (aC S) then 1 else 0)] σp1 post from ?_))) (fun _ _ h => h)
  have hRp1 := RM_k hkp1 hR
  by_cases h1 : 0 ≤ k ∧ k < cn (aC S)
  rotate_left
  · skip
    refine V_top (if_neg h1) ?_
    refine V_run kX7_person 2 [1] (show (zr 0 ∧ 0 = 0) ∧ V 7 MX7_person 26 [some (vR 6 44), some (vZ k), some (vZ x)] [vZ (-2)] σp1 post from ⟨(by omega), ?_⟩)
    have e9 : aPerson S k x = -2 := if_neg (by omega)
    rw [e9] at hp
    exact V_iret kX7_person rfl rfl (hp _ hkp1)
  refine V_top (if_pos h1) ?_
  refine V_run kX7_person 2 [0] (show (zr 1 ∧ ¬ 1 = 0) ∧ V 7 MX7_person 9 [some (vR 6 44), some (vZ k), some (vZ x)] [vZ x] σp1 post from ⟨(by omega), ?_⟩)
  refine V_callS (a := [vZ x]) (rest := []) kX7_person rfl oX7_isThree iX7_isThree lk_7_149 rfl rfl (Nat.le_of_ble_eq_true rfl) (Nat.le_of_ble_eq_true rfl) (Nat.le_of_ble_eq_true rfl) (post' := fun zv zσ => V 7 MX7_person 12 [some (vR 6 44), some (vZ k), some (vZ x)] (zv.toList ++ []) zσ post) (c_M_isThree (by omega) ((show V 7 MX7_person 12 [some (vR 6 44), some (vZ k), some (vZ x)] [vZ (if 0 ≤ x ∧ x ≤ 2 then 1 else 0)] σp1 post from ?_))) (fun _ _ h => h)
  by_cases h2 : 0 ≤ x ∧ x ≤ 2
  rotate_left
  · skip
    refine V_top (if_neg h2) ?_
    refine V_run kX7_person 2 [1] (show (zr 0 ∧ 0 = 0) ∧ V 7 MX7_person 26 [some (vR 6 44), some (vZ k), some (vZ x)] [vZ (-2)] σp1 post from ⟨(by omega), ?_⟩)
    have e9 : aPerson S k x = -2 := if_neg (by omega)
    rw [e9] at hp
    exact V_iret kX7_person rfl rfl (hp _ hkp1)
  refine V_top (if_pos h2) ?_
  refine V_run kX7_person 4 [0] (show (zr 1 ∧ ¬ 1 = 0) ∧ V 7 MX7_person 18 [some (vR 6 44), some (vZ k), some (vZ x)] [vZ x, vZ k, vR 6 44] σp1 post from ⟨(by omega), ?_⟩)
  refine V_callV (a := [vZ k, vZ x]) (rest := []) kX7_person rfl oX7_personOf iX7_personOf lk_7_152 rfl rfl rfl (Nat.le_of_ble_eq_true rfl) (Nat.le_of_ble_eq_true rfl) (Nat.le_of_ble_eq_true rfl) (post' := fun zv zσ => V 7 MX7_person 21 [some (vR 6 44), some (vZ k), some (vZ x)] (zv.toList ++ []) zσ post) (c_M_personOf ho htd1 h1.1 h1.2 (by omega) ((show V 7 MX7_person 21 [some (vR 6 44), some (vZ k), some (vZ x)] [vZ (if x = 0 then cCm (aC S) k else if x = 1 then cSo (aC S) k else cPa (aC S) k)] σp1 post from ?_))) (fun _ _ h => h)
  have e9 : aPerson S k x = if x = 0 then cCm (aC S) k else if x = 1 then cSo (aC S) k else cPa (aC S) k := if_pos ⟨h1, h2⟩
  rw [e9] at hp
  refine V_run kX7_person 1 [] (show V 7 MX7_person 26 [some (vR 6 44), some (vZ k), some (vZ x)] [vZ (if x = 0 then cCm (aC S) k else if x = 1 then cSo (aC S) k else cPa (aC S) k)] σp1 post from ?_)
  exact V_iret kX7_person rfl rfl (hp _ hkp1)
set_option maxHeartbeats 4000000 in
set_option maxRecDepth 100000 in
/-- windowOf -/
theorem c_M_windowOf {t : Int} {S : zAb} {σ : zSt} {post : Option VV → zSt → Prop} (hR : RM σ S) (ho : aOk S) (h0 : 0 ≤ t) (h1 : t < 24) (hp : ∀ σ', mKeep σ σ' → post (some (vZ (cWi (aC S) t))) σ') : Mc 6 MX7_windowOf [vR 6 44, vZ t] σ post := by
  show V 6 MX7_windowOf 0 [some (vR 6 44), some (vZ t)] [] σ post
  refine V_run kX7_windowOf 1 [] (show V 6 MX7_windowOf 1 [some (vR 6 44), some (vZ t)] [vR 6 44] σ post from ?_)
  refine V_callV (a := []) (rest := []) kX7_windowOf rfl oX7_reads iX7_reads lk_7_143 rfl rfl rfl (Nat.le_of_ble_eq_true rfl) (Nat.le_of_ble_eq_true rfl) (Nat.le_of_ble_eq_true rfl) (post' := fun zv zσ => V 6 MX7_windowOf 4 [some (vR 6 44), some (vZ t)] (zv.toList ++ []) zσ post) (c_M_reads (RM_t hR ho) (fun σ1 hf1 hd1 => (show V 6 MX7_windowOf 4 [some (vR 6 44), some (vZ t)] [] σ1 post from ?_))) (fun _ _ h => h)
  have ht := aTd_of (RM_k hf1.k hR) ho hd1
  refine V_run kX7_windowOf 4 [] (show (0 ≤ t ∧ t < 24) ∧ V 6 MX7_windowOf 10 [some (vR 6 44), some (vZ t)] [vZ (σ1.1 50 t)] σ1 post from ⟨(by omega), ?_⟩)
  refine V_top (ht.2.2.2 t h0 h1) ?_
  exact V_iret kX7_windowOf rfl rfl (hp σ1 hf1.k)
set_option maxHeartbeats 4000000 in
set_option maxRecDepth 100000 in
/-- window -/
theorem c_M_window {t : Int} {S : zAb} {σ : zSt} {post : Option VV → zSt → Prop} (hR : RM σ S) (ho : aOk S) (ht : zr t) (hp : ∀ σ', mKeep σ σ' → post (some (vZ (aWindow S t))) σ') : Mc 7 MX7_window [vR 6 44, vZ t] σ post := by
  show V 7 MX7_window 0 [some (vR 6 44), some (vZ t)] [] σ post
  refine V_run kX7_window 1 [] (show V 7 MX7_window 1 [some (vR 6 44), some (vZ t)] [vZ t] σ post from ?_)
  refine V_callS (a := [vZ t]) (rest := []) kX7_window rfl oX7_isMinute iX7_isMinute lk_7_116 rfl rfl (Nat.le_of_ble_eq_true rfl) (Nat.le_of_ble_eq_true rfl) (Nat.le_of_ble_eq_true rfl) (post' := fun zv zσ => V 7 MX7_window 4 [some (vR 6 44), some (vZ t)] (zv.toList ++ []) zσ post) (c_M_isMinute (by omega) ((show V 7 MX7_window 4 [some (vR 6 44), some (vZ t)] [vZ (if 0 ≤ t ∧ t ≤ 23 then 1 else 0)] σ post from ?_))) (fun _ _ h => h)
  by_cases h1 : 0 ≤ t ∧ t ≤ 23
  rotate_left
  · skip
    refine V_top (if_neg h1) ?_
    refine V_run kX7_window 2 [1] (show (zr 0 ∧ 0 = 0) ∧ V 7 MX7_window 17 [some (vR 6 44), some (vZ t)] [vZ (-2)] σ post from ⟨(by omega), ?_⟩)
    have e9 : aWindow S t = -2 := if_neg (by omega)
    rw [e9] at hp
    exact V_iret kX7_window rfl rfl (hp _ mKeep.rf)
  refine V_top (if_pos h1) ?_
  refine V_run kX7_window 3 [0] (show (zr 1 ∧ ¬ 1 = 0) ∧ V 7 MX7_window 9 [some (vR 6 44), some (vZ t)] [vZ t, vR 6 44] σ post from ⟨(by omega), ?_⟩)
  refine V_callV (a := [vZ t]) (rest := []) kX7_window rfl oX7_windowOf iX7_windowOf lk_7_155 rfl rfl rfl (Nat.le_of_ble_eq_true rfl) (Nat.le_of_ble_eq_true rfl) (Nat.le_of_ble_eq_true rfl) (post' := fun zv zσ => V 7 MX7_window 12 [some (vR 6 44), some (vZ t)] (zv.toList ++ []) zσ post) (c_M_windowOf hR ho h1.1 (by omega) (fun σ9 hk9 => (show V 7 MX7_window 12 [some (vR 6 44), some (vZ t)] [vZ (cWi (aC S) t)] σ9 post from ?_))) (fun _ _ h => h)
  have e9 : aWindow S t = cWi (aC S) t := if_pos h1
  rw [e9] at hp
  refine V_run kX7_window 1 [] (show V 7 MX7_window 17 [some (vR 6 44), some (vZ t)] [vZ (cWi (aC S) t)] σ9 post from ?_)
  exact V_iret kX7_window rfl rfl (hp _ (hk9))
set_option maxHeartbeats 4000000 in
set_option maxRecDepth 100000 in
/-- standsOf -/
theorem c_M_standsOf {t p : Int} {S : zAb} {σ : zSt} {post : Option VV → zSt → Prop} (hR : RM σ S) (ho : aOk S) (t0 : 0 ≤ t) (t1 : t < 24) (p0 : 0 ≤ p) (p1 : p < 12) (hp : ∀ σ', mKeep σ σ' → post (some (vZ (zWho (aC S) t p))) σ') : Mc 8 MX7_standsOf [vR 6 44, vZ t, vZ p] σ post := by
  show V 8 MX7_standsOf 0 [some (vR 6 44), some (vZ t), some (vZ p)] [] σ post
  refine V_run kX7_standsOf 1 [] (show V 8 MX7_standsOf 1 [some (vR 6 44), some (vZ t), some (vZ p)] [vR 6 44] σ post from ?_)
  refine V_callV (a := []) (rest := []) kX7_standsOf rfl oX7_runsTold iX7_runsTold lk_7_219 rfl rfl rfl (Nat.le_of_ble_eq_true rfl) (Nat.le_of_ble_eq_true rfl) (Nat.le_of_ble_eq_true rfl) (post' := fun zv zσ => V 8 MX7_standsOf 4 [some (vR 6 44), some (vZ t), some (vZ p)] (zv.toList ++ []) zσ post) (c_M_runsTold hR ho (fun σ1 hk1 hc1 hm1 hr1 => (show V 8 MX7_standsOf 4 [some (vR 6 44), some (vZ t), some (vZ p)] [] σ1 post from ?_))) (fun _ _ h => h)
  refine V_run kX7_standsOf 8 [] (show (0 ≤ ((12 * t) + p) ∧ ((12 * t) + p) < 288) ∧ V 8 MX7_standsOf 15 [some (vR 6 44), some (vZ t), some (vZ p)] [vZ (σ1.1 61 ((12 * t) + p))] σ1 post from ⟨(by omega), ?_⟩)
  refine V_top (((hr1 t t0 t1).1 p p0 p1).1) ?_
  exact V_iret kX7_standsOf rfl rfl (hp σ1 hk1)
set_option maxHeartbeats 4000000 in
set_option maxRecDepth 100000 in
/-- stands -/
theorem c_M_stands {t p : Int} {S : zAb} {σ : zSt} {post : Option VV → zSt → Prop} (hR : RM σ S) (ho : aOk S) (ht : zr t) (hq : zr p) (hp : ∀ σ', mKeep σ σ' → post (some (vZ (aStands S t p))) σ') : Mc 9 MX7_stands [vR 6 44, vZ t, vZ p] σ post := by
  show V 9 MX7_stands 0 [some (vR 6 44), some (vZ t), some (vZ p)] [] σ post
  refine V_run kX7_stands 1 [] (show V 9 MX7_stands 1 [some (vR 6 44), some (vZ t), some (vZ p)] [vZ t] σ post from ?_)
  refine V_callS (a := [vZ t]) (rest := []) kX7_stands rfl oX7_isMinute iX7_isMinute lk_7_116 rfl rfl (Nat.le_of_ble_eq_true rfl) (Nat.le_of_ble_eq_true rfl) (Nat.le_of_ble_eq_true rfl) (post' := fun zv zσ => V 9 MX7_stands 4 [some (vR 6 44), some (vZ t), some (vZ p)] (zv.toList ++ []) zσ post) (c_M_isMinute (by omega) ((show V 9 MX7_stands 4 [some (vR 6 44), some (vZ t), some (vZ p)] [vZ (if 0 ≤ t ∧ t ≤ 23 then 1 else 0)] σ post from ?_))) (fun _ _ h => h)
  by_cases h1 : 0 ≤ t ∧ t ≤ 23
  rotate_left
  · skip
    refine V_top (if_neg h1) ?_
    refine V_run kX7_stands 2 [1] (show (zr 0 ∧ 0 = 0) ∧ V 9 MX7_stands 25 [some (vR 6 44), some (vZ t), some (vZ p)] [vZ (-2)] σ post from ⟨(by omega), ?_⟩)
    have e9 : aStands S t p = -2 := if_neg (by omega)
    rw [e9] at hp
    exact V_iret kX7_stands rfl rfl (hp _ mKeep.rf)
  refine V_top (if_pos h1) ?_
  refine V_run kX7_stands 2 [0] (show (zr 1 ∧ ¬ 1 = 0) ∧ V 9 MX7_stands 8 [some (vR 6 44), some (vZ t), some (vZ p)] [vZ p] σ post from ⟨(by omega), ?_⟩)
  refine V_callS (a := [vZ p]) (rest := []) kX7_stands rfl oX7_isTwelve iX7_isTwelve lk_7_158 rfl rfl (Nat.le_of_ble_eq_true rfl) (Nat.le_of_ble_eq_true rfl) (Nat.le_of_ble_eq_true rfl) (post' := fun zv zσ => V 9 MX7_stands 11 [some (vR 6 44), some (vZ t), some (vZ p)] (zv.toList ++ []) zσ post) (c_M_isTwelve (by omega) ((show V 9 MX7_stands 11 [some (vR 6 44), some (vZ t), some (vZ p)] [vZ (if 0 ≤ p ∧ p ≤ 11 then 1 else 0)] σ post from ?_))) (fun _ _ h => h)
  by_cases h2 : 0 ≤ p ∧ p ≤ 11
  rotate_left
  · skip
    refine V_top (if_neg h2) ?_
    refine V_run kX7_stands 2 [1] (show (zr 0 ∧ 0 = 0) ∧ V 9 MX7_stands 25 [some (vR 6 44), some (vZ t), some (vZ p)] [vZ (-2)] σ post from ⟨(by omega), ?_⟩)
    have e9 : aStands S t p = -2 := if_neg (by omega)
    rw [e9] at hp
    exact V_iret kX7_stands rfl rfl (hp _ mKeep.rf)
  refine V_top (if_pos h2) ?_
  refine V_run kX7_stands 4 [0] (show (zr 1 ∧ ¬ 1 = 0) ∧ V 9 MX7_stands 17 [some (vR 6 44), some (vZ t), some (vZ p)] [vZ p, vZ t, vR 6 44] σ post from ⟨(by omega), ?_⟩)
  refine V_callV (a := [vZ t, vZ p]) (rest := []) kX7_stands rfl oX7_standsOf iX7_standsOf lk_7_222 rfl rfl rfl (Nat.le_of_ble_eq_true rfl) (Nat.le_of_ble_eq_true rfl) (Nat.le_of_ble_eq_true rfl) (post' := fun zv zσ => V 9 MX7_stands 20 [some (vR 6 44), some (vZ t), some (vZ p)] (zv.toList ++ []) zσ post) (c_M_standsOf hR ho h1.1 (by omega) h2.1 (by omega) (fun σ9 hk9 => (show V 9 MX7_stands 20 [some (vR 6 44), some (vZ t), some (vZ p)] [vZ (zWho (aC S) t p)] σ9 post from ?_))) (fun _ _ h => h)
  have e9 : aStands S t p = zWho (aC S) t p := if_pos ⟨h1, h2⟩
  rw [e9] at hp
  refine V_run kX7_stands 1 [] (show V 9 MX7_stands 25 [some (vR 6 44), some (vZ t), some (vZ p)] [vZ (zWho (aC S) t p)] σ9 post from ?_)
  exact V_iret kX7_stands rfl rfl (hp _ (hk9))
set_option maxHeartbeats 4000000 in
set_option maxRecDepth 100000 in
/-- manyOf -/
theorem c_M_manyOf {t : Int} {S : zAb} {σ : zSt} {post : Option VV → zSt → Prop} (hR : RM σ S) (ho : aOk S) (t0 : 0 ≤ t) (t1 : t < 24) (hp : ∀ σ', mKeep σ σ' → post (some (vZ (dn (zD (aC S) t)))) σ') : Mc 8 MX7_manyOf [vR 6 44, vZ t] σ post := by
  show V 8 MX7_manyOf 0 [some (vR 6 44), some (vZ t)] [] σ post
  refine V_run kX7_manyOf 1 [] (show V 8 MX7_manyOf 1 [some (vR 6 44), some (vZ t)] [vR 6 44] σ post from ?_)
  refine V_callV (a := []) (rest := []) kX7_manyOf rfl oX7_runsTold iX7_runsTold lk_7_219 rfl rfl rfl (Nat.le_of_ble_eq_true rfl) (Nat.le_of_ble_eq_true rfl) (Nat.le_of_ble_eq_true rfl) (post' := fun zv zσ => V 8 MX7_manyOf 4 [some (vR 6 44), some (vZ t)] (zv.toList ++ []) zσ post) (c_M_runsTold hR ho (fun σ1 hk1 hc1 hm1 hr1 => (show V 8 MX7_manyOf 4 [some (vR 6 44), some (vZ t)] [] σ1 post from ?_))) (fun _ _ h => h)
  refine V_run kX7_manyOf 4 [] (show (0 ≤ t ∧ t < 24) ∧ V 8 MX7_manyOf 10 [some (vR 6 44), some (vZ t)] [vZ (σ1.1 64 t)] σ1 post from ⟨(by omega), ?_⟩)
  refine V_top ((hr1 t t0 t1).2) ?_
  exact V_iret kX7_manyOf rfl rfl (hp σ1 hk1)
set_option maxHeartbeats 4000000 in
set_option maxRecDepth 100000 in
/-- many -/
theorem c_M_many {t : Int} {S : zAb} {σ : zSt} {post : Option VV → zSt → Prop} (hR : RM σ S) (ho : aOk S) (ht : zr t) (hp : ∀ σ', mKeep σ σ' → post (some (vZ (aMany S t))) σ') : Mc 9 MX7_many [vR 6 44, vZ t] σ post := by
  show V 9 MX7_many 0 [some (vR 6 44), some (vZ t)] [] σ post
  refine V_run kX7_many 1 [] (show V 9 MX7_many 1 [some (vR 6 44), some (vZ t)] [vZ t] σ post from ?_)
  refine V_callS (a := [vZ t]) (rest := []) kX7_many rfl oX7_isMinute iX7_isMinute lk_7_116 rfl rfl (Nat.le_of_ble_eq_true rfl) (Nat.le_of_ble_eq_true rfl) (Nat.le_of_ble_eq_true rfl) (post' := fun zv zσ => V 9 MX7_many 4 [some (vR 6 44), some (vZ t)] (zv.toList ++ []) zσ post) (c_M_isMinute (by omega) ((show V 9 MX7_many 4 [some (vR 6 44), some (vZ t)] [vZ (if 0 ≤ t ∧ t ≤ 23 then 1 else 0)] σ post from ?_))) (fun _ _ h => h)
  by_cases h1 : 0 ≤ t ∧ t ≤ 23
  rotate_left
  · skip
    refine V_top (if_neg h1) ?_
    refine V_run kX7_many 2 [1] (show (zr 0 ∧ 0 = 0) ∧ V 9 MX7_many 17 [some (vR 6 44), some (vZ t)] [vZ (-2)] σ post from ⟨(by omega), ?_⟩)
    have e9 : aMany S t = -2 := if_neg (by omega)
    rw [e9] at hp
    exact V_iret kX7_many rfl rfl (hp _ mKeep.rf)
  refine V_top (if_pos h1) ?_
  refine V_run kX7_many 3 [0] (show (zr 1 ∧ ¬ 1 = 0) ∧ V 9 MX7_many 9 [some (vR 6 44), some (vZ t)] [vZ t, vR 6 44] σ post from ⟨(by omega), ?_⟩)
  refine V_callV (a := [vZ t]) (rest := []) kX7_many rfl oX7_manyOf iX7_manyOf lk_7_225 rfl rfl rfl (Nat.le_of_ble_eq_true rfl) (Nat.le_of_ble_eq_true rfl) (Nat.le_of_ble_eq_true rfl) (post' := fun zv zσ => V 9 MX7_many 12 [some (vR 6 44), some (vZ t)] (zv.toList ++ []) zσ post) (c_M_manyOf hR ho h1.1 (by omega) (fun σ9 hk9 => (show V 9 MX7_many 12 [some (vR 6 44), some (vZ t)] [vZ (dn (zD (aC S) t))] σ9 post from ?_))) (fun _ _ h => h)
  have e9 : aMany S t = dn (zD (aC S) t) := if_pos h1
  rw [e9] at hp
  refine V_run kX7_many 1 [] (show V 9 MX7_many 17 [some (vR 6 44), some (vZ t)] [vZ (dn (zD (aC S) t))] σ9 post from ?_)
  exact V_iret kX7_many rfl rfl (hp _ (hk9))
set_option maxHeartbeats 4000000 in
set_option maxRecDepth 100000 in
/-- placeAt -/
theorem c_M_placeAt {C : zCf} {t k : Int} {σ : zSt} {post : Option VV → zSt → Prop} (hC : zCv C) (hrec : zRec σ C 24) (t0 : 0 ≤ t) (t1 : t < 24) (k0 : 0 ≤ k) (k1 : k < cn C) (hp : post (some (vZ (zPla C t k))) σ) : Mc 0 MX7_placeAt [vR 6 44, vZ t, vZ k] σ post := by
  have hr9 := zPla_rng hC t k0
  have hJ := zJ_D hC t
  have hcn := hC.1
  have loop : ∀ (m : Nat) (i : Int), 0 ≤ i → i + m = 12 → ∀ y : Int, y = (if zPla C t k < i then zPla C t k else -1) → V 0 MX7_placeAt 5 [some (vR 6 44), some (vZ t), some (vZ k), some (vZ y), some (vZ i)] [] σ post := by
    intro m
    induction m with
    | zero =>
      intro i i0 i1 y hy
      have hy2 : y = zPla C t k := by rw [hy]; exact if_pos (by omega)
      rw [← hy2] at hp
      refine V_run kX7_placeAt 4 [1] (show (zr i ∧ zr 12 ∧ 12 ≤ i) ∧ V 0 MX7_placeAt 42 [some (vR 6 44), some (vZ t), some (vZ k), some (vZ y), some (vZ i)] [vZ y] σ post from ⟨(by omega), ?_⟩)
      exact V_iret kX7_placeAt rfl rfl (hp)
    | succ m ih =>
      intro i i0 i1 y hy
      have hwp := zWho_pla hC (t := t) i0 k0 k1
      have hw := ((hrec t t0 t1).1 i i0 (by omega)).1
      have hwr : -1 ≤ zWho C t i ∧ zWho C t i < 12 := by unfold zWho; split; have := hJ.2.1 i i0 (by assumption); have := hC.1; omega; omega
      refine V_run kX7_placeAt 11 [0] (show (zr i ∧ zr 12 ∧ i < 12) ∧ (0 ≤ ((12 * t) + i) ∧ ((12 * t) + i) < 288) ∧ V 0 MX7_placeAt 24 [some (vR 6 44), some (vZ t), some (vZ k), some (vZ y), some (vZ i)] [vZ (σ.1 61 ((12 * t) + i))] σ post from ⟨(by omega), (by omega), ?_⟩)
      refine V_top (hw) ?_
      refine V_run kX7_placeAt 1 [] (show V 0 MX7_placeAt 25 [some (vR 6 44), some (vZ t), some (vZ k), some (vZ y), some (vZ i)] [vZ k, vZ (zWho C t i)] σ post from ?_)
      by_cases hq : zWho C t i = k
      · skip
        have hz := hwp.mp hq
        refine V_run kX7_placeAt 6 [0] (show (zr (zWho C t i) ∧ zr k ∧ (zWho C t i) = k) ∧ V 0 MX7_placeAt 5 [some (vR 6 44), some (vZ t), some (vZ k), some (vZ i), some (vZ (i + 1))] [] σ post from ⟨(by omega), ?_⟩)
        exact ih (i + 1) (by omega) (by omega) i (by rw [if_pos (by omega)]; omega)
      · skip
        have hz : ¬ zPla C t k = i := fun z => hq (hwp.mpr z)
        refine V_run kX7_placeAt 5 [1] (show (zr (zWho C t i) ∧ zr k ∧ ¬ (zWho C t i) = k) ∧ V 0 MX7_placeAt 5 [some (vR 6 44), some (vZ t), some (vZ k), some (vZ y), some (vZ (i + 1))] [] σ post from ⟨(by omega), ?_⟩)
        exact ih (i + 1) (by omega) (by omega) y (by rw [hy]; (repeat' split) <;> omega)
  show V 0 MX7_placeAt 0 [some (vR 6 44), some (vZ t), some (vZ k), none, none] [] σ post
  refine V_run kX7_placeAt 4 [] (show V 0 MX7_placeAt 5 [some (vR 6 44), some (vZ t), some (vZ k), some (vZ (-1)), some (vZ 0)] [] σ post from ?_)
  exact loop 12 0 (by omega) (by omega) (-1) (by split <;> omega)
