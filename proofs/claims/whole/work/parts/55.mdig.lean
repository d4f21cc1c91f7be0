/-- that people are known as told -/
def aTp (σ : zSt) (S : zAb) : Prop := σ.1 44 2 = cn (aC S) ∧ ∀ p : Int, 0 ≤ p → p < cn (aC S) → σ.1 47 p = cCm (aC S) p ∧ σ.1 48 p = cSo (aC S) p ∧ σ.1 49 p = cPa (aC S) p
theorem aTp_of {σ : zSt} {S : zAb} {C : zCf} (h : zMc σ C) (e : ∀ y, cNot C y = cNot (aC S) y) : aTp σ S := by
  have e0 := e 0
  have e1 : cn C = cn (aC S) := (show cn (cNot C 0) = cn (cNot (aC S) 0) by rw [e0])
  have e2 : cCm C = cCm (aC S) := (show cCm (cNot C 0) = cCm (cNot (aC S) 0) by rw [e0])
  have e3 : cSo C = cSo (aC S) := (show cSo (cNot C 0) = cSo (cNot (aC S) 0) by rw [e0])
  have e4 : cPa C = cPa (aC S) := (show cPa (cNot C 0) = cPa (cNot (aC S) 0) by rw [e0])
  obtain ⟨h1, -, h3, -⟩ := h
  rw [e1, e2, e3, e4] at h3
  exact ⟨h1.trans e1, h3⟩
theorem aTp_c {σ : zSt} {S : zAb} (h : zMc σ (aC S)) : aTp σ S := aTp_of h (fun _ => rfl)
def zMl (h v : Int64) : Int64 := (31 : Int64) * h + v
def zMx (h : Int64) (v : Int) : Int64 := (31 : Int64) * h + zi2l v
def zFo (f : Int → Int) : Nat → Int → Int64 → Int64
  | 0, _, h => h
  | m + 1, x, h => zFo f m (x + 1) (zMx h (f x))
def vPer (S : zAb) (k x : Int) : Int := if x = 0 then cCm (aC S) k else if x = 1 then cSo (aC S) k else cPa (aC S) k
def vAt (S : zAb) (t k x : Int) : Int := if x = 0 then ds (zD (aC S) t) k else if x = 1 then zPla (aC S) t k else dl (zD (aC S) t) k
def vDone (S : zAb) (k x : Int) : Int := if x = 0 then zSin (aC S) k 24 0 else if x = 1 then zSto (aC S) k 24 0 0 else zMov (aC S) k (23 + 1) 0 (-1) 0
def vApart (S : zAb) (t k l : Int) : Int := if zPla (aC S) t k = -1 ∨ zPla (aC S) t l = -1 then -1 else if zPla (aC S) t l < zPla (aC S) t k then zPla (aC S) t k - zPla (aC S) t l - 1 else zPla (aC S) t l - zPla (aC S) t k - 1
def vFault (S : zAb) (x : Int) : Int := if x = 0 then zflt 1 (a_pF S) (a_pN S) else zflt 0 (a_wF S) (a_wN S)
def zDgD (S : zAb) (h : Int64) (k : Int) : Int64 := zFo (vDone S k) 3 0 (zFo (vAt S 23 k) 3 0 (zFo (vAt S 13 k) 3 0 (zFo (vAt S 6 k) 3 0 (zFo (vAt S 0 k) 3 0 (zFo (vPer S k) 3 0 h)))))
def zDgG (S : zAb) (h : Int64) (k : Int) : Int64 := zMx (zMl (zMl (zMx (zMx (zMx (zMx (zMx h (zAlw (zCom (aC S) k 24 0 (-1) 0) 0)) (zAlw (zCom (aC S) k 24 0 (-1) 0) 1)) (zSos S k 3 0 0)) (zPab S k 9 1 0)) (zAk (aC S) k (zPab S k 9 1 0) 24 0 (-1) 0)) (zCha S 5 k 0)) (zCha S 5 k 1)) (if k = 0 then 0 else vApart S 9 0 k)
def zDgP (S : zAb) (h : Int64) (k : Int) : Int64 := zDgG S (zDgD S h k) k
def zDgT (S : zAb) : Nat → Int → Int64 → Int64
  | 0, _, h => h
  | m + 1, t, h => zDgT S m (t + 1) (zMx (zMx (zMx (zMx h (cWi (aC S) t)) (dn (zD (aC S) t))) (zWho (aC S) t 0)) (zWho (aC S) t 4))
def zDgK (S : zAb) : Nat → Int → Int64 → Int64
  | 0, _, h => h
  | m + 1, k, h => zDgK S m (k + 1) (zDgP S h k)
def vDec (S : zAb) (s n x : Int) : Int := if x = 0 then zSvc (cDec (aC S) s n) (cn (aC S)).toNat 0 0 else dn (zD (cDec (aC S) s n) 23)
def zDgE (S : zAb) (h : Int64) : Int64 := zMx (zMx (zMx (zMx (zMx (zMx (zMx (zMx (zMx (zMx (zMx (zMx h (zAlw (zAlf (aC S) (cn (aC S)).toNat 0 (-1) 0) 0)) (zAlw (zAlf (aC S) (cn (aC S)).toNat 0 (-1) 0) 1)) (zKet (aC S) (cn (aC S)).toNat 0 0)) (zPick (zOpn (aC S) 8 4 0 (-1) (-1)) 0)) (zPick (zOpn (aC S) 8 4 0 (-1) (-1)) 1)) (zPick (zLet (aC S) 8 (cn (aC S)).toNat 0 (-1) (-1)) 0)) (zPick (zLet (aC S) 8 (cn (aC S)).toNat 0 (-1) (-1)) 1)) (zSpr S).1) (zOfR (zSpr S) 0)) (aNever S)) (vDec S 7 6 0)) (vDec S 7 6 1)
def aDigest (S : zAb) : Int64 := zDgE S (zDgK S (cn (aC S)).toNat 0 (zDgT S 24 0 (zMx (zMx (zFo (aCount S) 8 0 17) (vFault S 0)) (vFault S 1))))
set_option maxHeartbeats 4000000 in
set_option maxRecDepth 100000 in
/-- personOf -/
theorem c_M_personOf2 {k x : Int} {S : zAb} {σ : zSt} {post : Option VV → zSt → Prop} (ho : aOk S) (ht : aTp σ S) (h0 : 0 ≤ k) (h1 : k < cn (aC S)) (hx : zr x) (hp : post (some (vZ (if x = 0 then cCm (aC S) k else if x = 1 then cSo (aC S) k else cPa (aC S) k))) σ) : Mc 0 MX7_personOf [vR 6 44, vZ k, vZ x] σ post := by
  have hcn := (aC_ok ho).1
  have h3 := ht.2 k h0 h1
  show V 0 MX7_personOf 0 [some (vR 6 44), some (vZ k), some (vZ x)] [] σ post
  refine V_run kX7_personOf 1 [] (show V 0 MX7_personOf 1 [some (vR 6 44), some (vZ k), some (vZ x)] [vZ x] σ post from ?_)
  by_cases q0 : x = 0
  · skip
    rw [if_pos q0, ← h3.1] at hp
    refine V_run kX7_personOf 6 [0] (show (zr x ∧ x = 0) ∧ (0 ≤ k ∧ k < 13) ∧ V 0 MX7_personOf 33 [some (vR 6 44), some (vZ k), some (vZ x)] [vZ (σ.1 47 k)] σ post from ⟨(by omega), (by omega), ?_⟩)
    exact V_iret kX7_personOf rfl rfl (hp)
  · skip
    rw [if_neg q0] at hp
    refine V_run kX7_personOf 3 [1] (show (zr x ∧ ¬ x = 0) ∧ V 0 MX7_personOf 15 [some (vR 6 44), some (vZ k), some (vZ x)] [vZ 1, vZ x] σ post from ⟨(by omega), ?_⟩)
    by_cases q1 : x = 1
    · skip
      rw [if_pos q1, ← h3.2.1] at hp
      refine V_run kX7_personOf 6 [0] (show (zr x ∧ zr 1 ∧ x = 1) ∧ (0 ≤ k ∧ k < 13) ∧ V 0 MX7_personOf 33 [some (vR 6 44), some (vZ k), some (vZ x)] [vZ (σ.1 48 k)] σ post from ⟨(by omega), (by omega), ?_⟩)
      exact V_iret kX7_personOf rfl rfl (hp)
    · skip
      rw [if_neg q1, ← h3.2.2] at hp
      refine V_run kX7_personOf 5 [1] (show (zr x ∧ zr 1 ∧ ¬ x = 1) ∧ (0 ≤ k ∧ k < 13) ∧ V 0 MX7_personOf 33 [some (vR 6 44), some (vZ k), some (vZ x)] [vZ (σ.1 49 k)] σ post from ⟨(by omega), (by omega), ?_⟩)
      exact V_iret kX7_personOf rfl rfl (hp)
set_option maxHeartbeats 4000000 in
set_option maxRecDepth 100000 in
/-- standsOf -/
theorem c_M_standsOf2 {t p : Int} {S : zAb} {σ : zSt} {post : Option VV → zSt → Prop} (hR : RM σ S) (ho : aOk S) (t0 : 0 ≤ t) (t1 : t < 24) (p0 : 0 ≤ p) (p1 : p < 12) (hp : ∀ σ', mKeep σ σ' → aTp σ' S → post (some (vZ (zWho (aC S) t p))) σ') : Mc 8 MX7_standsOf [vR 6 44, vZ t, vZ p] σ post := by
  show V 8 MX7_standsOf 0 [some (vR 6 44), some (vZ t), some (vZ p)] [] σ post
  refine V_run kX7_standsOf 1 [] (show V 8 MX7_standsOf 1 [some (vR 6 44), some (vZ t), some (vZ p)] [vR 6 44] σ post from ?_)
  refine V_callV (a := []) (rest := []) kX7_standsOf rfl oX7_runsTold iX7_runsTold lk_7_219 rfl rfl rfl (Nat.le_of_ble_eq_true rfl) (Nat.le_of_ble_eq_true rfl) (Nat.le_of_ble_eq_true rfl) (post' := fun zv zσ => V 8 MX7_standsOf 4 [some (vR 6 44), some (vZ t), some (vZ p)] (zv.toList ++ []) zσ post) (c_M_runsTold hR ho (fun σ1 hk1 hc1 hm1 hr1 => (show V 8 MX7_standsOf 4 [some (vR 6 44), some (vZ t), some (vZ p)] [] σ1 post from ?_))) (fun _ _ h => h)
  refine V_run kX7_standsOf 8 [] (show (0 ≤ ((12 * t) + p) ∧ ((12 * t) + p) < 288) ∧ V 8 MX7_standsOf 15 [some (vR 6 44), some (vZ t), some (vZ p)] [vZ (σ1.1 61 ((12 * t) + p))] σ1 post from ⟨(by omega), ?_⟩)
  refine V_top (((hr1 t t0 t1).1 p p0 p1).1) ?_
  exact V_iret kX7_standsOf rfl rfl (hp σ1 hk1 (aTp_c hc1))
set_option maxHeartbeats 4000000 in
set_option maxRecDepth 100000 in
/-- apartOf -/
theorem c_M_apartOf2 {t k l : Int} {S : zAb} {σ : zSt} {post : Option VV → zSt → Prop} (hR : RM σ S) (ho : aOk S) (t0 : 0 ≤ t) (t1 : t < 24) (k0 : 0 ≤ k) (k1 : k < cn (aC S)) (l0 : 0 ≤ l) (l1 : l < cn (aC S)) (hp : ∀ σ', mKeep σ σ' → aTp σ' S → post (some (vZ (if zPla (aC S) t k = -1 ∨ zPla (aC S) t l = -1 then -1 else if zPla (aC S) t l < zPla (aC S) t k then zPla (aC S) t k - zPla (aC S) t l - 1 else zPla (aC S) t l - zPla (aC S) t k - 1))) σ') : Mc 8 MX7_apartOf [vR 6 44, vZ t, vZ k, vZ l] σ post := by
  have hC := aC_ok ho
  have hcn := hC.1
  have hq1 := zPla_rng hC t k0
  have hq2 := zPla_rng hC t l0
  show V 8 MX7_apartOf 0 [some (vR 6 44), some (vZ t), some (vZ k), some (vZ l), none, none] [] σ post
  refine V_run kX7_apartOf 1 [] (show V 8 MX7_apartOf 1 [some (vR 6 44), some (vZ t), some (vZ k), some (vZ l), none, none] [vR 6 44] σ post from ?_)
  refine V_callV (a := []) (rest := []) kX7_apartOf rfl oX7_runsTold iX7_runsTold lk_7_219 rfl rfl rfl (Nat.le_of_ble_eq_true rfl) (Nat.le_of_ble_eq_true rfl) (Nat.le_of_ble_eq_true rfl) (post' := fun zv zσ => V 8 MX7_apartOf 4 [some (vR 6 44), some (vZ t), some (vZ k), some (vZ l), none, none] (zv.toList ++ []) zσ post) (c_M_runsTold hR ho (fun σ1 hk1 hc1 hm1 hr1 => (show V 8 MX7_apartOf 4 [some (vR 6 44), some (vZ t), some (vZ k), some (vZ l), none, none] [] σ1 post from ?_))) (fun _ _ h => h)
  have hp := hp σ1 hk1 (aTp_c hc1)
  refine V_run kX7_apartOf 3 [] (show V 8 MX7_apartOf 7 [some (vR 6 44), some (vZ t), some (vZ k), some (vZ l), none, none] [vZ k, vZ t, vR 6 44] σ1 post from ?_)
  refine V_callV (a := [vZ t, vZ k]) (rest := []) kX7_apartOf rfl oX7_placeAt iX7_placeAt lk_7_228 rfl rfl rfl (Nat.le_of_ble_eq_true rfl) (Nat.le_of_ble_eq_true rfl) (Nat.le_of_ble_eq_true rfl) (post' := fun zv zσ => V 8 MX7_apartOf 10 [some (vR 6 44), some (vZ t), some (vZ k), some (vZ l), none, none] (zv.toList ++ []) zσ post) (c_M_placeAt hC hr1 t0 t1 k0 k1 ((show V 8 MX7_apartOf 10 [some (vR 6 44), some (vZ t), some (vZ k), some (vZ l), none, none] [vZ (zPla (aC S) t k)] σ1 post from ?_))) (fun _ _ h => h)
  refine V_run kX7_apartOf 4 [] (show V 8 MX7_apartOf 15 [some (vR 6 44), some (vZ t), some (vZ k), some (vZ l), some (vZ (zPla (aC S) t k)), none] [vZ l, vZ t, vR 6 44] σ1 post from ?_)
  refine V_callV (a := [vZ t, vZ l]) (rest := []) kX7_apartOf rfl oX7_placeAt iX7_placeAt lk_7_228 rfl rfl rfl (Nat.le_of_ble_eq_true rfl) (Nat.le_of_ble_eq_true rfl) (Nat.le_of_ble_eq_true rfl) (post' := fun zv zσ => V 8 MX7_apartOf 18 [some (vR 6 44), some (vZ t), some (vZ k), some (vZ l), some (vZ (zPla (aC S) t k)), none] (zv.toList ++ []) zσ post) (c_M_placeAt hC hr1 t0 t1 l0 l1 ((show V 8 MX7_apartOf 18 [some (vR 6 44), some (vZ t), some (vZ k), some (vZ l), some (vZ (zPla (aC S) t k)), none] [vZ (zPla (aC S) t l)] σ1 post from ?_))) (fun _ _ h => h)
  refine V_run kX7_apartOf 3 [] (show V 8 MX7_apartOf 23 [some (vR 6 44), some (vZ t), some (vZ k), some (vZ l), some (vZ (zPla (aC S) t k)), some (vZ (zPla (aC S) t l))] [vZ (-1), vZ (zPla (aC S) t k)] σ1 post from ?_)
  by_cases h1 : zPla (aC S) t k = -1
  · skip
    rw [if_pos (Or.inl h1)] at hp
    refine V_run kX7_apartOf 3 [1] (show (zr (zPla (aC S) t k) ∧ zr (-1) ∧ (zPla (aC S) t k) = (-1)) ∧ V 8 MX7_apartOf 60 [some (vR 6 44), some (vZ t), some (vZ k), some (vZ l), some (vZ (zPla (aC S) t k)), some (vZ (zPla (aC S) t l))] [vZ (-1)] σ1 post from ⟨(by omega), ?_⟩)
    exact V_iret kX7_apartOf rfl rfl (hp)
  · skip
    refine V_run kX7_apartOf 3 [0] (show (zr (zPla (aC S) t k) ∧ zr (-1) ∧ ¬ (zPla (aC S) t k) = (-1)) ∧ V 8 MX7_apartOf 29 [some (vR 6 44), some (vZ t), some (vZ k), some (vZ l), some (vZ (zPla (aC S) t k)), some (vZ (zPla (aC S) t l))] [vZ (-1), vZ (zPla (aC S) t l)] σ1 post from ⟨(by omega), ?_⟩)
    by_cases h2 : zPla (aC S) t l = -1
    · skip
      rw [if_pos (Or.inr h2)] at hp
      refine V_run kX7_apartOf 3 [0] (show (zr (zPla (aC S) t l) ∧ zr (-1) ∧ (zPla (aC S) t l) = (-1)) ∧ V 8 MX7_apartOf 60 [some (vR 6 44), some (vZ t), some (vZ k), some (vZ l), some (vZ (zPla (aC S) t k)), some (vZ (zPla (aC S) t l))] [vZ (-1)] σ1 post from ⟨(by omega), ?_⟩)
      exact V_iret kX7_apartOf rfl rfl (hp)
    · skip
      refine V_run kX7_apartOf 3 [1] (show (zr (zPla (aC S) t l) ∧ zr (-1) ∧ ¬ (zPla (aC S) t l) = (-1)) ∧ V 8 MX7_apartOf 40 [some (vR 6 44), some (vZ t), some (vZ k), some (vZ l), some (vZ (zPla (aC S) t k)), some (vZ (zPla (aC S) t l))] [vZ (zPla (aC S) t l), vZ (zPla (aC S) t k)] σ1 post from ⟨(by omega), ?_⟩)
      rw [if_neg (fun q => q.elim h1 h2)] at hp
      rcases Int.lt_or_le (zPla (aC S) t l) (zPla (aC S) t k) with h3 | h3
      · skip
        rw [if_pos h3] at hp
        refine V_run kX7_apartOf 7 [0] (show (zr (zPla (aC S) t k) ∧ zr (zPla (aC S) t l) ∧ (zPla (aC S) t l) < (zPla (aC S) t k)) ∧ V 8 MX7_apartOf 60 [some (vR 6 44), some (vZ t), some (vZ k), some (vZ l), some (vZ (zPla (aC S) t k)), some (vZ (zPla (aC S) t l))] [vZ (((zPla (aC S) t k) - (zPla (aC S) t l)) - 1)] σ1 post from ⟨(by omega), ?_⟩)
        exact V_iret kX7_apartOf rfl rfl (hp)
      · skip
        rw [if_neg (by omega)] at hp
        refine V_run kX7_apartOf 6 [1] (show (zr (zPla (aC S) t k) ∧ zr (zPla (aC S) t l) ∧ (zPla (aC S) t k) ≤ (zPla (aC S) t l)) ∧ V 8 MX7_apartOf 60 [some (vR 6 44), some (vZ t), some (vZ k), some (vZ l), some (vZ (zPla (aC S) t k)), some (vZ (zPla (aC S) t l))] [vZ (((zPla (aC S) t l) - (zPla (aC S) t k)) - 1)] σ1 post from ⟨(by omega), ?_⟩)
        exact V_iret kX7_apartOf rfl rfl (hp)
set_option maxHeartbeats 4000000 in
set_option maxRecDepth 100000 in
/-- chanceOf -/
theorem c_M_chanceOf2 {c k x : Int} {S : zAb} {σ : zSt} {post : Option VV → zSt → Prop} (hR : RM σ S) (ho : aOk S) (c0 : 0 ≤ c) (c1 : c ≤ 16) (k0 : 0 ≤ k) (k1 : k < cn (aC S)) (hx : zr x) (hp : ∀ σ', mKeep σ σ' → aTp σ' S → post (some (vL (zCha S c k x))) σ') : Mc 7 MX7_chanceOf [vR 6 44, vZ c, vZ k, vZ x] σ post := by
  have hok := aC_ok ho
  have hcn := hok.1
  have hen := ho.2.2.1
  have hE : cE (aC S) = a_eN S := rfl
  unfold zCha at hp
  obtain ⟨v, hv⟩ : ∃ v : Nat, v = zSum (aC S) c k (2 ^ (a_eN S).toNat) 0 0 := ⟨_, rfl⟩
  rw [← hv] at hp
  have h28 : 2 ^ (a_eN S).toNat ≤ 256 := Nat.le_trans (Nat.pow_le_pow_right (by decide) (show (a_eN S).toNat ≤ 8 by omega)) (by decide)
  have hsh := zshl1 hen.1 (by omega)
  have h8 : ∀ σ2 : zSt, mKeep σ σ2 → σ2.1 44 8 = a_eN S := fun σ2 h => (RM_k h hR).2.2.1.1
  show V 7 MX7_chanceOf 0 [some (vR 6 44), some (vZ c), some (vZ k), some (vZ x), none, none, none, none, none, none] [] σ post
  refine V_run kX7_chanceOf 1 [] (show V 7 MX7_chanceOf 1 [some (vR 6 44), some (vZ c), some (vZ k), some (vZ x), none, none, none, none, none, none] [vR 6 44] σ post from ?_)
  refine V_callV (a := []) (rest := []) kX7_chanceOf rfl oX7_asTold iX7_asTold lk_7_213 rfl rfl rfl (Nat.le_of_ble_eq_true rfl) (Nat.le_of_ble_eq_true rfl) (Nat.le_of_ble_eq_true rfl) (post' := fun zv zσ => V 7 MX7_chanceOf 4 [some (vR 6 44), some (vZ c), some (vZ k), some (vZ x), none, none, none, none, none, none] (zv.toList ++ []) zσ post) (c_M_asTold hR ho (fun σ1 hk1 hc1 hn1 => (show V 7 MX7_chanceOf 4 [some (vR 6 44), some (vZ c), some (vZ k), some (vZ x), none, none, none, none, none, none] [] σ1 post from ?_))) (fun _ _ h => h)
  have loop : ∀ (m : Nat) (i : Int) (a : Nat), 0 ≤ i → i + m = ((2 ^ (a_eN S).toNat : Nat) : Int) → a + m * 16 ^ 8 ≤ 256 * 16 ^ 8 → zSum (aC S) c k m i a = v → ∀ (C2 : zCf) (σ2 : zSt), mKeep σ σ2 → zMc σ2 C2 → (∀ y, cNot C2 y = cNot (aC S) y) → V 7 MX7_chanceOf 10 [some (vR 6 44), some (vZ c), some (vZ k), some (vZ x), some (vL (lN a)), none, some (vZ i), none, none, none] [] σ2 post := by
    intro m
    induction m with
    | zero =>
      intro i a i0 i1 hb he C2 σ2 hk hc hC2
      unfold zSum at he
      subst he
      have e8 := h8 σ2 hk
      refine V_run kX7_chanceOf 4 [] (show V 7 MX7_chanceOf 17 [some (vR 6 44), some (vZ c), some (vZ k), some (vZ x), some (vL (lN a)), none, some (vZ i), none, none, none] [vZ (σ2.1 44 8), vZ 1, vZ i] σ2 post from ?_)
      refine V_top (e8) ?_
      refine V_run kX7_chanceOf 1 [] (show V 7 MX7_chanceOf 18 [some (vR 6 44), some (vZ c), some (vZ k), some (vZ x), some (vL (lN a)), none, some (vZ i), none, none, none] [vZ (zshl 1 (a_eN S)), vZ i] σ2 post from ?_)
      refine V_top (hsh) ?_
      refine V_run kX7_chanceOf 6 [1] (show (zr i ∧ zr ((2 ^ (a_eN S).toNat : Nat) : Int) ∧ ((2 ^ (a_eN S).toNat : Nat) : Int) ≤ i) ∧ V 7 MX7_chanceOf 119 [some (vR 6 44), some (vZ c), some (vZ k), some (vZ x), some (vL (lN a)), none, some (vZ i), none, none, none] [vZ (σ2.1 44 8), vZ 4, vL (1 : Int64), vL (lN a)] σ2 post from ⟨(by omega), ?_⟩)
      refine V_top (e8) ?_
      refine V_run kX7_chanceOf 2 [] (show V 7 MX7_chanceOf 121 [some (vR 6 44), some (vZ c), some (vZ k), some (vZ x), some (vL (lN a)), none, some (vZ i), none, none, none] [vL (zlshl (1 : Int64) (4 * (a_eN S))), vL (lN a)] σ2 post from ?_)
      have hsl : zlshl (1 : Int64) (4 * a_eN S) = lN (2 ^ (4 * a_eN S).toNat) := by
        have z := zlshl_N 1 (a := 4 * a_eN S) (by omega) (by omega)
        rw [Nat.one_mul] at z; exact z
      have h232 : 2 ^ (4 * a_eN S).toNat ≤ 2 ^ 32 := Nat.pow_le_pow_right (by decide) (by omega)
      have hpos : 0 < 2 ^ (4 * a_eN S).toNat := Nat.pow_pos (by decide)
      refine V_topL (hsl) ?_
      refine V_run kX7_chanceOf 1 [] (show V 7 MX7_chanceOf 122 [some (vR 6 44), some (vZ c), some (vZ k), some (vZ x), some (vL (lN a)), none, some (vZ i), none, none, none] [vZ x, vL (lN (2 ^ (4 * a_eN S).toNat)), vL (lN a)] σ2 post from ?_)
      refine V_callS (a := [vL (lN a), vL (lN (2 ^ (4 * a_eN S).toNat)), vZ x]) (rest := []) kX7_chanceOf rfl oX7_lowest iX7_lowest lk_7_301 rfl rfl (Nat.le_of_ble_eq_true rfl) (Nat.le_of_ble_eq_true rfl) (Nat.le_of_ble_eq_true rfl) (post' := fun zv zσ => V 7 MX7_chanceOf 125 [some (vR 6 44), some (vZ c), some (vZ k), some (vZ x), some (vL (lN a)), none, some (vZ i), none, none, none] (zv.toList ++ []) zσ post) (c_M_lowest (by omega) (by omega) hpos (by omega) ((show V 7 MX7_chanceOf 125 [some (vR 6 44), some (vZ c), some (vZ k), some (vZ x), some (vL (lN a)), none, some (vZ i), none, none, none] [vL (zLow a (2 ^ (4 * a_eN S).toNat) x)] σ2 post from ?_))) (fun _ _ h => h)
      exact V_lret kX7_chanceOf rfl rfl (hp σ2 hk (aTp_of hc hC2))
    | succ m ih =>
      intro i a i0 i1 hb he C2 σ2 hk hc hC2
      unfold zSum at he
      have hb2 : a + m * 16 ^ 8 ≤ 256 * 16 ^ 8 := Nat.le_trans (Nat.add_le_add_left (Nat.mul_le_mul_right _ (Nat.le_succ m)) a) hb
      have e8 := h8 σ2 hk
      have hW := zWt_lt (x := i) c0 c1 (n := (cE (aC S)).toNat) (by omega)
      obtain ⟨w9, hw9⟩ : ∃ n : Nat, n = zWt c i (cE (aC S)).toNat 0 1 := ⟨_, rfl⟩
      rw [← hw9] at he hW
      have inner : ∀ (m2 : Nat) (e : Int) (y : Nat), 0 ≤ e → e + m2 = a_eN S → zWt c i m2 e y = w9 → V 7 MX7_chanceOf 27 [some (vR 6 44), some (vZ c), some (vZ k), some (vZ x), some (vL (lN a)), none, some (vZ i), some (vL (lN y)), none, some (vZ e)] [] σ2 post := by
        intro m2
        induction m2 with
        | zero =>
          intro e y e0 e1 hB
          unfold zWt at hB
          subst hB
          refine V_run kX7_chanceOf 3 [] (show V 7 MX7_chanceOf 33 [some (vR 6 44), some (vZ c), some (vZ k), some (vZ x), some (vL (lN a)), none, some (vZ i), some (vL (lN y)), none, some (vZ e)] [vZ (σ2.1 44 8), vZ e] σ2 post from ?_)
          refine V_top (e8) ?_
          refine V_run kX7_chanceOf 4 [1] (show (zr e ∧ zr (a_eN S) ∧ (a_eN S) ≤ e) ∧ V 7 MX7_chanceOf 71 [some (vR 6 44), some (vZ c), some (vZ k), some (vZ x), some (vL (lN a)), none, some (vZ i), some (vL (lN y)), none, some (vZ e)] [vZ (zlcmp (lN y) (0 : Int64))] σ2 post from ⟨(by omega), ?_⟩)
          have hce : 0 < zlcmp (lN y) (0 : Int64) ↔ 0 < y := zlcmp_gt (a := y) (b := 0) (by omega) (by decide)
          have hcr := zcmp_rng (lN y) (0 : Int64)
          obtain ⟨cm, hcm⟩ : ∃ q : Int, q = zlcmp (lN y) (0 : Int64) := ⟨_, rfl⟩
          rw [← hcm] at hce hcr ⊢
          by_cases h1 : y = 0
          · skip
            have h2 : ¬ 0 < cm := fun q => absurd (hce.mp q) (by omega)
            rw [h1, show (if dl (zD (cNot (aC S) i) 23) k = 0 then 0 else 0) = 0 by split <;> rfl, Nat.add_zero] at he
            refine V_run kX7_chanceOf 3 [1] (show (zr cm ∧ cm ≤ 0) ∧ V 7 MX7_chanceOf 10 [some (vR 6 44), some (vZ c), some (vZ k), some (vZ x), some (vL (lN a)), none, some (vZ (i + 1)), some (vL (lN y)), none, some (vZ e)] [] σ2 post from ⟨(by omega), ?_⟩)
            refine V_drop (L := [some (vR 6 44), some (vZ c), some (vZ k), some (vZ x), some (vL (lN a)), none, some (vZ (i + 1)), none, none, none]) ⟨rfl, ⟨rfl, ⟨rfl, ⟨rfl, ⟨rfl, ⟨rfl, trivial⟩⟩⟩⟩⟩⟩ ?_
            exact ih (i + 1) a (by omega) (by omega) hb2 he C2 σ2 hk hc hC2
          · skip
            have h2 : 0 < cm := hce.mpr (by omega)
            have hc3 := zMc_not (x := i) hc
            rw [hC2] at hc3
            have hv3 := zMc_C hc3
            have hk3 := hk.s (j := 16) (v := i) (by decide)
            have hds := (zJ_D hv3 23).2.2.2.2.2.1 k k0 k1
            have hdr := (zJ_D hv3 23).2.2.2.2.2.2.1 k
            refine V_run kX7_chanceOf 5 [0] (show (zr cm ∧ 0 < cm) ∧ V 7 MX7_chanceOf 81 [some (vR 6 44), some (vZ c), some (vZ k), some (vZ x), some (vL (lN a)), none, some (vZ i), some (vL (lN y)), none, some (vZ e)] [vR 6 44] (uI σ2 44 16 i) post from ⟨(by omega), ?_⟩)
            refine V_callV (a := []) (rest := []) kX7_chanceOf rfl oX7_runs iX7_runs lk_7_216 rfl rfl rfl (Nat.le_of_ble_eq_true rfl) (Nat.le_of_ble_eq_true rfl) (Nat.le_of_ble_eq_true rfl) (post' := fun zv zσ => V 7 MX7_chanceOf 84 [some (vR 6 44), some (vZ c), some (vZ k), some (vZ x), some (vL (lN a)), none, some (vZ i), some (vL (lN y)), none, some (vZ e)] (zv.toList ++ []) zσ post) (c_M_runs hc3 (fun σ4 hf4 hm4 hr4 => (show V 7 MX7_chanceOf 84 [some (vR 6 44), some (vZ c), some (vZ k), some (vZ x), some (vL (lN a)), none, some (vZ i), some (vL (lN y)), none, some (vZ e)] [] σ4 post from ?_))) (fun _ _ h => h)
            have go := fun a2 hb2 h2 => ih (i + 1) a2 (by omega) (by omega) hb2 h2 _ σ4 (hk3.tr hf4.k) (zMc_nf hf4 hc3) (fun y => rfl)
            refine V_run kX7_chanceOf 5 [] (show (0 ≤ k ∧ k < 12) ∧ V 7 MX7_chanceOf 92 [some (vR 6 44), some (vZ c), some (vZ k), some (vZ x), some (vL (lN a)), none, some (vZ i), some (vL (lN y)), none, some (vZ e)] [vZ (σ4.1 58 k), vL (lN a)] σ4 post from ⟨(by omega), ?_⟩)
            refine V_top ((hm4.2.2 k k0 (by omega)).1) ?_
            refine V_run kX7_chanceOf 1 [] (show V 7 MX7_chanceOf 93 [some (vR 6 44), some (vZ c), some (vZ k), some (vZ x), some (vL (lN a)), none, some (vZ i), some (vL (lN y)), none, some (vZ e)] [vZ 2, vZ (ds (zD (cNot (aC S) i) 23) k), vL (lN a)] σ4 post from ?_)
            by_cases h3 : dl (zD (cNot (aC S) i) 23) k = 0
            · skip
              have h4 := hds.mpr h3
              rw [if_pos h3] at he
              refine V_run kX7_chanceOf 4 [0] (show (zr (ds (zD (cNot (aC S) i) 23) k) ∧ zr 2 ∧ (ds (zD (cNot (aC S) i) 23) k) = 2) ∧ V 7 MX7_chanceOf 103 [some (vR 6 44), some (vZ c), some (vZ k), some (vZ x), some (vL (lN a)), none, some (vZ i), some (vL (lN y)), none, some (vZ e)] [vL ((lN a) + (lN y))] σ4 post from ⟨(by omega), ?_⟩)
              refine V_topL (lN_add a y) ?_
              refine V_run kX7_chanceOf 3 [] (show V 7 MX7_chanceOf 10 [some (vR 6 44), some (vZ c), some (vZ k), some (vZ x), some (vL (lN (a + y))), none, some (vZ (i + 1)), some (vL (lN y)), none, some (vZ e)] [] σ4 post from ?_)
              refine V_drop (L := [some (vR 6 44), some (vZ c), some (vZ k), some (vZ x), some (vL (lN (a + y))), none, some (vZ (i + 1)), none, none, none]) ⟨rfl, ⟨rfl, ⟨rfl, ⟨rfl, ⟨rfl, ⟨rfl, trivial⟩⟩⟩⟩⟩⟩ ?_
              exact go _ (by omega) he
            · skip
              have h4 : ¬ ds (zD (cNot (aC S) i) 23) k = 2 := fun q => h3 (hds.mp q)
              rw [if_neg h3] at he
              refine V_run kX7_chanceOf 3 [1] (show (zr (ds (zD (cNot (aC S) i) 23) k) ∧ zr 2 ∧ ¬ (ds (zD (cNot (aC S) i) 23) k) = 2) ∧ V 7 MX7_chanceOf 103 [some (vR 6 44), some (vZ c), some (vZ k), some (vZ x), some (vL (lN a)), none, some (vZ i), some (vL (lN y)), none, some (vZ e)] [vL ((lN a) + (0 : Int64))] σ4 post from ⟨(by omega), ?_⟩)
              refine V_topL (show lN a + lN 0 = _ from lN_add a 0) ?_
              refine V_run kX7_chanceOf 3 [] (show V 7 MX7_chanceOf 10 [some (vR 6 44), some (vZ c), some (vZ k), some (vZ x), some (vL (lN (a + 0))), none, some (vZ (i + 1)), some (vL (lN y)), none, some (vZ e)] [] σ4 post from ?_)
              refine V_drop (L := [some (vR 6 44), some (vZ c), some (vZ k), some (vZ x), some (vL (lN (a + 0))), none, some (vZ (i + 1)), none, none, none]) ⟨rfl, ⟨rfl, ⟨rfl, ⟨rfl, ⟨rfl, ⟨rfl, trivial⟩⟩⟩⟩⟩⟩ ?_
              exact go _ hb2 he
        | succ m2 ihB =>
          intro e y e0 e1 hB
          unfold zWt at hB
          refine V_run kX7_chanceOf 3 [] (show V 7 MX7_chanceOf 33 [some (vR 6 44), some (vZ c), some (vZ k), some (vZ x), some (vL (lN a)), none, some (vZ i), some (vL (lN y)), none, some (vZ e)] [vZ (σ2.1 44 8), vZ e] σ2 post from ?_)
          refine V_top (e8) ?_
          refine V_run kX7_chanceOf 4 [0] (show (zr e ∧ zr (a_eN S) ∧ e < (a_eN S)) ∧ V 7 MX7_chanceOf 42 [some (vR 6 44), some (vZ c), some (vZ k), some (vZ x), some (vL (lN a)), none, some (vZ i), some (vL (lN y)), none, some (vZ e)] [vZ e, vZ i, vL (lN y)] σ2 post from ⟨(by omega), ?_⟩)
          refine V_callS (a := [vZ i, vZ e]) (rest := [vL (lN y)]) kX7_chanceOf rfl oX7_isIn iX7_isIn lk_7_197 rfl rfl (Nat.le_of_ble_eq_true rfl) (Nat.le_of_ble_eq_true rfl) (Nat.le_of_ble_eq_true rfl) (post' := fun zv zσ => V 7 MX7_chanceOf 45 [some (vR 6 44), some (vZ c), some (vZ k), some (vZ x), some (vL (lN a)), none, some (vZ i), some (vL (lN y)), none, some (vZ e)] (zv.toList ++ [vL (lN y)]) zσ post) (c_M_isIn e0 (by omega) ((show V 7 MX7_chanceOf 45 [some (vR 6 44), some (vZ c), some (vZ k), some (vZ x), some (vL (lN a)), none, some (vZ i), some (vL (lN y)), none, some (vZ e)] [vZ (if zbt i e = true then 1 else 0), vL (lN y)] σ2 post from ?_))) (fun _ _ h => h)
          by_cases h1 : zbt i e = true
          · skip
            rw [if_pos h1] at hB
            refine V_top (if_pos h1) ?_
            refine V_run kX7_chanceOf 6 [0] (show (zr 1 ∧ ¬ 1 = 0) ∧ V 7 MX7_chanceOf 58 [some (vR 6 44), some (vZ c), some (vZ k), some (vZ x), some (vL (lN a)), none, some (vZ i), some (vL (lN y)), none, some (vZ e)] [vL (zi2l (16 - c)), vL (lN y)] σ2 post from ⟨(by omega), ?_⟩)
            refine V_topL (zi2l_N (show zr (16 - c) from ⟨by omega, by omega⟩) (by omega)) ?_
            refine V_run kX7_chanceOf 1 [] (show V 7 MX7_chanceOf 59 [some (vR 6 44), some (vZ c), some (vZ k), some (vZ x), some (vL (lN a)), none, some (vZ i), some (vL (lN y)), none, some (vZ e)] [vL ((lN y) * (lN (16 - c).toNat))] σ2 post from ?_)
            refine V_topL (lN_mul _ _) ?_
            refine V_run kX7_chanceOf 3 [] (show V 7 MX7_chanceOf 27 [some (vR 6 44), some (vZ c), some (vZ k), some (vZ x), some (vL (lN a)), none, some (vZ i), some (vL (lN (y * (16 - c).toNat))), none, some (vZ (e + 1))] [] σ2 post from ?_)
            exact ihB (e + 1) _ (by omega) (by omega) hB
          · skip
            rw [if_neg h1] at hB
            refine V_top (if_neg h1) ?_
            refine V_run kX7_chanceOf 3 [1] (show (zr 0 ∧ 0 = 0) ∧ V 7 MX7_chanceOf 58 [some (vR 6 44), some (vZ c), some (vZ k), some (vZ x), some (vL (lN a)), none, some (vZ i), some (vL (lN y)), none, some (vZ e)] [vL (zi2l c), vL (lN y)] σ2 post from ⟨(by omega), ?_⟩)
            refine V_topL (zi2l_N (show zr c from ⟨by omega, by omega⟩) (by omega)) ?_
            refine V_run kX7_chanceOf 1 [] (show V 7 MX7_chanceOf 59 [some (vR 6 44), some (vZ c), some (vZ k), some (vZ x), some (vL (lN a)), none, some (vZ i), some (vL (lN y)), none, some (vZ e)] [vL ((lN y) * (lN c.toNat))] σ2 post from ?_)
            refine V_topL (lN_mul _ _) ?_
            refine V_run kX7_chanceOf 3 [] (show V 7 MX7_chanceOf 27 [some (vR 6 44), some (vZ c), some (vZ k), some (vZ x), some (vL (lN a)), none, some (vZ i), some (vL (lN (y * c.toNat))), none, some (vZ (e + 1))] [] σ2 post from ?_)
            exact ihB (e + 1) _ (by omega) (by omega) hB
      refine V_run kX7_chanceOf 4 [] (show V 7 MX7_chanceOf 17 [some (vR 6 44), some (vZ c), some (vZ k), some (vZ x), some (vL (lN a)), none, some (vZ i), none, none, none] [vZ (σ2.1 44 8), vZ 1, vZ i] σ2 post from ?_)
      refine V_top (e8) ?_
      refine V_run kX7_chanceOf 1 [] (show V 7 MX7_chanceOf 18 [some (vR 6 44), some (vZ c), some (vZ k), some (vZ x), some (vL (lN a)), none, some (vZ i), none, none, none] [vZ (zshl 1 (a_eN S)), vZ i] σ2 post from ?_)
      refine V_top (hsh) ?_
      refine V_run kX7_chanceOf 5 [0] (show (zr i ∧ zr ((2 ^ (a_eN S).toNat : Nat) : Int) ∧ i < ((2 ^ (a_eN S).toNat : Nat) : Int)) ∧ V 7 MX7_chanceOf 27 [some (vR 6 44), some (vZ c), some (vZ k), some (vZ x), some (vL (lN a)), none, some (vZ i), some (vL (1 : Int64)), none, some (vZ 0)] [] σ2 post from ⟨(by omega), ?_⟩)
      exact inner (a_eN S).toNat 0 1 (by omega) (by omega) hw9.symm
  refine V_run kX7_chanceOf 4 [] (show V 7 MX7_chanceOf 10 [some (vR 6 44), some (vZ c), some (vZ k), some (vZ x), some (vL (0 : Int64)), none, some (vZ 0), none, none, none] [] σ1 post from ?_)
  exact loop (2 ^ (a_eN S).toNat) 0 0 (by omega) (by omega) (by omega) hv.symm (aC S) σ1 hk1 hc1 (fun _ => rfl)
