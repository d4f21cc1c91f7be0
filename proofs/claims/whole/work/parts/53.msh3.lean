def aCopyS (S : zAb) (s i t j n : Int) : zAb := (a_pN S, a_pF S, a_wN S, a_wF S, a_eN S, a_eK S, a_eM S, a_eP S, a_sN S, a_sM S, a_sP S, a_sW S, a_hF S, a_hN S, fun a q => if a = t ∧ j ≤ q ∧ q < j + n then a_hI S s (i + q - j) else a_hI S a q, a_fnd S)
def aWriteS (S : zAb) (t s n : Int) : zAb := (a_pN S, a_pF S, a_wN S, a_wF S, a_eN S, a_eK S, a_eM S, a_eP S, a_sN S, a_sM S, a_sP S, a_sW S, a_hF S, a_hN S, fun a q => if a = s ∧ 0 ≤ q ∧ q < n then zCut (a_hF S s) (zWho (aC S) t q) else a_hI S a q, a_fnd S)
def zMin12 (n : Int) : Int := if n < 12 then n else 12
def tCopy (S : zAb) (s i t j n : Int) : zAb × Int := if (0 ≤ s ∧ s ≤ 3) ∧ 0 ≤ t ∧ t ≤ 3 then (if a_hF S s = -1 ∨ a_hF S t = -1 then (aFndS S 1, -11) else if ¬ a_hF S s = a_hF S t then (aFndS S 4, -14) else if (0 ≤ i ∧ 0 ≤ j ∧ 0 ≤ n) ∧ i + n ≤ a_hN S s ∧ j + n ≤ a_hN S t then (aCopyS S s i t j n, 1) else (aFndS S 2, -12)) else (S, -2)
def tWrite (S : zAb) (t s : Int) : zAb × Int := if (0 ≤ t ∧ t ≤ 23) ∧ 0 ≤ s ∧ s ≤ 3 then (if a_hF S s = -1 then (aFndS S 1, -11) else (aWriteS S t s (zMin12 (a_hN S s)), zMin12 (a_hN S s))) else (S, -2)
theorem aCopy_0 {S : zAb} {s i t j : Int} : aCopyS S s i t j 0 = S := by
  have e : (fun a q => if a = t ∧ j ≤ q ∧ q < j + 0 then a_hI S s (i + q - j) else a_hI S a q) = a_hI S := by
    funext a q; rw [if_neg (by omega)]
  unfold aCopyS; rw [e]
theorem aCopy_s {S : zAb} {s i t j k : Int} (k0 : 0 ≤ k) : aItemS (aCopyS S s i t j k) t (j + k) (a_hI S s (i + k)) = aCopyS S s i t j (k + 1) := by
  have e : (fun a q => if a = t ∧ q = j + k then a_hI S s (i + k) else if a = t ∧ j ≤ q ∧ q < j + k then a_hI S s (i + q - j) else a_hI S a q) = (fun a q => if a = t ∧ j ≤ q ∧ q < j + (k + 1) then a_hI S s (i + q - j) else a_hI S a q) := by
    funext a q
    by_cases z : a = t ∧ q = j + k
    · rw [if_pos z, if_pos (by omega), show i + q - j = i + k by omega]
    · rw [if_neg z]
      by_cases z2 : a = t ∧ j ≤ q ∧ q < j + k
      · rw [if_pos z2, if_pos (by omega)]
      · rw [if_neg z2, if_neg (by omega)]
  show (_, _, _, _, _, _, _, _, _, _, _, _, _, _, (fun a q => if a = t ∧ q = j + k then a_hI S s (i + k) else if a = t ∧ j ≤ q ∧ q < j + k then a_hI S s (i + q - j) else a_hI S a q), _) = _
  rw [e]; rfl
theorem aWrite_0 {S : zAb} {t s : Int} : aWriteS S t s 0 = S := by
  have e : (fun a q => if a = s ∧ 0 ≤ q ∧ q < 0 then zCut (a_hF S s) (zWho (aC S) t q) else a_hI S a q) = a_hI S := by
    funext a q; rw [if_neg (by omega)]
  unfold aWriteS; rw [e]
theorem aWrite_s {S : zAb} {t s k : Int} (k0 : 0 ≤ k) : aItemS (aWriteS S t s k) s k (zCut (a_hF S s) (zWho (aC S) t k)) = aWriteS S t s (k + 1) := by
  have e : (fun a q => if a = s ∧ q = k then zCut (a_hF S s) (zWho (aC S) t k) else if a = s ∧ 0 ≤ q ∧ q < k then zCut (a_hF S s) (zWho (aC S) t q) else a_hI S a q) = (fun a q => if a = s ∧ 0 ≤ q ∧ q < k + 1 then zCut (a_hF S s) (zWho (aC S) t q) else a_hI S a q) := by
    funext a q
    by_cases z : a = s ∧ q = k
    · rw [if_pos z, if_pos (by omega), z.2]
    · rw [if_neg z]
      by_cases z2 : a = s ∧ 0 ≤ q ∧ q < k
      · rw [if_pos z2, if_pos (by omega)]
      · rw [if_neg z2, if_neg (by omega)]
  show (_, _, _, _, _, _, _, _, _, _, _, _, _, _, (fun a q => if a = s ∧ q = k then zCut (a_hF S s) (zWho (aC S) t k) else if a = s ∧ 0 ≤ q ∧ q < k then zCut (a_hF S s) (zWho (aC S) t q) else a_hI S a q), _) = _
  rw [e]; rfl
theorem zi2b_r (v : Int) : zr (zi2b v) := by
  unfold zi2b
  have h1 := Int32.le_toInt (Int32.ofInt v).toInt8.toInt32
  have h2 := Int32.toInt_lt (Int32.ofInt v).toInt8.toInt32
  constructor <;> omega
theorem zi2s_r (v : Int) : zr (zi2s v) := by
  unfold zi2s
  have h1 := Int32.le_toInt (Int32.ofInt v).toInt16.toInt32
  have h2 := Int32.toInt_lt (Int32.ofInt v).toInt16.toInt32
  constructor <;> omega
theorem zCut_r {f v : Int} (h : zr v) : zr (zCut f v) := by
  unfold zCut
  split
  · exact zi2b_r v
  · split
    · exact zi2s_r v
    · exact h
theorem aOk_item {S : zAb} {s i v : Int} (ho : aOk S) (hv : zr v) : aOk (aItemS S s i v) := by
  obtain ⟨h1, h2, h3, h4, h5⟩ := ho
  refine ⟨h1, h2, h3, h4, fun a a0 a1 => ?_⟩
  obtain ⟨q1, q2, q3, q4⟩ := h5 a a0 a1
  refine ⟨q1, q2, q3, fun j j0 j1 => ?_⟩
  show zr (if a = s ∧ j = i then v else a_hI S a j)
  split
  · exact hv
  · exact q4 j j0 j1
theorem RM_74 {σ : zSt} {S : zAb} {j v : Int} (hR : RM σ S) : RM (uI σ 74 j v) S := RM_k (mKeep.rf.u (Or.inr (Or.inr rfl))) hR
theorem zi2l_gt {a b N : Int} (a0 : 0 ≤ a) (ha : zr a) (b0 : 0 ≤ b) (hb : zr b) (n0 : 0 ≤ N) (hN : zr N) : 0 < zlcmp (zi2l a + zi2l b) (zi2l N) ↔ N < a + b := by
  rw [zi2l_N ha a0, zi2l_N hb b0, zi2l_N hN n0, lN_add, zlcmp_gt (by omega) (by omega)]
  omega
set_option maxHeartbeats 8000000 in
set_option maxRecDepth 100000 in
/-- copy -/
theorem c_M_copy {s i t j n : Int} {S : zAb} {σ : zSt} {post : Option VV → zSt → Prop} (hR : RM σ S) (ho : aOk S) (hs : zr s) (hi : zr i) (ht : zr t) (hj : zr j) (hn : zr n) (hp : ∀ σ', cKeep σ σ' → RM σ' (tCopy S s i t j n).1 → post (some (vZ (tCopy S s i t j n).2)) σ') : Mc 2 MX7_copy [vR 6 44, vZ s, vZ i, vZ t, vZ j, vZ n] σ post := by
  unfold tCopy at hp
  show V 2 MX7_copy 0 [some (vR 6 44), some (vZ s), some (vZ i), some (vZ t), some (vZ j), some (vZ n), none] [] σ post
  refine V_run kX7_copy 1 [] (show V 2 MX7_copy 1 [some (vR 6 44), some (vZ s), some (vZ i), some (vZ t), some (vZ j), some (vZ n), none] [vZ s] σ post from ?_)
  refine V_callS (a := [vZ s]) (rest := []) kX7_copy rfl oX7_isSheet iX7_isSheet lk_7_164 rfl rfl (Nat.le_of_ble_eq_true rfl) (Nat.le_of_ble_eq_true rfl) (Nat.le_of_ble_eq_true rfl) (post' := fun zv zσ => V 2 MX7_copy 4 [some (vR 6 44), some (vZ s), some (vZ i), some (vZ t), some (vZ j), some (vZ n), none] (zv.toList ++ []) zσ post) (c_M_isSheet (by omega) ((show V 2 MX7_copy 4 [some (vR 6 44), some (vZ s), some (vZ i), some (vZ t), some (vZ j), some (vZ n), none] [vZ (if 0 ≤ s ∧ s ≤ 3 then 1 else 0)] σ post from ?_))) (fun _ _ h => h)
  by_cases h1 : 0 ≤ s ∧ s ≤ 3
  rotate_left
  · skip
    refine V_top (if_neg h1) ?_
    refine V_run kX7_copy 2 [1] (show (zr 0 ∧ 0 = 0) ∧ V 2 MX7_copy 16 [some (vR 6 44), some (vZ s), some (vZ i), some (vZ t), some (vZ j), some (vZ n), none] [vZ (-2)] σ post from ⟨(by omega), ?_⟩)
    rw [if_neg (fun q => h1 q.1)] at hp
    exact V_iret kX7_copy rfl rfl (hp σ cKeep.rf hR)
  refine V_top (if_pos h1) ?_
  refine V_run kX7_copy 2 [0] (show (zr 1 ∧ ¬ 1 = 0) ∧ V 2 MX7_copy 8 [some (vR 6 44), some (vZ s), some (vZ i), some (vZ t), some (vZ j), some (vZ n), none] [vZ t] σ post from ⟨(by omega), ?_⟩)
  refine V_callS (a := [vZ t]) (rest := []) kX7_copy rfl oX7_isSheet iX7_isSheet lk_7_164 rfl rfl (Nat.le_of_ble_eq_true rfl) (Nat.le_of_ble_eq_true rfl) (Nat.le_of_ble_eq_true rfl) (post' := fun zv zσ => V 2 MX7_copy 11 [some (vR 6 44), some (vZ s), some (vZ i), some (vZ t), some (vZ j), some (vZ n), none] (zv.toList ++ []) zσ post) (c_M_isSheet (by omega) ((show V 2 MX7_copy 11 [some (vR 6 44), some (vZ s), some (vZ i), some (vZ t), some (vZ j), some (vZ n), none] [vZ (if 0 ≤ t ∧ t ≤ 3 then 1 else 0)] σ post from ?_))) (fun _ _ h => h)
  by_cases h2 : 0 ≤ t ∧ t ≤ 3
  rotate_left
  · skip
    refine V_top (if_neg h2) ?_
    refine V_run kX7_copy 2 [0] (show (zr 0 ∧ 0 = 0) ∧ V 2 MX7_copy 16 [some (vR 6 44), some (vZ s), some (vZ i), some (vZ t), some (vZ j), some (vZ n), none] [vZ (-2)] σ post from ⟨(by omega), ?_⟩)
    rw [if_neg (fun q => h2 q.2)] at hp
    exact V_iret kX7_copy rfl rfl (hp σ cKeep.rf hR)
  refine V_top (if_pos h2) ?_
  refine V_run kX7_copy 5 [1] (show (zr 1 ∧ ¬ 1 = 0) ∧ (0 ≤ s ∧ s < 4) ∧ V 2 MX7_copy 23 [some (vR 6 44), some (vZ s), some (vZ i), some (vZ t), some (vZ j), some (vZ n), none] [vZ (σ.1 70 s)] σ post from ⟨(by omega), (by omega), ?_⟩)
  rw [if_pos ⟨h1, h2⟩] at hp
  have hs := hR.2.2.2.2.1 s h1.1 (by omega)
  have ht := hR.2.2.2.2.1 t h2.1 (by omega)
  have os := ho.2.2.2.2 s h1.1 (by omega)
  have ot := ho.2.2.2.2 t h2.1 (by omega)
  refine V_top (hs.1) ?_
  by_cases h3 : a_hF S s = -1
  · skip
    rw [if_pos (Or.inl h3)] at hp
    refine V_top (if_pos h3) ?_
    refine V_run kX7_copy 3 [1] (show (zr 0 ∧ 0 = 0) ∧ V 2 MX7_copy 37 [some (vR 6 44), some (vZ s), some (vZ i), some (vZ t), some (vZ j), some (vZ n), none] [vZ 1, vR 6 44] σ post from ⟨(by omega), ?_⟩)
    refine V_callV (a := [vZ 1]) (rest := []) kX7_copy rfl oX7_meets iX7_meets lk_7_167 rfl rfl rfl (Nat.le_of_ble_eq_true rfl) (Nat.le_of_ble_eq_true rfl) (Nat.le_of_ble_eq_true rfl) (post' := fun zv zσ => V 2 MX7_copy 40 [some (vR 6 44), some (vZ s), some (vZ i), some (vZ t), some (vZ j), some (vZ n), none] (zv.toList ++ []) zσ post) (c_M_meets ((show V 2 MX7_copy 40 [some (vR 6 44), some (vZ s), some (vZ i), some (vZ t), some (vZ j), some (vZ n), none] [vZ (-10 - 1)] (uI σ 44 39 1) post from ?_))) (fun _ _ h => h)
    exact V_iret kX7_copy rfl rfl (hp _ (cK_44 (by decide)) (RM_fnd hR))
  · skip
    refine V_top (if_neg h3) ?_
    refine V_run kX7_copy 5 [0] (show (zr 1 ∧ ¬ 1 = 0) ∧ (0 ≤ t ∧ t < 4) ∧ V 2 MX7_copy 32 [some (vR 6 44), some (vZ s), some (vZ i), some (vZ t), some (vZ j), some (vZ n), none] [vZ (σ.1 70 t)] σ post from ⟨(by omega), (by omega), ?_⟩)
    refine V_top (ht.1) ?_
    by_cases h4 : a_hF S t = -1
    · skip
      rw [if_pos (Or.inr h4)] at hp
      refine V_top (if_pos h4) ?_
      refine V_run kX7_copy 3 [0] (show (zr 0 ∧ 0 = 0) ∧ V 2 MX7_copy 37 [some (vR 6 44), some (vZ s), some (vZ i), some (vZ t), some (vZ j), some (vZ n), none] [vZ 1, vR 6 44] σ post from ⟨(by omega), ?_⟩)
      refine V_callV (a := [vZ 1]) (rest := []) kX7_copy rfl oX7_meets iX7_meets lk_7_167 rfl rfl rfl (Nat.le_of_ble_eq_true rfl) (Nat.le_of_ble_eq_true rfl) (Nat.le_of_ble_eq_true rfl) (post' := fun zv zσ => V 2 MX7_copy 40 [some (vR 6 44), some (vZ s), some (vZ i), some (vZ t), some (vZ j), some (vZ n), none] (zv.toList ++ []) zσ post) (c_M_meets ((show V 2 MX7_copy 40 [some (vR 6 44), some (vZ s), some (vZ i), some (vZ t), some (vZ j), some (vZ n), none] [vZ (-10 - 1)] (uI σ 44 39 1) post from ?_))) (fun _ _ h => h)
      exact V_iret kX7_copy rfl rfl (hp _ (cK_44 (by decide)) (RM_fnd hR))
    · skip
      rw [if_neg (fun q => q.elim h3 h4)] at hp
      refine V_top (if_neg h4) ?_
      refine V_run kX7_copy 5 [1] (show (zr 1 ∧ ¬ 1 = 0) ∧ (0 ≤ s ∧ s < 4) ∧ V 2 MX7_copy 47 [some (vR 6 44), some (vZ s), some (vZ i), some (vZ t), some (vZ j), some (vZ n), none] [vZ (σ.1 71 s)] σ post from ⟨(by omega), (by omega), ?_⟩)
      refine V_top ((hs.2 h3).1) ?_
      refine V_run kX7_copy 4 [] (show (0 ≤ t ∧ t < 4) ∧ V 2 MX7_copy 53 [some (vR 6 44), some (vZ s), some (vZ i), some (vZ t), some (vZ j), some (vZ n), none] [vZ (σ.1 71 t), vZ (a_hF S s)] σ post from ⟨(by omega), ?_⟩)
      refine V_top ((ht.2 h4).1) ?_
      by_cases h5 : a_hF S s = a_hF S t
      rotate_left
      · skip
        rw [if_pos h5] at hp
        refine V_run kX7_copy 3 [0] (show (zr (a_hF S s) ∧ zr (a_hF S t) ∧ ¬ (a_hF S s) = (a_hF S t)) ∧ V 2 MX7_copy 58 [some (vR 6 44), some (vZ s), some (vZ i), some (vZ t), some (vZ j), some (vZ n), none] [vZ 4, vR 6 44] σ post from ⟨(by omega), ?_⟩)
        refine V_callV (a := [vZ 4]) (rest := []) kX7_copy rfl oX7_meets iX7_meets lk_7_167 rfl rfl rfl (Nat.le_of_ble_eq_true rfl) (Nat.le_of_ble_eq_true rfl) (Nat.le_of_ble_eq_true rfl) (post' := fun zv zσ => V 2 MX7_copy 61 [some (vR 6 44), some (vZ s), some (vZ i), some (vZ t), some (vZ j), some (vZ n), none] (zv.toList ++ []) zσ post) (c_M_meets ((show V 2 MX7_copy 61 [some (vR 6 44), some (vZ s), some (vZ i), some (vZ t), some (vZ j), some (vZ n), none] [vZ (-10 - 4)] (uI σ 44 39 4) post from ?_))) (fun _ _ h => h)
        exact V_iret kX7_copy rfl rfl (hp _ (cK_44 (by decide)) (RM_fnd hR))
      rw [if_neg (fun q => q h5)] at hp
      refine V_run kX7_copy 2 [1] (show (zr (a_hF S s) ∧ zr (a_hF S t) ∧ (a_hF S s) = (a_hF S t)) ∧ V 2 MX7_copy 63 [some (vR 6 44), some (vZ s), some (vZ i), some (vZ t), some (vZ j), some (vZ n), none] [vZ i] σ post from ⟨(by omega), ?_⟩)
      rcases Int.lt_or_le i 0 with h6 | h6
      · skip
        refine V_run kX7_copy 3 [1] (show (zr i ∧ i < 0) ∧ V 2 MX7_copy 113 [some (vR 6 44), some (vZ s), some (vZ i), some (vZ t), some (vZ j), some (vZ n), none] [vZ 2, vR 6 44] σ post from ⟨(by omega), ?_⟩)
        rw [if_neg (by omega)] at hp
        refine V_callV (a := [vZ 2]) (rest := []) kX7_copy rfl oX7_meets iX7_meets lk_7_167 rfl rfl rfl (Nat.le_of_ble_eq_true rfl) (Nat.le_of_ble_eq_true rfl) (Nat.le_of_ble_eq_true rfl) (post' := fun zv zσ => V 2 MX7_copy 116 [some (vR 6 44), some (vZ s), some (vZ i), some (vZ t), some (vZ j), some (vZ n), none] (zv.toList ++ []) zσ post) (c_M_meets ((show V 2 MX7_copy 116 [some (vR 6 44), some (vZ s), some (vZ i), some (vZ t), some (vZ j), some (vZ n), none] [vZ (-10 - 2)] (uI σ 44 39 2) post from ?_))) (fun _ _ h => h)
        exact V_iret kX7_copy rfl rfl (hp _ (cK_44 (by decide)) (RM_fnd hR))
      · skip
        refine V_run kX7_copy 2 [0] (show (zr i ∧ 0 ≤ i) ∧ V 2 MX7_copy 68 [some (vR 6 44), some (vZ s), some (vZ i), some (vZ t), some (vZ j), some (vZ n), none] [vZ j] σ post from ⟨(by omega), ?_⟩)
        rcases Int.lt_or_le j 0 with h7 | h7
        · skip
          refine V_run kX7_copy 3 [1] (show (zr j ∧ j < 0) ∧ V 2 MX7_copy 113 [some (vR 6 44), some (vZ s), some (vZ i), some (vZ t), some (vZ j), some (vZ n), none] [vZ 2, vR 6 44] σ post from ⟨(by omega), ?_⟩)
          rw [if_neg (by omega)] at hp
          refine V_callV (a := [vZ 2]) (rest := []) kX7_copy rfl oX7_meets iX7_meets lk_7_167 rfl rfl rfl (Nat.le_of_ble_eq_true rfl) (Nat.le_of_ble_eq_true rfl) (Nat.le_of_ble_eq_true rfl) (post' := fun zv zσ => V 2 MX7_copy 116 [some (vR 6 44), some (vZ s), some (vZ i), some (vZ t), some (vZ j), some (vZ n), none] (zv.toList ++ []) zσ post) (c_M_meets ((show V 2 MX7_copy 116 [some (vR 6 44), some (vZ s), some (vZ i), some (vZ t), some (vZ j), some (vZ n), none] [vZ (-10 - 2)] (uI σ 44 39 2) post from ?_))) (fun _ _ h => h)
          exact V_iret kX7_copy rfl rfl (hp _ (cK_44 (by decide)) (RM_fnd hR))
        · skip
          refine V_run kX7_copy 2 [0] (show (zr j ∧ 0 ≤ j) ∧ V 2 MX7_copy 73 [some (vR 6 44), some (vZ s), some (vZ i), some (vZ t), some (vZ j), some (vZ n), none] [vZ n] σ post from ⟨(by omega), ?_⟩)
          rcases Int.lt_or_le n 0 with h8 | h8
          · skip
            refine V_run kX7_copy 3 [1] (show (zr n ∧ n < 0) ∧ V 2 MX7_copy 113 [some (vR 6 44), some (vZ s), some (vZ i), some (vZ t), some (vZ j), some (vZ n), none] [vZ 2, vR 6 44] σ post from ⟨(by omega), ?_⟩)
            rw [if_neg (by omega)] at hp
            refine V_callV (a := [vZ 2]) (rest := []) kX7_copy rfl oX7_meets iX7_meets lk_7_167 rfl rfl rfl (Nat.le_of_ble_eq_true rfl) (Nat.le_of_ble_eq_true rfl) (Nat.le_of_ble_eq_true rfl) (post' := fun zv zσ => V 2 MX7_copy 116 [some (vR 6 44), some (vZ s), some (vZ i), some (vZ t), some (vZ j), some (vZ n), none] (zv.toList ++ []) zσ post) (c_M_meets ((show V 2 MX7_copy 116 [some (vR 6 44), some (vZ s), some (vZ i), some (vZ t), some (vZ j), some (vZ n), none] [vZ (-10 - 2)] (uI σ 44 39 2) post from ?_))) (fun _ _ h => h)
            exact V_iret kX7_copy rfl rfl (hp _ (cK_44 (by decide)) (RM_fnd hR))
          · skip
            refine V_run kX7_copy 10 [0] (show (zr n ∧ 0 ≤ n) ∧ (0 ≤ s ∧ s < 4) ∧ V 2 MX7_copy 88 [some (vR 6 44), some (vZ s), some (vZ i), some (vZ t), some (vZ j), some (vZ n), none] [vZ (σ.1 72 s), vL ((zi2l i) + (zi2l n))] σ post from ⟨(by omega), (by omega), ?_⟩)
            refine V_top ((hs.2 h3).2.1) ?_
            refine V_run kX7_copy 2 [] (show V 2 MX7_copy 90 [some (vR 6 44), some (vZ s), some (vZ i), some (vZ t), some (vZ j), some (vZ n), none] [vZ (zlcmp ((zi2l i) + (zi2l n)) (zi2l (a_hN S s)))] σ post from ?_)
            have hce90 : 0 < zlcmp (zi2l i + zi2l n) (zi2l (a_hN S s)) ↔ a_hN S s < i + n := zi2l_gt (by omega) (by omega) (by omega) (by omega) (by omega) (by omega)
            have hcr90 := zcmp_rng (zi2l i + zi2l n) (zi2l (a_hN S s))
            obtain ⟨cm90, hcm90⟩ : ∃ q : Int, q = zlcmp (zi2l i + zi2l n) (zi2l (a_hN S s)) := ⟨_, rfl⟩
            rw [← hcm90] at hce90 hcr90 ⊢
            by_cases h9 : i + n ≤ a_hN S s
            rotate_left
            · skip
              have z : 0 < cm90 := hce90.mpr (by omega)
              refine V_run kX7_copy 1 [1] (show (zr cm90 ∧ 0 < cm90) ∧ V 2 MX7_copy 111 [some (vR 6 44), some (vZ s), some (vZ i), some (vZ t), some (vZ j), some (vZ n), none] [] σ post from ⟨(by omega), ?_⟩)
              rw [if_neg (by omega)] at hp
              refine V_run kX7_copy 2 [] (show V 2 MX7_copy 113 [some (vR 6 44), some (vZ s), some (vZ i), some (vZ t), some (vZ j), some (vZ n), none] [vZ 2, vR 6 44] σ post from ?_)
              refine V_callV (a := [vZ 2]) (rest := []) kX7_copy rfl oX7_meets iX7_meets lk_7_167 rfl rfl rfl (Nat.le_of_ble_eq_true rfl) (Nat.le_of_ble_eq_true rfl) (Nat.le_of_ble_eq_true rfl) (post' := fun zv zσ => V 2 MX7_copy 116 [some (vR 6 44), some (vZ s), some (vZ i), some (vZ t), some (vZ j), some (vZ n), none] (zv.toList ++ []) zσ post) (c_M_meets ((show V 2 MX7_copy 116 [some (vR 6 44), some (vZ s), some (vZ i), some (vZ t), some (vZ j), some (vZ n), none] [vZ (-10 - 2)] (uI σ 44 39 2) post from ?_))) (fun _ _ h => h)
              exact V_iret kX7_copy rfl rfl (hp _ (cK_44 (by decide)) (RM_fnd hR))
            have z90 : ¬ 0 < cm90 := fun q => absurd (hce90.mp q) (by omega)
            refine V_run kX7_copy 10 [0] (show (zr cm90 ∧ cm90 ≤ 0) ∧ (0 ≤ t ∧ t < 4) ∧ V 2 MX7_copy 106 [some (vR 6 44), some (vZ s), some (vZ i), some (vZ t), some (vZ j), some (vZ n), none] [vZ (σ.1 72 t), vL ((zi2l j) + (zi2l n))] σ post from ⟨(by omega), (by omega), ?_⟩)
            refine V_top ((ht.2 h4).2.1) ?_
            refine V_run kX7_copy 2 [] (show V 2 MX7_copy 108 [some (vR 6 44), some (vZ s), some (vZ i), some (vZ t), some (vZ j), some (vZ n), none] [vZ (zlcmp ((zi2l j) + (zi2l n)) (zi2l (a_hN S t)))] σ post from ?_)
            have hce108 : 0 < zlcmp (zi2l j + zi2l n) (zi2l (a_hN S t)) ↔ a_hN S t < j + n := zi2l_gt (by omega) (by omega) (by omega) (by omega) (by omega) (by omega)
            have hcr108 := zcmp_rng (zi2l j + zi2l n) (zi2l (a_hN S t))
            obtain ⟨cm108, hcm108⟩ : ∃ q : Int, q = zlcmp (zi2l j + zi2l n) (zi2l (a_hN S t)) := ⟨_, rfl⟩
            rw [← hcm108] at hce108 hcr108 ⊢
            by_cases h10 : j + n ≤ a_hN S t
            rotate_left
            · skip
              have z : 0 < cm108 := hce108.mpr (by omega)
              refine V_run kX7_copy 1 [0] (show (zr cm108 ∧ 0 < cm108) ∧ V 2 MX7_copy 111 [some (vR 6 44), some (vZ s), some (vZ i), some (vZ t), some (vZ j), some (vZ n), none] [] σ post from ⟨(by omega), ?_⟩)
              rw [if_neg (by omega)] at hp
              refine V_run kX7_copy 2 [] (show V 2 MX7_copy 113 [some (vR 6 44), some (vZ s), some (vZ i), some (vZ t), some (vZ j), some (vZ n), none] [vZ 2, vR 6 44] σ post from ?_)
              refine V_callV (a := [vZ 2]) (rest := []) kX7_copy rfl oX7_meets iX7_meets lk_7_167 rfl rfl rfl (Nat.le_of_ble_eq_true rfl) (Nat.le_of_ble_eq_true rfl) (Nat.le_of_ble_eq_true rfl) (post' := fun zv zσ => V 2 MX7_copy 116 [some (vR 6 44), some (vZ s), some (vZ i), some (vZ t), some (vZ j), some (vZ n), none] (zv.toList ++ []) zσ post) (c_M_meets ((show V 2 MX7_copy 116 [some (vR 6 44), some (vZ s), some (vZ i), some (vZ t), some (vZ j), some (vZ n), none] [vZ (-10 - 2)] (uI σ 44 39 2) post from ?_))) (fun _ _ h => h)
              exact V_iret kX7_copy rfl rfl (hp _ (cK_44 (by decide)) (RM_fnd hR))
            have z108 : ¬ 0 < cm108 := fun q => absurd (hce108.mp q) (by omega)
            refine V_run kX7_copy 3 [1] (show (zr cm108 ∧ cm108 ≤ 0) ∧ V 2 MX7_copy 120 [some (vR 6 44), some (vZ s), some (vZ i), some (vZ t), some (vZ j), some (vZ n), some (vZ 0)] [] σ post from ⟨(by omega), ?_⟩)
            rw [if_pos ⟨⟨h6, h7, h8⟩, h9, h10⟩] at hp
            have loop2 : ∀ (m : Nat) (k : Int), 0 ≤ k → k + m = n → ∀ σ2 : zSt, cKeep σ σ2 → RM σ2 (aCopyS S s i t j k) → (∀ q : Int, 0 ≤ q → q < n → σ2.1 74 q = a_hI S s (i + q)) → V 2 MX7_copy 157 [some (vR 6 44), some (vZ s), some (vZ i), some (vZ t), some (vZ j), some (vZ n), some (vZ k)] [] σ2 post := by
              intro m
              induction m with
              | zero =>
                intro k k0 k1 σ2 hk hR2 h74
                have hkn : k = n := by omega
                subst hkn
                refine V_run kX7_copy 4 [1] (show (zr k ∧ zr k ∧ k ≤ k) ∧ V 2 MX7_copy 193 [some (vR 6 44), some (vZ s), some (vZ i), some (vZ t), some (vZ j), some (vZ k), some (vZ k)] [vZ 1] σ2 post from ⟨(by omega), ?_⟩)
                exact V_iret kX7_copy rfl rfl (hp σ2 hk hR2)
              | succ m ih =>
                intro k k0 k1 σ2 hk hR2 h74
                refine V_run kX7_copy 16 [0] (show (zr k ∧ zr n ∧ k < n) ∧ (0 ≤ k ∧ k < 60) ∧ V 2 MX7_copy 185 [some (vR 6 44), some (vZ s), some (vZ i), some (vZ t), some (vZ j), some (vZ n), some (vZ k)] [vZ (σ2.1 74 k), vZ (((60 * t) + j) + k), vR 8 73] σ2 post from ⟨(by omega), (by omega), ?_⟩)
                refine V_top (h74 k k0 (by omega)) ?_
                refine V_run kX7_copy 3 [] (show (0 ≤ (((60 * t) + j) + k) ∧ (((60 * t) + j) + k) < 240) ∧ V 2 MX7_copy 157 [some (vR 6 44), some (vZ s), some (vZ i), some (vZ t), some (vZ j), some (vZ n), some (vZ (k + 1))] [] (uI σ2 73 (((60 * t) + j) + k) (a_hI S s (i + k))) post from ⟨(by omega), ?_⟩)
                have h := RM_item (s := t) (i := j + k) (v := a_hI S s (i + k)) hR2 (by omega) (by omega)
                rw [aCopy_s k0, show 60 * t + (j + k) = 60 * t + j + k by omega] at h
                exact ih (k + 1) (by omega) (by omega) _ (hk.tr (cK_44 (by decide))) h (fun q q0 q1 => by rw [uI_ne (by decide)]; exact h74 q q0 q1)
            have loop1 : ∀ (m : Nat) (k : Int), 0 ≤ k → k + m = n → ∀ σ2 : zSt, cKeep σ σ2 → RM σ2 S → (∀ q : Int, 0 ≤ q → q < k → σ2.1 74 q = a_hI S s (i + q)) → V 2 MX7_copy 120 [some (vR 6 44), some (vZ s), some (vZ i), some (vZ t), some (vZ j), some (vZ n), some (vZ k)] [] σ2 post := by
              intro m
              induction m with
              | zero =>
                intro k k0 k1 σ2 hk hR2 h74
                refine V_run kX7_copy 5 [1] (show (zr k ∧ zr n ∧ n ≤ k) ∧ V 2 MX7_copy 157 [some (vR 6 44), some (vZ s), some (vZ i), some (vZ t), some (vZ j), some (vZ n), some (vZ 0)] [] σ2 post from ⟨(by omega), ?_⟩)
                exact loop2 n.toNat 0 (by omega) (by omega) σ2 hk (by rw [aCopy_0]; exact hR2) (fun q q0 q1 => h74 q q0 (by omega))
              | succ m ih =>
                intro k k0 k1 σ2 hk hR2 h74
                refine V_run kX7_copy 16 [0] (show (zr k ∧ zr n ∧ k < n) ∧ (0 ≤ (((60 * s) + i) + k) ∧ (((60 * s) + i) + k) < 240) ∧ V 2 MX7_copy 147 [some (vR 6 44), some (vZ s), some (vZ i), some (vZ t), some (vZ j), some (vZ n), some (vZ k)] [vZ (σ2.1 73 (((60 * s) + i) + k)), vZ k, vR 8 74] σ2 post from ⟨(by omega), (by omega), ?_⟩)
                refine V_top (show σ2.1 73 (60 * s + i + k) = a_hI S s (i + k) by rw [show 60 * s + i + k = 60 * s + (i + k) by omega]; exact ((hR2.2.2.2.2.1 s h1.1 (by omega)).2 h3).2.2 (i + k) (by omega) (by omega)) ?_
                refine V_run kX7_copy 3 [] (show (0 ≤ k ∧ k < 60) ∧ V 2 MX7_copy 120 [some (vR 6 44), some (vZ s), some (vZ i), some (vZ t), some (vZ j), some (vZ n), some (vZ (k + 1))] [] (uI σ2 74 k (a_hI S s (i + k))) post from ⟨(by omega), ?_⟩)
                exact ih (k + 1) (by omega) (by omega) _ (hk.tr (cK_44 (by decide))) (RM_74 hR2) (fun q q0 q1 => by
                  rw [uI_at]
                  by_cases z : q = k
                  · rw [if_pos z, z]
                  · rw [if_neg z]; exact h74 q q0 (by omega))
            exact loop1 n.toNat 0 (by omega) (by omega) σ cKeep.rf hR (fun q q0 q1 => absurd q1 (by omega))
set_option maxHeartbeats 8000000 in
set_option maxRecDepth 100000 in
/-- write -/
theorem c_M_write {t s : Int} {S : zAb} {σ : zSt} {post : Option VV → zSt → Prop} (hR : RM σ S) (ho : aOk S) (ht : zr t) (hs : zr s) (hp : ∀ σ', cKeep σ σ' → RM σ' (tWrite S t s).1 → post (some (vZ (tWrite S t s).2)) σ') : Mc 8 MX7_write [vR 6 44, vZ t, vZ s] σ post := by
  unfold tWrite at hp
  show V 8 MX7_write 0 [some (vR 6 44), some (vZ t), some (vZ s), none] [] σ post
  refine V_run kX7_write 1 [] (show V 8 MX7_write 1 [some (vR 6 44), some (vZ t), some (vZ s), none] [vZ t] σ post from ?_)
  refine V_callS (a := [vZ t]) (rest := []) kX7_write rfl oX7_isMinute iX7_isMinute lk_7_116 rfl rfl (Nat.le_of_ble_eq_true rfl) (Nat.le_of_ble_eq_true rfl) (Nat.le_of_ble_eq_true rfl) (post' := fun zv zσ => V 8 MX7_write 4 [some (vR 6 44), some (vZ t), some (vZ s), none] (zv.toList ++ []) zσ post) (c_M_isMinute (by omega) ((show V 8 MX7_write 4 [some (vR 6 44), some (vZ t), some (vZ s), none] [vZ (if 0 ≤ t ∧ t ≤ 23 then 1 else 0)] σ post from ?_))) (fun _ _ h => h)
  by_cases h1 : 0 ≤ t ∧ t ≤ 23
  rotate_left
  · skip
    refine V_top (if_neg h1) ?_
    refine V_run kX7_write 2 [1] (show (zr 0 ∧ 0 = 0) ∧ V 8 MX7_write 16 [some (vR 6 44), some (vZ t), some (vZ s), none] [vZ (-2)] σ post from ⟨(by omega), ?_⟩)
    rw [if_neg (fun q => h1 q.1)] at hp
    exact V_iret kX7_write rfl rfl (hp σ cKeep.rf hR)
  refine V_top (if_pos h1) ?_
  refine V_run kX7_write 2 [0] (show (zr 1 ∧ ¬ 1 = 0) ∧ V 8 MX7_write 8 [some (vR 6 44), some (vZ t), some (vZ s), none] [vZ s] σ post from ⟨(by omega), ?_⟩)
  refine V_callS (a := [vZ s]) (rest := []) kX7_write rfl oX7_isSheet iX7_isSheet lk_7_164 rfl rfl (Nat.le_of_ble_eq_true rfl) (Nat.le_of_ble_eq_true rfl) (Nat.le_of_ble_eq_true rfl) (post' := fun zv zσ => V 8 MX7_write 11 [some (vR 6 44), some (vZ t), some (vZ s), none] (zv.toList ++ []) zσ post) (c_M_isSheet (by omega) ((show V 8 MX7_write 11 [some (vR 6 44), some (vZ t), some (vZ s), none] [vZ (if 0 ≤ s ∧ s ≤ 3 then 1 else 0)] σ post from ?_))) (fun _ _ h => h)
  by_cases h2 : 0 ≤ s ∧ s ≤ 3
  rotate_left
  · skip
    refine V_top (if_neg h2) ?_
    refine V_run kX7_write 2 [0] (show (zr 0 ∧ 0 = 0) ∧ V 8 MX7_write 16 [some (vR 6 44), some (vZ t), some (vZ s), none] [vZ (-2)] σ post from ⟨(by omega), ?_⟩)
    rw [if_neg (fun q => h2 q.2)] at hp
    exact V_iret kX7_write rfl rfl (hp σ cKeep.rf hR)
  refine V_top (if_pos h2) ?_
  refine V_run kX7_write 5 [1] (show (zr 1 ∧ ¬ 1 = 0) ∧ (0 ≤ s ∧ s < 4) ∧ V 8 MX7_write 23 [some (vR 6 44), some (vZ t), some (vZ s), none] [vZ (σ.1 70 s)] σ post from ⟨(by omega), (by omega), ?_⟩)
  rw [if_pos ⟨h1, h2⟩] at hp
  have hs := hR.2.2.2.2.1 s h2.1 (by omega)
  have os := ho.2.2.2.2 s h2.1 (by omega)
  refine V_top (hs.1) ?_
  by_cases h3 : a_hF S s = -1
  · skip
    rw [if_pos h3] at hp
    refine V_top (if_pos h3) ?_
    refine V_run kX7_write 3 [0] (show (zr 0 ∧ 0 = 0) ∧ V 8 MX7_write 28 [some (vR 6 44), some (vZ t), some (vZ s), none] [vZ 1, vR 6 44] σ post from ⟨(by omega), ?_⟩)
    refine V_callV (a := [vZ 1]) (rest := []) kX7_write rfl oX7_meets iX7_meets lk_7_167 rfl rfl rfl (Nat.le_of_ble_eq_true rfl) (Nat.le_of_ble_eq_true rfl) (Nat.le_of_ble_eq_true rfl) (post' := fun zv zσ => V 8 MX7_write 31 [some (vR 6 44), some (vZ t), some (vZ s), none] (zv.toList ++ []) zσ post) (c_M_meets ((show V 8 MX7_write 31 [some (vR 6 44), some (vZ t), some (vZ s), none] [vZ (-10 - 1)] (uI σ 44 39 1) post from ?_))) (fun _ _ h => h)
    exact V_iret kX7_write rfl rfl (hp _ (cK_44 (by decide)) (RM_fnd hR))
  · skip
    rw [if_neg h3] at hp
    refine V_top (if_neg h3) ?_
    refine V_run kX7_write 2 [1] (show (zr 1 ∧ ¬ 1 = 0) ∧ V 8 MX7_write 33 [some (vR 6 44), some (vZ t), some (vZ s), none] [vR 6 44] σ post from ⟨(by omega), ?_⟩)
    refine V_callV (a := []) (rest := []) kX7_write rfl oX7_runsTold iX7_runsTold lk_7_219 rfl rfl rfl (Nat.le_of_ble_eq_true rfl) (Nat.le_of_ble_eq_true rfl) (Nat.le_of_ble_eq_true rfl) (post' := fun zv zσ => V 8 MX7_write 36 [some (vR 6 44), some (vZ t), some (vZ s), none] (zv.toList ++ []) zσ post) (c_M_runsTold hR ho (fun σ1 hk1 hc1 hm1 hr1 => (show V 8 MX7_write 36 [some (vR 6 44), some (vZ t), some (vZ s), none] [] σ1 post from ?_))) (fun _ _ h => h)
    have hRa := RM_k hk1 hR
    have hmn : zMin12 (a_hN S s) ≤ a_hN S s ∧ zMin12 (a_hN S s) ≤ 12 ∧ 0 ≤ zMin12 (a_hN S s) ∧ (zMin12 (a_hN S s) = a_hN S s ∨ zMin12 (a_hN S s) = 12) := by unfold zMin12; split <;> omega
    obtain ⟨N, hN⟩ : ∃ N : Int, N = zMin12 (a_hN S s) := ⟨_, rfl⟩
    rw [← hN] at hp hmn
    have loop : ∀ (m : Nat) (k : Int), 0 ≤ k → k + m = N → ∀ σ2 : zSt, cKeep σ σ2 → RM σ2 (aWriteS S t s k) → zRec σ2 (aC S) 24 → aOk (aWriteS S t s k) → V 8 MX7_write 38 [some (vR 6 44), some (vZ t), some (vZ s), some (vZ k)] [] σ2 post := by
      intro m
      induction m with
      | zero =>
        intro k k0 k1 σ2 hk hR2 hr2 ho2
        have hkn : k = N := by omega
        subst hkn
        have e72 : σ2.1 72 s = a_hN S s := ((hR2.2.2.2.2.1 s h2.1 (by omega)).2 h3).2.1
        have hp := hp σ2 hk hR2
        refine V_run kX7_write 5 [] (show (0 ≤ s ∧ s < 4) ∧ V 8 MX7_write 45 [some (vR 6 44), some (vZ t), some (vZ s), some (vZ k)] [vZ (σ2.1 72 s), vZ k] σ2 post from ⟨(by omega), ?_⟩)
        refine V_top (e72) ?_
        rcases Int.lt_or_le k (a_hN S s) with h4 | h4
        · skip
          refine V_run kX7_write 5 [0, 1] (show (zr k ∧ zr (a_hN S s) ∧ k < (a_hN S s)) ∧ (zr k ∧ zr 12 ∧ 12 ≤ k) ∧ V 8 MX7_write 78 [some (vR 6 44), some (vZ t), some (vZ s), some (vZ k)] [vZ k] σ2 post from ⟨(by omega), (by omega), ?_⟩)
          exact V_iret kX7_write rfl rfl (hp)
        · skip
          refine V_run kX7_write 2 [1] (show (zr k ∧ zr (a_hN S s) ∧ (a_hN S s) ≤ k) ∧ V 8 MX7_write 78 [some (vR 6 44), some (vZ t), some (vZ s), some (vZ k)] [vZ k] σ2 post from ⟨(by omega), ?_⟩)
          exact V_iret kX7_write rfl rfl (hp)
      | succ m ih =>
        intro k k0 k1 σ2 hk hR2 hr2 ho2
        have e72 : σ2.1 72 s = a_hN S s := ((hR2.2.2.2.2.1 s h2.1 (by omega)).2 h3).2.1
        have e61 := ((hr2 t h1.1 (by omega)).1 k k0 (by omega)).1
        have hwr := zWho_rng (aC_ok ho) t (j := k) k0
        refine V_run kX7_write 5 [] (show (0 ≤ s ∧ s < 4) ∧ V 8 MX7_write 45 [some (vR 6 44), some (vZ t), some (vZ s), some (vZ k)] [vZ (σ2.1 72 s), vZ k] σ2 post from ⟨(by omega), ?_⟩)
        refine V_top (e72) ?_
        refine V_run kX7_write 15 [0, 0] (show (zr k ∧ zr (a_hN S s) ∧ k < (a_hN S s)) ∧ (zr k ∧ zr 12 ∧ k < 12) ∧ (0 ≤ ((12 * t) + k) ∧ ((12 * t) + k) < 288) ∧ V 8 MX7_write 68 [some (vR 6 44), some (vZ t), some (vZ s), some (vZ k)] [vZ (σ2.1 61 ((12 * t) + k)), vZ k, vZ s, vR 6 44] σ2 post from ⟨(by omega), (by omega), (by omega), ?_⟩)
        refine V_top (e61) ?_
        have h := RM_item (s := s) (i := k) (v := zCut (a_hF S s) (zWho (aC S) t k)) hR2 k0 (by omega)
        have hoi := aOk_item (s := s) (i := k) ho2 (zCut_r (f := a_hF S s) (v := zWho (aC S) t k) (by omega))
        rw [aWrite_s k0] at h hoi
        refine V_callV (a := [vZ s, vZ k, vZ (zWho (aC S) t k)]) (rest := []) kX7_write rfl oX7_keep iX7_keep lk_7_322 rfl rfl rfl (Nat.le_of_ble_eq_true rfl) (Nat.le_of_ble_eq_true rfl) (Nat.le_of_ble_eq_true rfl) (post' := fun zv zσ => V 8 MX7_write 71 [some (vR 6 44), some (vZ t), some (vZ s), some (vZ k)] (zv.toList ++ []) zσ post) (c_M_keep hR2 ho2 h2.1 (by omega) h3 k0 (by omega) ((show V 8 MX7_write 71 [some (vR 6 44), some (vZ t), some (vZ s), some (vZ k)] [] (uI σ2 73 (60 * s + k) (zCut (a_hF S s) (zWho (aC S) t k))) post from ?_))) (fun _ _ h => h)
        refine V_run kX7_write 2 [] (show V 8 MX7_write 38 [some (vR 6 44), some (vZ t), some (vZ s), some (vZ (k + 1))] [] (uI σ2 73 (60 * s + k) (zCut (a_hF S s) (zWho (aC S) t k))) post from ?_)
        exact ih (k + 1) (by omega) (by omega) _ (hk.tr (cK_44 (by decide))) h (zRec_cong rfl rfl rfl rfl hr2) hoi
    refine V_run kX7_write 2 [] (show V 8 MX7_write 38 [some (vR 6 44), some (vZ t), some (vZ s), some (vZ 0)] [] σ1 post from ?_)
    exact loop N.toNat 0 (by omega) (by omega) σ1 hk1.c (by rw [aWrite_0]; exact hRa) hr1 (by rw [aWrite_0]; exact ho)
