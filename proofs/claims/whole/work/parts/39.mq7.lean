/-- a call of the reference leaves the other side's cells -/
def cKeep (σ σ' : zSt) : Prop := (∀ a : Nat, a < 44 → σ'.1 a = σ.1 a) ∧ ∀ a : Nat, a < 44 → σ'.2 a = σ.2 a
theorem mKeep.c {σ σ' : zSt} (h : mKeep σ σ') : cKeep σ σ' := ⟨fun a x => h.1 a (by omega), h.2.1⟩
def aSeenS (S : zAb) (t p k : Int) : zAb := (a_pN S, a_pF S, a_wN S, a_wF S, a_eN S, a_eK S, a_eM S, a_eP S, a_sN S + 1, fPut (a_sM S) (a_sN S) t, fPut (a_sP S) (a_sN S) p, fPut (a_sW S) (a_sN S) k, a_hF S, a_hN S, a_hI S, a_fnd S)
def aForgetS (S : zAb) : zAb := (a_pN S, a_pF S, a_wN S, a_wF S, a_eN S, a_eK S, a_eM S, a_eP S, 0, a_sM S, a_sP S, a_sW S, a_hF S, a_hN S, a_hI S, a_fnd S)
set_option maxHeartbeats 4000000 in
set_option maxRecDepth 100000 in
/-- forget -/
theorem c_M_forget {S : zAb} {σ : zSt} {post : Option VV → zSt → Prop} (hR : RM σ S) (ho : aOk S) (hp : ∀ σ', cKeep σ σ' → RM σ' (aForgetS S) → post (some (vZ (a_sN S))) σ') : Mc 0 MX7_forget [vR 6 44] σ post := by
  obtain ⟨r1, r2, r3, r4, r5, r6⟩ := hR
  show V 0 MX7_forget 0 [some (vR 6 44), none] [] σ post
  refine V_run kX7_forget 2 [] (show V 0 MX7_forget 4 [some (vR 6 44), none] [vZ (σ.1 44 29)] σ post from ?_)
  refine V_top (r4.1) ?_
  refine V_run kX7_forget 5 [] (show V 0 MX7_forget 11 [some (vR 6 44), some (vZ (a_sN S))] [vZ (a_sN S)] (uI σ 44 29 0) post from ?_)
  exact V_iret kX7_forget rfl rfl (hp _ ⟨fun a x => by rw [uI_ne (by omega)], fun _ _ => rfl⟩ ⟨r1, r2, ⟨by rw [uI_at, if_neg (by decide)]; exact r3.1, r3.2⟩, ⟨uI_get, fun i a c => absurd c (by show ¬ i < 0; omega)⟩, r5, by rw [uI_at, if_neg (by decide)]; exact r6⟩)
set_option maxHeartbeats 4000000 in
set_option maxRecDepth 100000 in
/-- seen -/
theorem c_M_seen {t p k : Int} {S : zAb} {σ : zSt} {post : Option VV → zSt → Prop} (hR : RM σ S) (ho : aOk S) (ht : zr t) (hq : zr p) (hk : zr k) (hbad : ¬ ((0 ≤ t ∧ t ≤ 23) ∧ (0 ≤ p ∧ p ≤ 11) ∧ 0 ≤ k ∧ k ≤ 12) → post (some (vZ (-2))) σ) (hfull : ((0 ≤ t ∧ t ≤ 23) ∧ (0 ≤ p ∧ p ≤ 11) ∧ 0 ≤ k ∧ k ≤ 12) → a_sN S = 8 → post (some (vZ (-4))) σ) (hp : ((0 ≤ t ∧ t ≤ 23) ∧ (0 ≤ p ∧ p ≤ 11) ∧ 0 ≤ k ∧ k ≤ 12) → a_sN S < 8 → ∀ σ', cKeep σ σ' → RM σ' (aSeenS S t p k) → post (some (vZ (a_sN S + 1))) σ') : Mc 2 MX7_seen [vR 6 44, vZ t, vZ p, vZ k] σ post := by
  obtain ⟨r1, r2, r3, r4, r5, r6⟩ := id hR
  have hsn := ho.2.2.2.1
  show V 2 MX7_seen 0 [some (vR 6 44), some (vZ t), some (vZ p), some (vZ k)] [] σ post
  refine V_run kX7_seen 1 [] (show V 2 MX7_seen 1 [some (vR 6 44), some (vZ t), some (vZ p), some (vZ k)] [vZ t] σ post from ?_)
  refine V_callS (a := [vZ t]) (rest := []) kX7_seen rfl oX7_isMinute iX7_isMinute lk_7_116 rfl rfl (Nat.le_of_ble_eq_true rfl) (Nat.le_of_ble_eq_true rfl) (Nat.le_of_ble_eq_true rfl) (post' := fun zv zσ => V 2 MX7_seen 4 [some (vR 6 44), some (vZ t), some (vZ p), some (vZ k)] (zv.toList ++ []) zσ post) (c_M_isMinute (by omega) ((show V 2 MX7_seen 4 [some (vR 6 44), some (vZ t), some (vZ p), some (vZ k)] [vZ (if 0 ≤ t ∧ t ≤ 23 then 1 else 0)] σ post from ?_))) (fun _ _ h => h)
  by_cases h1 : 0 ≤ t ∧ t ≤ 23
  rotate_left
  · skip
    refine V_top (if_neg h1) ?_
    refine V_run kX7_seen 2 [1] (show (zr 0 ∧ 0 = 0) ∧ V 2 MX7_seen 26 [some (vR 6 44), some (vZ t), some (vZ p), some (vZ k)] [vZ (-2)] σ post from ⟨(by omega), ?_⟩)
    exact V_iret kX7_seen rfl rfl (hbad (fun q => h1 q.1))
  refine V_top (if_pos h1) ?_
  refine V_run kX7_seen 2 [0] (show (zr 1 ∧ ¬ 1 = 0) ∧ V 2 MX7_seen 8 [some (vR 6 44), some (vZ t), some (vZ p), some (vZ k)] [vZ p] σ post from ⟨(by omega), ?_⟩)
  refine V_callS (a := [vZ p]) (rest := []) kX7_seen rfl oX7_isTwelve iX7_isTwelve lk_7_158 rfl rfl (Nat.le_of_ble_eq_true rfl) (Nat.le_of_ble_eq_true rfl) (Nat.le_of_ble_eq_true rfl) (post' := fun zv zσ => V 2 MX7_seen 11 [some (vR 6 44), some (vZ t), some (vZ p), some (vZ k)] (zv.toList ++ []) zσ post) (c_M_isTwelve (by omega) ((show V 2 MX7_seen 11 [some (vR 6 44), some (vZ t), some (vZ p), some (vZ k)] [vZ (if 0 ≤ p ∧ p ≤ 11 then 1 else 0)] σ post from ?_))) (fun _ _ h => h)
  by_cases h2 : 0 ≤ p ∧ p ≤ 11
  rotate_left
  · skip
    refine V_top (if_neg h2) ?_
    refine V_run kX7_seen 2 [1] (show (zr 0 ∧ 0 = 0) ∧ V 2 MX7_seen 26 [some (vR 6 44), some (vZ t), some (vZ p), some (vZ k)] [vZ (-2)] σ post from ⟨(by omega), ?_⟩)
    exact V_iret kX7_seen rfl rfl (hbad (fun q => h2 q.2.1))
  refine V_top (if_pos h2) ?_
  refine V_run kX7_seen 4 [0] (show (zr 1 ∧ ¬ 1 = 0) ∧ V 2 MX7_seen 18 [some (vR 6 44), some (vZ t), some (vZ p), some (vZ k)] [vZ 12, vZ 0, vZ k] σ post from ⟨(by omega), ?_⟩)
  refine V_callS (a := [vZ k, vZ 0, vZ 12]) (rest := []) kX7_seen rfl oX7_in iX7_in lk_7_104 rfl rfl (Nat.le_of_ble_eq_true rfl) (Nat.le_of_ble_eq_true rfl) (Nat.le_of_ble_eq_true rfl) (post' := fun zv zσ => V 2 MX7_seen 21 [some (vR 6 44), some (vZ t), some (vZ p), some (vZ k)] (zv.toList ++ []) zσ post) (c_M_in (by omega) (by omega) (by omega) ((show V 2 MX7_seen 21 [some (vR 6 44), some (vZ t), some (vZ p), some (vZ k)] [vZ (if 0 ≤ k ∧ k ≤ 12 then 1 else 0)] σ post from ?_))) (fun _ _ h => h)
  by_cases h3 : 0 ≤ k ∧ k ≤ 12
  rotate_left
  · skip
    refine V_top (if_neg h3) ?_
    refine V_run kX7_seen 2 [0] (show (zr 0 ∧ 0 = 0) ∧ V 2 MX7_seen 26 [some (vR 6 44), some (vZ t), some (vZ p), some (vZ k)] [vZ (-2)] σ post from ⟨(by omega), ?_⟩)
    exact V_iret kX7_seen rfl rfl (hbad (fun q => h3 q.2.2))
  refine V_top (if_pos h3) ?_
  refine V_run kX7_seen 1 [1] (show (zr 1 ∧ ¬ 1 = 0) ∧ V 2 MX7_seen 27 [some (vR 6 44), some (vZ t), some (vZ p), some (vZ k)] [] σ post from ⟨(by omega), ?_⟩)
  refine V_run kX7_seen 2 [] (show V 2 MX7_seen 31 [some (vR 6 44), some (vZ t), some (vZ p), some (vZ k)] [vZ (σ.1 44 29)] σ post from ?_)
  refine V_top (r4.1) ?_
  refine V_run kX7_seen 1 [] (show V 2 MX7_seen 33 [some (vR 6 44), some (vZ t), some (vZ p), some (vZ k)] [vZ 8, vZ (a_sN S)] σ post from ?_)
  by_cases h8 : a_sN S = 8
  · skip
    refine V_run kX7_seen 2 [0] (show (zr (a_sN S) ∧ zr 8 ∧ (a_sN S) = 8) ∧ V 2 MX7_seen 38 [some (vR 6 44), some (vZ t), some (vZ p), some (vZ k)] [vZ (-4)] σ post from ⟨(by omega), ?_⟩)
    exact V_iret kX7_seen rfl rfl (hfull ⟨h1, h2, h3⟩ h8)
  · skip
    refine V_run kX7_seen 5 [1] (show (zr (a_sN S) ∧ zr 8 ∧ ¬ (a_sN S) = 8) ∧ V 2 MX7_seen 47 [some (vR 6 44), some (vZ t), some (vZ p), some (vZ k)] [vZ (σ.1 44 29), vR 8 66] σ post from ⟨(by omega), ?_⟩)
    refine V_top (r4.1) ?_
    refine V_run kX7_seen 6 [] (show (0 ≤ (a_sN S) ∧ (a_sN S) < 8) ∧ V 2 MX7_seen 57 [some (vR 6 44), some (vZ t), some (vZ p), some (vZ k)] [vZ ((uI σ 66 (a_sN S) t).1 44 29), vR 8 67] (uI σ 66 (a_sN S) t) post from ⟨(by omega), ?_⟩)
    refine V_top (show (uI σ 66 (a_sN S) t).1 44 29 = a_sN S from r4.1) ?_
    refine V_run kX7_seen 6 [] (show (0 ≤ (a_sN S) ∧ (a_sN S) < 8) ∧ V 2 MX7_seen 67 [some (vR 6 44), some (vZ t), some (vZ p), some (vZ k)] [vZ ((uI (uI σ 66 (a_sN S) t) 67 (a_sN S) p).1 44 29), vR 8 68] (uI (uI σ 66 (a_sN S) t) 67 (a_sN S) p) post from ⟨(by omega), ?_⟩)
    refine V_top (show (uI (uI σ 66 (a_sN S) t) 67 (a_sN S) p).1 44 29 = a_sN S from r4.1) ?_
    refine V_run kX7_seen 5 [] (show (0 ≤ (a_sN S) ∧ (a_sN S) < 8) ∧ V 2 MX7_seen 74 [some (vR 6 44), some (vZ t), some (vZ p), some (vZ k)] [vZ ((uI (uI (uI σ 66 (a_sN S) t) 67 (a_sN S) p) 68 (a_sN S) k).1 44 29), vR 6 44] (uI (uI (uI σ 66 (a_sN S) t) 67 (a_sN S) p) 68 (a_sN S) k) post from ⟨(by omega), ?_⟩)
    refine V_top (show (uI (uI (uI σ 66 (a_sN S) t) 67 (a_sN S) p) 68 (a_sN S) k).1 44 29 = a_sN S from r4.1) ?_
    refine V_run kX7_seen 5 [] (show V 2 MX7_seen 83 [some (vR 6 44), some (vZ t), some (vZ p), some (vZ k)] [vZ ((uI (uI (uI (uI σ 66 (a_sN S) t) 67 (a_sN S) p) 68 (a_sN S) k) 44 29 ((a_sN S) + 1)).1 44 29)] (uI (uI (uI (uI σ 66 (a_sN S) t) 67 (a_sN S) p) 68 (a_sN S) k) 44 29 ((a_sN S) + 1)) post from ?_)
    refine V_top (uI_get) ?_
    refine V_iret kX7_seen rfl rfl (hp ⟨h1, h2, h3⟩ (by omega) _ ⟨fun a x => by rw [uI_ne (by omega), uI_ne (by omega), uI_ne (by omega), uI_ne (by omega)], fun _ _ => rfl⟩ ⟨r1, r2, ⟨by rw [uI_at, if_neg (by decide)]; exact r3.1, r3.2⟩, ⟨uI_get, fun i a c => ?_⟩, r5, by rw [uI_at, if_neg (by decide)]; exact r6⟩)
    have c : i < a_sN S + 1 := c
    rw [uI_ne (by decide), uI_ne (by decide), uI_ne (by decide), uI_at, uI_ne (by decide), uI_ne (by decide), uI_at, uI_ne (by decide), uI_ne (by decide), uI_at, uI_ne (by decide), uI_ne (by decide)]
    show _ = fPut (a_sM S) (a_sN S) t i ∧ _ = fPut (a_sP S) (a_sN S) p i ∧ _ = fPut (a_sW S) (a_sN S) k i
    unfold fPut
    by_cases hi : i = a_sN S
    · rw [if_pos hi, if_pos hi, if_pos hi, if_pos hi, if_pos hi, if_pos hi]; exact ⟨rfl, rfl, rfl⟩
    · rw [if_neg hi, if_neg hi, if_neg hi, if_neg hi, if_neg hi, if_neg hi]; exact r4.2 i a (by omega)
