theorem RS_one {σ σ' : zSt} {S S' : zAb} {s : Int} {b : Nat} (hb : 33 + 1 + 2 * s.toNat = b) (s0 : 0 ≤ s) (s1 : s < 4) (h : RS σ S) (hfr : ∀ a : Nat, a ≠ b → a ≠ b + 1 → σ'.1 a = σ.1 a) (hS : ∀ x : Int, x ≠ s → a_hF S' x = a_hF S x ∧ a_hN S' x = a_hN S x ∧ a_hI S' x = a_hI S x) (h1 : σ'.1 b 1 = a_hF S' s) (h2 : σ'.1 b 2 = a_hN S' s) (h3 : a_hF S' s ≠ -1 → ∀ i : Int, 0 ≤ i → i < 60 → σ'.1 (b + 1) i = a_hI S' s i) : RS σ' S' := fun x x0 x1 => by
  by_cases z : x = s
  · rw [z, hb]; exact ⟨h1, h2, h3⟩
  · have q := hS x z
    rw [q.1, q.2.1, q.2.2, hfr _ (by omega) (by omega), hfr _ (by omega) (by omega)]
    exact h x x0 x1
theorem RC_sh {σ σ' : zSt} {S S' : zAb} (hR : RC σ S) (hfr : ∀ a : Nat, ¬ (34 ≤ a ∧ a ≤ 41) → σ'.1 a = σ.1 a) (h2 : σ'.2 = σ.2) (hS : RS σ' S') (hC : aC S' = aC S) (hp : a_pN S' = a_pN S ∧ a_pF S' = a_pF S ∧ a_wN S' = a_wN S ∧ a_wF S' = a_wF S) (hs : a_sN S' = a_sN S ∧ a_sM S' = a_sM S ∧ a_sP S' = a_sP S ∧ a_sW S' = a_sW S) (hE : a_eN S' = a_eN S) (hf : a_fnd S' = a_fnd S) : RC σ' S' := by
  obtain ⟨q1, q2, q3, q4, q5, q6, q7⟩ := hR
  have g1 := RT_c (hfr 1 (by decide)) (hfr 2 (by decide)) (hfr 3 (by decide)) (hfr 4 (by decide)) q1
  have g4 := RG_c (hfr 29 (by decide)) (hfr 30 (by decide)) (hfr 31 (by decide)) (hfr 32 (by decide)) q4
  have g6 := RK_c (σ' := σ') (by rw [hfr 0 (by decide)]) (hfr 43 (by decide)) q6
  refine ⟨?_, by rw [hC]; exact zPx_cong (fun k a b => hfr k (by omega)) (by rw [h2]) q2, by rw [hC]; exact zCo_cong (by rw [hfr 23 (by decide)]) (by rw [h2]) (by rw [h2]) (by rw [h2]) q3, ?_, hS, ?_, by rw [hfr 0 (by decide), hf]; exact q7⟩
  · unfold RT at g1 ⊢; rw [hp.1, hp.2.1, hp.2.2.1, hp.2.2.2]; exact g1
  · unfold RG at g4 ⊢; rw [hs.1, hs.2.1, hs.2.2.1, aW_s hs.2.2.2]; exact g4
  · unfold RK at g6 ⊢; rw [hC, hE]; exact g6
theorem RC_item {σ : zSt} {S : zAb} {s i v : Int} {b : Nat} (hb : 33 + 1 + 2 * s.toNat = b) (s0 : 0 ≤ s) (s1 : s < 4) (hR : RC σ S) : RC (uI σ (b + 1) i v) (aItemS S s i v) := by
  have hsh := RCn_sh hR.2.2.2.2.1 s0 s1 hb
  refine RC_sh hR (fun a x => uI_ne (by omega)) rfl (RS_one hb s0 s1 hR.2.2.2.2.1 (fun a x y => uI_ne y) (fun x z => ⟨rfl, rfl, ?_⟩) (by rw [uI_ne (by omega)]; exact hsh.1) (by rw [uI_ne (by omega)]; exact hsh.2.1) (fun z j j0 j1 => ?_)) rfl ⟨rfl, rfl, rfl, rfl⟩ ⟨rfl, rfl, rfl, rfl⟩ rfl rfl
  · funext j
    show (if x = s ∧ j = i then v else a_hI S x j) = a_hI S x j
    rw [if_neg (fun q => z q.1)]
  · rw [uI_at]
    show _ = if s = s ∧ j = i then v else a_hI S s j
    by_cases q : j = i
    · rw [if_pos q, if_pos ⟨rfl, q⟩]
    · rw [if_neg q, if_neg (fun y => q y.2)]; exact hsh.2.2 z j j0 j1
theorem RC_renew {σ : zSt} {S : zAb} {s f n : Int} {b : Nat} (hb : 33 + 1 + 2 * s.toNat = b) (s0 : 0 ≤ s) (s1 : s < 4) (hR : RC σ S) : RC (fZero (uI (uI σ b 1 f) b 2 n) (b + 1) 60) (aSheetS S s f n) := by
  refine RC_sh hR (fun a x => by rw [fZero_ne (by omega), uI_ne (by omega), uI_ne (by omega)]) rfl (RS_one hb s0 s1 hR.2.2.2.2.1 (fun a x y => by rw [fZero_ne y, uI_ne x, uI_ne x]) (fun x z => ⟨?_, ?_, ?_⟩) ?_ ?_ (fun z j j0 j1 => ?_)) rfl ⟨rfl, rfl, rfl, rfl⟩ ⟨rfl, rfl, rfl, rfl⟩ rfl rfl
  · show fPut (a_hF S) s f x = a_hF S x; rw [fPut_at, if_neg z]
  · show fPut (a_hN S) s n x = a_hN S x; rw [fPut_at, if_neg z]
  · funext j; show (if x = s then 0 else a_hI S x j) = a_hI S x j; rw [if_neg z]
  · rw [fZero_ne (by omega), uI_at, if_neg (by decide), uI_get]; show f = fPut (a_hF S) s f s; rw [fPut_at, if_pos rfl]
  · rw [fZero_ne (by omega), uI_get]; show n = fPut (a_hN S) s n s; rw [fPut_at, if_pos rfl]
  · rw [fZero_at j0 j1]; show 0 = if s = s then 0 else a_hI S s j; rw [if_pos rfl]
theorem RC_lost {σ : zSt} {S : zAb} {s : Int} {b : Nat} (hb : 33 + 1 + 2 * s.toNat = b) (s0 : 0 ≤ s) (s1 : s < 4) (hR : RC σ S) : RC (uI (uI σ b 1 (-1)) b 2 0) (aLoseS S s) := by
  refine RC_sh hR (fun a x => by rw [uI_ne (by omega), uI_ne (by omega)]) rfl (RS_one hb s0 s1 hR.2.2.2.2.1 (fun a x y => by rw [uI_ne x, uI_ne x]) (fun x z => ⟨?_, ?_, rfl⟩) ?_ ?_ (fun z j j0 j1 => ?_)) rfl ⟨rfl, rfl, rfl, rfl⟩ ⟨rfl, rfl, rfl, rfl⟩ rfl rfl
  · show fPut (a_hF S) s (-1) x = a_hF S x; rw [fPut_at, if_neg z]
  · show fPut (a_hN S) s 0 x = a_hN S x; rw [fPut_at, if_neg z]
  · rw [uI_at, if_neg (by decide), uI_get]; show -1 = fPut (a_hF S) s (-1) s; rw [fPut_at, if_pos rfl]
  · rw [uI_get]; show 0 = fPut (a_hN S) s 0 s; rw [fPut_at, if_pos rfl]
  · exact absurd (show fPut (a_hF S) s (-1) s = -1 by rw [fPut_at, if_pos rfl]) z
theorem RC_copy {σ : zSt} {S : zAb} {s t i j n : Int} {a b : Nat} (ha : 33 + 1 + 2 * s.toNat = a) (s0 : 0 ≤ s) (s1 : s < 4) (hFs : a_hF S s ≠ -1) (hb : 33 + 1 + 2 * t.toNat = b) (t0 : 0 ≤ t) (t1 : t < 4) (hR : RC σ S) (i0 : 0 ≤ i) (hi : i + n ≤ 60) (j0 : 0 ≤ j) : RC (cpI σ (a + 1) i (b + 1) j n) (aCopyS S s i t j n) := by
  have hsh := RCn_sh hR.2.2.2.2.1 t0 t1 hb
  have hss := RCn_sh hR.2.2.2.2.1 s0 s1 ha
  refine RC_sh hR (fun a x => cpI_ne (by omega)) rfl (RS_one hb t0 t1 hR.2.2.2.2.1 (fun a x y => cpI_ne y) (fun x z => ⟨rfl, rfl, ?_⟩) (by rw [cpI_ne (by omega)]; exact hsh.1) (by rw [cpI_ne (by omega)]; exact hsh.2.1) (fun z q q0 q1 => ?_)) rfl ⟨rfl, rfl, rfl, rfl⟩ ⟨rfl, rfl, rfl, rfl⟩ rfl rfl
  · funext q
    show (if x = t ∧ j ≤ q ∧ q < j + n then a_hI S s (i + q - j) else a_hI S x q) = a_hI S x q
    rw [if_neg (fun y => z y.1)]
  · show (if b + 1 = b + 1 ∧ j ≤ q ∧ q < j + n then σ.1 (a + 1) (i + (q - j)) else σ.1 (b + 1) q) = if t = t ∧ j ≤ q ∧ q < j + n then a_hI S s (i + q - j) else a_hI S t q
    by_cases y : j ≤ q ∧ q < j + n
    · rw [if_pos ⟨rfl, y⟩, if_pos ⟨rfl, y⟩, show i + q - j = i + (q - j) by omega]
      exact hss.2.2 hFs (i + (q - j)) (by omega) (by omega)
    · rw [if_neg (fun w => y w.2), if_neg (fun w => y w.2)]; exact hsh.2.2 z q q0 q1
set_option maxHeartbeats 4000000 in
set_option maxRecDepth 100000 in
/-- sheet -/
theorem c_N_sheet {s f n : Int} {S : zAb} {σ : zSt} {post : Option VV → zSt → Prop} (hR : RC σ S) (ho : aOk S) (hs : zr s) (hf : zr f) (hn : zr n) (hp : ∀ σ', dK σ σ' → RC σ' (tSheet S s f n).1 → post (some (vZ (tSheet S s f n).2)) σ') : Mc 3 MX6_sheet [vR 5 0, vZ s, vZ f, vZ n] σ post := by
  have hok := aC_ok ho
  have hcn := hok.1
  obtain ⟨hT, hPx, hCo, hG, hS, hK, hF⟩ := id hR
  unfold tSheet at hp
  show V 3 MX6_sheet 0 [some (vR 5 0), some (vZ s), some (vZ f), some (vZ n), none] [] σ post
  refine V_run kX6_sheet 2 [] (show V 3 MX6_sheet 2 [some (vR 5 0), some (vZ s), some (vZ f), some (vZ n), none] [vZ s, vR 5 0] σ post from ?_)
  by_cases h1 : 0 ≤ s ∧ s ≤ 3
  rotate_left
  · skip
    refine V_callV (a := [vZ s]) (rest := []) kX6_sheet rfl oX6_sheetOf iX6_sheetOf lk_6_124 rfl rfl rfl (Nat.le_of_ble_eq_true rfl) (Nat.le_of_ble_eq_true rfl) (Nat.le_of_ble_eq_true rfl) (post' := fun zv zσ => V 3 MX6_sheet 5 [some (vR 5 0), some (vZ s), some (vZ f), some (vZ n), none] (zv.toList ++ []) zσ post) (c_N_sheetOfN (by omega) h1 ((show V 3 MX6_sheet 5 [some (vR 5 0), some (vZ s), some (vZ f), some (vZ n), none] [vN] σ post from ?_))) (fun _ _ h => h)
    refine V_run kX6_sheet 4 [] (show V 3 MX6_sheet 27 [some (vR 5 0), some (vZ s), some (vZ f), some (vZ n), some (vN)] [vZ (-2)] σ post from ?_)
    rw [if_neg (fun q => h1 q.1.1)] at hp
    exact V_iret kX6_sheet rfl rfl (hp σ dK.rf hR)
  obtain ⟨b, hb⟩ : ∃ b : Nat, 33 + 1 + 2 * s.toNat = b := ⟨_, rfl⟩
  have hshb := RCn_sh hS h1.1 (by omega) hb
  have osb := ho.2.2.2.2 s h1.1 (by omega)
  have hzb := zl_sh h1.1 (by omega) hb
  refine V_callV (a := [vZ s]) (rest := []) kX6_sheet rfl oX6_sheetOf iX6_sheetOf lk_6_124 rfl rfl rfl (Nat.le_of_ble_eq_true rfl) (Nat.le_of_ble_eq_true rfl) (Nat.le_of_ble_eq_true rfl) (post' := fun zv zσ => V 3 MX6_sheet 5 [some (vR 5 0), some (vZ s), some (vZ f), some (vZ n), none] (zv.toList ++ []) zσ post) (c_N_sheetOf h1.1 (by omega) hb ((show V 3 MX6_sheet 5 [some (vR 5 0), some (vZ s), some (vZ f), some (vZ n), none] [vR 2 b] σ post from ?_))) (fun _ _ h => h)
  refine V_run kX6_sheet 4 [] (show V 3 MX6_sheet 13 [some (vR 5 0), some (vZ s), some (vZ f), some (vZ n), some (vR 2 b)] [vZ f] σ post from ?_)
  refine V_callS (a := [vZ f]) (rest := []) kX6_sheet rfl oX6_isForm iX6_isForm lk_6_251 rfl rfl (Nat.le_of_ble_eq_true rfl) (Nat.le_of_ble_eq_true rfl) (Nat.le_of_ble_eq_true rfl) (post' := fun zv zσ => V 3 MX6_sheet 16 [some (vR 5 0), some (vZ s), some (vZ f), some (vZ n), some (vR 2 b)] (zv.toList ++ []) zσ post) (c_N_isForm (by omega) ((show V 3 MX6_sheet 16 [some (vR 5 0), some (vZ s), some (vZ f), some (vZ n), some (vR 2 b)] [vZ (if 0 ≤ f ∧ f ≤ 2 then 1 else 0)] σ post from ?_))) (fun _ _ h => h)
  by_cases h2 : 0 ≤ f ∧ f ≤ 2
  rotate_left
  · skip
    refine V_top (if_neg h2) ?_
    refine V_run kX6_sheet 2 [1] (show (zr 0 ∧ 0 = 0) ∧ V 3 MX6_sheet 27 [some (vR 5 0), some (vZ s), some (vZ f), some (vZ n), some (vR 2 b)] [vZ (-2)] σ post from ⟨(by omega), ?_⟩)
    rw [if_neg (fun q => h2 q.1.2)] at hp
    exact V_iret kX6_sheet rfl rfl (hp σ dK.rf hR)
  refine V_top (if_pos h2) ?_
  refine V_run kX6_sheet 3 [0] (show (zr 1 ∧ ¬ 1 = 0) ∧ V 3 MX6_sheet 22 [some (vR 5 0), some (vZ s), some (vZ f), some (vZ n), some (vR 2 b)] [vZ 60, vZ n] σ post from ⟨(by omega), ?_⟩)
  rcases Int.lt_or_le 60 n with h3 | h3
  · skip
    refine V_run kX6_sheet 2 [0] (show (zr n ∧ zr 60 ∧ 60 < n) ∧ V 3 MX6_sheet 27 [some (vR 5 0), some (vZ s), some (vZ f), some (vZ n), some (vR 2 b)] [vZ (-2)] σ post from ⟨(by omega), ?_⟩)
    rw [if_neg (by omega)] at hp
    exact V_iret kX6_sheet rfl rfl (hp σ dK.rf hR)
  · skip
    rw [if_pos ⟨⟨h1, h2⟩, h3⟩] at hp
    refine V_run kX6_sheet 2 [1] (show (zr n ∧ zr 60 ∧ n ≤ 60) ∧ V 3 MX6_sheet 29 [some (vR 5 0), some (vZ s), some (vZ f), some (vZ n), some (vR 2 b)] [vZ n] σ post from ⟨(by omega), ?_⟩)
    rcases Int.lt_or_le n 0 with h4 | h4
    · skip
      rw [if_pos h4] at hp
      refine V_run kX6_sheet 3 [0] (show (zr n ∧ n < 0) ∧ V 3 MX6_sheet 34 [some (vR 5 0), some (vZ s), some (vZ f), some (vZ n), some (vR 2 b)] [vZ 5, vR 5 0] σ post from ⟨(by omega), ?_⟩)
      refine V_callV (a := [vZ 5]) (rest := []) kX6_sheet rfl oX6_found iX6_found lk_6_131 rfl rfl rfl (Nat.le_of_ble_eq_true rfl) (Nat.le_of_ble_eq_true rfl) (Nat.le_of_ble_eq_true rfl) (post' := fun zv zσ => V 3 MX6_sheet 37 [some (vR 5 0), some (vZ s), some (vZ f), some (vZ n), some (vR 2 b)] (zv.toList ++ []) zσ post) (c_N_found ((show V 3 MX6_sheet 37 [some (vR 5 0), some (vZ s), some (vZ f), some (vZ n), some (vR 2 b)] [vZ (-10 - 5)] (uI σ 0 11 5) post from ?_))) (fun _ _ h => h)
      exact V_iret kX6_sheet rfl rfl (hp _ (dK.rf.u (by decide)) (RC_11 hR))
    · skip
      rw [if_neg (by omega)] at hp
      refine V_run kX6_sheet 4 [1] (show (zr n ∧ 0 ≤ n) ∧ V 3 MX6_sheet 42 [some (vR 5 0), some (vZ s), some (vZ f), some (vZ n), some (vR 2 b)] [vZ n, vZ f, vR 2 b] σ post from ⟨(by omega), ?_⟩)
      refine V_callV (a := [vZ f, vZ n]) (rest := []) kX6_sheet rfl oX3_renew iX3_renew lk_6_254 rfl rfl rfl (Nat.le_of_ble_eq_true rfl) (Nat.le_of_ble_eq_true rfl) (Nat.le_of_ble_eq_true rfl) (post' := fun zv zσ => V 3 MX6_sheet 45 [some (vR 5 0), some (vZ s), some (vZ f), some (vZ n), some (vR 2 b)] (zv.toList ++ []) zσ post) (c_S_renew hzb h4 h3 ((show V 3 MX6_sheet 45 [some (vR 5 0), some (vZ s), some (vZ f), some (vZ n), some (vR 2 b)] [] (fZero (uI (uI σ b 1 f) b 2 n) (b + 1) 60) post from ?_))) (fun _ _ h => h)
      refine V_run kX6_sheet 1 [] (show V 3 MX6_sheet 46 [some (vR 5 0), some (vZ s), some (vZ f), some (vZ n), some (vR 2 b)] [vZ n] (fZero (uI (uI σ b 1 f) b 2 n) (b + 1) 60) post from ?_)
      exact V_iret kX6_sheet rfl rfl (hp _ (fun a x => ⟨by rw [fZero_ne (by omega), uI_ne (by omega), uI_ne (by omega)], rfl⟩) (RC_renew hb h1.1 (by omega) hR))
set_option maxHeartbeats 4000000 in
set_option maxRecDepth 100000 in
/-- lose -/
theorem c_N_lose {s : Int} {S : zAb} {σ : zSt} {post : Option VV → zSt → Prop} (hR : RC σ S) (ho : aOk S) (hs : zr s) (hp : ∀ σ', dK σ σ' → RC σ' (tLose S s).1 → post (some (vZ (tLose S s).2)) σ') : Mc 3 MX6_lose [vR 5 0, vZ s] σ post := by
  have hok := aC_ok ho
  have hcn := hok.1
  obtain ⟨hT, hPx, hCo, hG, hS, hK, hF⟩ := id hR
  unfold tLose at hp
  show V 3 MX6_lose 0 [some (vR 5 0), some (vZ s), none, none] [] σ post
  refine V_run kX6_lose 2 [] (show V 3 MX6_lose 2 [some (vR 5 0), some (vZ s), none, none] [vZ s, vR 5 0] σ post from ?_)
  by_cases h1 : 0 ≤ s ∧ s ≤ 3
  rotate_left
  · skip
    refine V_callV (a := [vZ s]) (rest := []) kX6_lose rfl oX6_sheetOf iX6_sheetOf lk_6_124 rfl rfl rfl (Nat.le_of_ble_eq_true rfl) (Nat.le_of_ble_eq_true rfl) (Nat.le_of_ble_eq_true rfl) (post' := fun zv zσ => V 3 MX6_lose 5 [some (vR 5 0), some (vZ s), none, none] (zv.toList ++ []) zσ post) (c_N_sheetOfN (by omega) h1 ((show V 3 MX6_lose 5 [some (vR 5 0), some (vZ s), none, none] [vN] σ post from ?_))) (fun _ _ h => h)
    refine V_run kX6_lose 4 [] (show V 3 MX6_lose 12 [some (vR 5 0), some (vZ s), some (vN), none] [vZ (-2)] σ post from ?_)
    rw [if_neg (h1)] at hp
    exact V_iret kX6_lose rfl rfl (hp σ dK.rf hR)
  obtain ⟨b, hb⟩ : ∃ b : Nat, 33 + 1 + 2 * s.toNat = b := ⟨_, rfl⟩
  have hshb := RCn_sh hS h1.1 (by omega) hb
  have osb := ho.2.2.2.2 s h1.1 (by omega)
  have hzb := zl_sh h1.1 (by omega) hb
  refine V_callV (a := [vZ s]) (rest := []) kX6_lose rfl oX6_sheetOf iX6_sheetOf lk_6_124 rfl rfl rfl (Nat.le_of_ble_eq_true rfl) (Nat.le_of_ble_eq_true rfl) (Nat.le_of_ble_eq_true rfl) (post' := fun zv zσ => V 3 MX6_lose 5 [some (vR 5 0), some (vZ s), none, none] (zv.toList ++ []) zσ post) (c_N_sheetOf h1.1 (by omega) hb ((show V 3 MX6_lose 5 [some (vR 5 0), some (vZ s), none, none] [vR 2 b] σ post from ?_))) (fun _ _ h => h)
  rw [if_pos h1] at hp
  refine V_run kX6_lose 4 [] (show V 3 MX6_lose 14 [some (vR 5 0), some (vZ s), some (vR 2 b), none] [vR 2 b] σ post from ?_)
  refine V_callV (a := []) (rest := []) kX6_lose rfl oX3_isLost iX3_isLost lk_6_128 rfl rfl rfl (Nat.le_of_ble_eq_true rfl) (Nat.le_of_ble_eq_true rfl) (Nat.le_of_ble_eq_true rfl) (post' := fun zv zσ => V 3 MX6_lose 17 [some (vR 5 0), some (vZ s), some (vR 2 b), none] (zv.toList ++ []) zσ post) (c_S_isLost (by rw [hshb.1]; omega) ((show V 3 MX6_lose 17 [some (vR 5 0), some (vZ s), some (vR 2 b), none] [vZ (if σ.1 b 1 = -1 then 1 else 0)] σ post from ?_))) (fun _ _ h => h)
  refine V_top (show (if σ.1 b 1 = -1 then (1 : Int) else 0) = (if a_hF S s = -1 then 1 else 0) by rw [hshb.1]) ?_
  by_cases h2 : a_hF S s = -1
  · skip
    rw [if_pos h2] at hp
    refine V_top (if_pos h2) ?_
    refine V_run kX6_lose 3 [0] (show (zr 1 ∧ ¬ 1 = 0) ∧ V 3 MX6_lose 22 [some (vR 5 0), some (vZ s), some (vR 2 b), none] [vZ 1, vR 5 0] σ post from ⟨(by omega), ?_⟩)
    refine V_callV (a := [vZ 1]) (rest := []) kX6_lose rfl oX6_found iX6_found lk_6_131 rfl rfl rfl (Nat.le_of_ble_eq_true rfl) (Nat.le_of_ble_eq_true rfl) (Nat.le_of_ble_eq_true rfl) (post' := fun zv zσ => V 3 MX6_lose 25 [some (vR 5 0), some (vZ s), some (vR 2 b), none] (zv.toList ++ []) zσ post) (c_N_found ((show V 3 MX6_lose 25 [some (vR 5 0), some (vZ s), some (vR 2 b), none] [vZ (-10 - 1)] (uI σ 0 11 1) post from ?_))) (fun _ _ h => h)
    exact V_iret kX6_lose rfl rfl (hp _ (dK.rf.u (by decide)) (RC_11 hR))
  · skip
    rw [if_neg h2] at hp
    refine V_top (if_neg h2) ?_
    refine V_run kX6_lose 2 [1] (show (zr 0 ∧ 0 = 0) ∧ V 3 MX6_lose 27 [some (vR 5 0), some (vZ s), some (vR 2 b), none] [vR 2 b] σ post from ⟨(by omega), ?_⟩)
    refine V_callV (a := []) (rest := []) kX6_lose rfl oX3_size iX3_size lk_6_134 rfl rfl rfl (Nat.le_of_ble_eq_true rfl) (Nat.le_of_ble_eq_true rfl) (Nat.le_of_ble_eq_true rfl) (post' := fun zv zσ => V 3 MX6_lose 30 [some (vR 5 0), some (vZ s), some (vR 2 b), none] (zv.toList ++ []) zσ post) (c_S_size ((show V 3 MX6_lose 30 [some (vR 5 0), some (vZ s), some (vR 2 b), none] [vZ (σ.1 b 2)] σ post from ?_))) (fun _ _ h => h)
    refine V_top (hshb.2.1) ?_
    refine V_run kX6_lose 2 [] (show V 3 MX6_lose 32 [some (vR 5 0), some (vZ s), some (vR 2 b), some (vZ (a_hN S s))] [vR 2 b] σ post from ?_)
    refine V_callV (a := []) (rest := []) kX6_lose rfl oX3_beLost iX3_beLost lk_6_257 rfl rfl rfl (Nat.le_of_ble_eq_true rfl) (Nat.le_of_ble_eq_true rfl) (Nat.le_of_ble_eq_true rfl) (post' := fun zv zσ => V 3 MX6_lose 35 [some (vR 5 0), some (vZ s), some (vR 2 b), some (vZ (a_hN S s))] (zv.toList ++ []) zσ post) (c_S_beLost ((show V 3 MX6_lose 35 [some (vR 5 0), some (vZ s), some (vR 2 b), some (vZ (a_hN S s))] [] (uI (uI σ b 1 (-1)) b 2 0) post from ?_))) (fun _ _ h => h)
    refine V_run kX6_lose 1 [] (show V 3 MX6_lose 36 [some (vR 5 0), some (vZ s), some (vR 2 b), some (vZ (a_hN S s))] [vZ (a_hN S s)] (uI (uI σ b 1 (-1)) b 2 0) post from ?_)
    exact V_iret kX6_lose rfl rfl (hp _ (fun a x => ⟨by rw [uI_ne (by omega), uI_ne (by omega)], rfl⟩) (RC_lost hb h1.1 (by omega) hR))
set_option maxHeartbeats 4000000 in
set_option maxRecDepth 100000 in
/-- put -/
theorem c_N_put {s f i v : Int} {S : zAb} {σ : zSt} {post : Option VV → zSt → Prop} (hR : RC σ S) (ho : aOk S) (hs : zr s) (hf : zr f) (hi : zr i) (hv : zr v) (hp : ∀ σ', dK σ σ' → RC σ' (tPut S s f i v).1 → post (some (vZ (tPut S s f i v).2)) σ') : Mc 3 MX6_put [vR 5 0, vZ s, vZ f, vZ i, vZ v] σ post := by
  have hok := aC_ok ho
  have hcn := hok.1
  obtain ⟨hT, hPx, hCo, hG, hS, hK, hF⟩ := id hR
  unfold tPut at hp
  show V 3 MX6_put 0 [some (vR 5 0), some (vZ s), some (vZ f), some (vZ i), some (vZ v), none, none] [] σ post
  refine V_run kX6_put 2 [] (show V 3 MX6_put 2 [some (vR 5 0), some (vZ s), some (vZ f), some (vZ i), some (vZ v), none, none] [vZ s, vR 5 0] σ post from ?_)
  by_cases h1 : 0 ≤ s ∧ s ≤ 3
  rotate_left
  · skip
    refine V_callV (a := [vZ s]) (rest := []) kX6_put rfl oX6_sheetOf iX6_sheetOf lk_6_124 rfl rfl rfl (Nat.le_of_ble_eq_true rfl) (Nat.le_of_ble_eq_true rfl) (Nat.le_of_ble_eq_true rfl) (post' := fun zv zσ => V 3 MX6_put 5 [some (vR 5 0), some (vZ s), some (vZ f), some (vZ i), some (vZ v), none, none] (zv.toList ++ []) zσ post) (c_N_sheetOfN (by omega) h1 ((show V 3 MX6_put 5 [some (vR 5 0), some (vZ s), some (vZ f), some (vZ i), some (vZ v), none, none] [vN] σ post from ?_))) (fun _ _ h => h)
    refine V_run kX6_put 4 [] (show V 3 MX6_put 21 [some (vR 5 0), some (vZ s), some (vZ f), some (vZ i), some (vZ v), some (vN), none] [vZ (-2)] σ post from ?_)
    rw [if_neg (fun q => h1 q.1)] at hp
    exact V_iret kX6_put rfl rfl (hp σ dK.rf hR)
  obtain ⟨b, hb⟩ : ∃ b : Nat, 33 + 1 + 2 * s.toNat = b := ⟨_, rfl⟩
  have hshb := RCn_sh hS h1.1 (by omega) hb
  have osb := ho.2.2.2.2 s h1.1 (by omega)
  have hzb := zl_sh h1.1 (by omega) hb
  refine V_callV (a := [vZ s]) (rest := []) kX6_put rfl oX6_sheetOf iX6_sheetOf lk_6_124 rfl rfl rfl (Nat.le_of_ble_eq_true rfl) (Nat.le_of_ble_eq_true rfl) (Nat.le_of_ble_eq_true rfl) (post' := fun zv zσ => V 3 MX6_put 5 [some (vR 5 0), some (vZ s), some (vZ f), some (vZ i), some (vZ v), none, none] (zv.toList ++ []) zσ post) (c_N_sheetOf h1.1 (by omega) hb ((show V 3 MX6_put 5 [some (vR 5 0), some (vZ s), some (vZ f), some (vZ i), some (vZ v), none, none] [vR 2 b] σ post from ?_))) (fun _ _ h => h)
  refine V_run kX6_put 4 [] (show V 3 MX6_put 13 [some (vR 5 0), some (vZ s), some (vZ f), some (vZ i), some (vZ v), some (vR 2 b), none] [vZ f] σ post from ?_)
  refine V_callS (a := [vZ f]) (rest := []) kX6_put rfl oX6_isForm iX6_isForm lk_6_251 rfl rfl (Nat.le_of_ble_eq_true rfl) (Nat.le_of_ble_eq_true rfl) (Nat.le_of_ble_eq_true rfl) (post' := fun zv zσ => V 3 MX6_put 16 [some (vR 5 0), some (vZ s), some (vZ f), some (vZ i), some (vZ v), some (vR 2 b), none] (zv.toList ++ []) zσ post) (c_N_isForm (by omega) ((show V 3 MX6_put 16 [some (vR 5 0), some (vZ s), some (vZ f), some (vZ i), some (vZ v), some (vR 2 b), none] [vZ (if 0 ≤ f ∧ f ≤ 2 then 1 else 0)] σ post from ?_))) (fun _ _ h => h)
  by_cases h2 : 0 ≤ f ∧ f ≤ 2
  rotate_left
  · skip
    refine V_top (if_neg h2) ?_
    refine V_run kX6_put 2 [0] (show (zr 0 ∧ 0 = 0) ∧ V 3 MX6_put 21 [some (vR 5 0), some (vZ s), some (vZ f), some (vZ i), some (vZ v), some (vR 2 b), none] [vZ (-2)] σ post from ⟨(by omega), ?_⟩)
    rw [if_neg (fun q => h2 q.2)] at hp
    exact V_iret kX6_put rfl rfl (hp σ dK.rf hR)
  refine V_top (if_pos h2) ?_
  refine V_run kX6_put 4 [1] (show (zr 1 ∧ ¬ 1 = 0) ∧ V 3 MX6_put 26 [some (vR 5 0), some (vZ s), some (vZ f), some (vZ i), some (vZ v), some (vR 2 b), none] [vZ i, vZ f, vR 2 b] σ post from ⟨(by omega), ?_⟩)
  rw [if_pos ⟨h1, h2⟩] at hp
  refine V_callV (a := [vZ f, vZ i]) (rest := []) kX6_put rfl oX3_findingAt iX3_findingAt lk_6_260 rfl rfl rfl (Nat.le_of_ble_eq_true rfl) (Nat.le_of_ble_eq_true rfl) (Nat.le_of_ble_eq_true rfl) (post' := fun zv zσ => V 3 MX6_put 29 [some (vR 5 0), some (vZ s), some (vZ f), some (vZ i), some (vZ v), some (vR 2 b), none] (zv.toList ++ []) zσ post) (c_S_findingAt (by rw [hshb.1]; omega) (by rw [hshb.2.1]; omega) (by omega) (by omega) ((show V 3 MX6_put 29 [some (vR 5 0), some (vZ s), some (vZ f), some (vZ i), some (vZ v), some (vR 2 b), none] [vZ (zLack (σ.1 b 1) (σ.1 b 2) f i)] σ post from ?_))) (fun _ _ h => h)
  have hlr := zLack_r (a_hF S s) (a_hN S s) f i
  obtain ⟨k, hk⟩ : ∃ k : Int, k = zLack (a_hF S s) (a_hN S s) f i := ⟨_, rfl⟩
  rw [← hk] at hp hlr
  refine V_top (show zLack (σ.1 b 1) (σ.1 b 2) f i = k by rw [hshb.1, hshb.2.1]; exact hk.symm) ?_
  refine V_run kX6_put 2 [] (show V 3 MX6_put 33 [some (vR 5 0), some (vZ s), some (vZ f), some (vZ i), some (vZ v), some (vR 2 b), some (vZ k)] [vZ k] σ post from ?_)
  by_cases h3 : k = 0
  · skip
    rw [if_pos h3] at hp
    have h4 := zLack_0 (hk.symm.trans h3)
    refine V_run kX6_put 4 [1] (show (zr k ∧ k = 0) ∧ V 3 MX6_put 48 [some (vR 5 0), some (vZ s), some (vZ f), some (vZ i), some (vZ v), some (vR 2 b), some (vZ k)] [vZ v, vZ i, vR 2 b] σ post from ⟨(by omega), ?_⟩)
    refine V_callV (a := [vZ i, vZ v]) (rest := []) kX6_put rfl oX3_setItem iX3_setItem lk_6_263 rfl rfl rfl (Nat.le_of_ble_eq_true rfl) (Nat.le_of_ble_eq_true rfl) (Nat.le_of_ble_eq_true rfl) (post' := fun zv zσ => V 3 MX6_put 51 [some (vR 5 0), some (vZ s), some (vZ f), some (vZ i), some (vZ v), some (vR 2 b), some (vZ k)] (zv.toList ++ []) zσ post) (c_S_setItem (by rw [hshb.1]; omega) hzb (by rw [hshb.2.1]; omega) h4.2.2.1 (by rw [hshb.2.1]; exact h4.2.2.2) ((show V 3 MX6_put 51 [some (vR 5 0), some (vZ s), some (vZ f), some (vZ i), some (vZ v), some (vR 2 b), some (vZ k)] [] (uI σ (b + 1) i (zCut (σ.1 b 1) v)) post from ?_))) (fun _ _ h => h)
    rw [hshb.1]
    show V 3 MX6_put 51 [some (vR 5 0), some (vZ s), some (vZ f), some (vZ i), some (vZ v), some (vR 2 b), some (vZ k)] [] (uI σ (b + 1) i (zCut (a_hF S s) v)) post
    refine V_run kX6_put 1 [] (show V 3 MX6_put 52 [some (vR 5 0), some (vZ s), some (vZ f), some (vZ i), some (vZ v), some (vR 2 b), some (vZ k)] [vZ 1] (uI σ (b + 1) i (zCut (a_hF S s) v)) post from ?_)
    exact V_iret kX6_put rfl rfl (hp _ (dK.rf.u (by omega)) (RC_item hb h1.1 (by omega) hR))
  · skip
    rw [if_neg h3] at hp
    refine V_run kX6_put 3 [0] (show (zr k ∧ ¬ k = 0) ∧ V 3 MX6_put 39 [some (vR 5 0), some (vZ s), some (vZ f), some (vZ i), some (vZ v), some (vR 2 b), some (vZ k)] [vZ k, vR 5 0] σ post from ⟨(by omega), ?_⟩)
    refine V_callV (a := [vZ k]) (rest := []) kX6_put rfl oX6_found iX6_found lk_6_131 rfl rfl rfl (Nat.le_of_ble_eq_true rfl) (Nat.le_of_ble_eq_true rfl) (Nat.le_of_ble_eq_true rfl) (post' := fun zv zσ => V 3 MX6_put 42 [some (vR 5 0), some (vZ s), some (vZ f), some (vZ i), some (vZ v), some (vR 2 b), some (vZ k)] (zv.toList ++ []) zσ post) (c_N_found ((show V 3 MX6_put 42 [some (vR 5 0), some (vZ s), some (vZ f), some (vZ i), some (vZ v), some (vR 2 b), some (vZ k)] [vZ (-10 - k)] (uI σ 0 11 k) post from ?_))) (fun _ _ h => h)
    exact V_iret kX6_put rfl rfl (hp _ (dK.rf.u (by decide)) (RC_11 hR))
set_option maxHeartbeats 4000000 in
set_option maxRecDepth 100000 in
/-- get -/
theorem c_N_get {s f i : Int} {S : zAb} {σ : zSt} {post : Option VV → zSt → Prop} (hR : RC σ S) (ho : aOk S) (hs : zr s) (hf : zr f) (hi : zr i) (hp : ∀ σ', dK σ σ' → RC σ' (tGet S s f i).1 → post (some (vZ (tGet S s f i).2)) σ') : Mc 3 MX6_get [vR 5 0, vZ s, vZ f, vZ i] σ post := by
  have hok := aC_ok ho
  have hcn := hok.1
  obtain ⟨hT, hPx, hCo, hG, hS, hK, hF⟩ := id hR
  unfold tGet at hp
  show V 3 MX6_get 0 [some (vR 5 0), some (vZ s), some (vZ f), some (vZ i), none, none] [] σ post
  refine V_run kX6_get 2 [] (show V 3 MX6_get 2 [some (vR 5 0), some (vZ s), some (vZ f), some (vZ i), none, none] [vZ s, vR 5 0] σ post from ?_)
  by_cases h1 : 0 ≤ s ∧ s ≤ 3
  rotate_left
  · skip
    refine V_callV (a := [vZ s]) (rest := []) kX6_get rfl oX6_sheetOf iX6_sheetOf lk_6_124 rfl rfl rfl (Nat.le_of_ble_eq_true rfl) (Nat.le_of_ble_eq_true rfl) (Nat.le_of_ble_eq_true rfl) (post' := fun zv zσ => V 3 MX6_get 5 [some (vR 5 0), some (vZ s), some (vZ f), some (vZ i), none, none] (zv.toList ++ []) zσ post) (c_N_sheetOfN (by omega) h1 ((show V 3 MX6_get 5 [some (vR 5 0), some (vZ s), some (vZ f), some (vZ i), none, none] [vN] σ post from ?_))) (fun _ _ h => h)
    refine V_run kX6_get 4 [] (show V 3 MX6_get 22 [some (vR 5 0), some (vZ s), some (vZ f), some (vZ i), some (vN), none] [vZ (-2147483648)] σ post from ?_)
    rw [if_neg (fun q => h1 q.1)] at hp
    exact V_iret kX6_get rfl rfl (hp σ dK.rf hR)
  obtain ⟨b, hb⟩ : ∃ b : Nat, 33 + 1 + 2 * s.toNat = b := ⟨_, rfl⟩
  have hshb := RCn_sh hS h1.1 (by omega) hb
  have osb := ho.2.2.2.2 s h1.1 (by omega)
  have hzb := zl_sh h1.1 (by omega) hb
  refine V_callV (a := [vZ s]) (rest := []) kX6_get rfl oX6_sheetOf iX6_sheetOf lk_6_124 rfl rfl rfl (Nat.le_of_ble_eq_true rfl) (Nat.le_of_ble_eq_true rfl) (Nat.le_of_ble_eq_true rfl) (post' := fun zv zσ => V 3 MX6_get 5 [some (vR 5 0), some (vZ s), some (vZ f), some (vZ i), none, none] (zv.toList ++ []) zσ post) (c_N_sheetOf h1.1 (by omega) hb ((show V 3 MX6_get 5 [some (vR 5 0), some (vZ s), some (vZ f), some (vZ i), none, none] [vR 2 b] σ post from ?_))) (fun _ _ h => h)
  refine V_run kX6_get 4 [] (show V 3 MX6_get 13 [some (vR 5 0), some (vZ s), some (vZ f), some (vZ i), some (vR 2 b), none] [vZ f] σ post from ?_)
  refine V_callS (a := [vZ f]) (rest := []) kX6_get rfl oX6_isForm iX6_isForm lk_6_251 rfl rfl (Nat.le_of_ble_eq_true rfl) (Nat.le_of_ble_eq_true rfl) (Nat.le_of_ble_eq_true rfl) (post' := fun zv zσ => V 3 MX6_get 16 [some (vR 5 0), some (vZ s), some (vZ f), some (vZ i), some (vR 2 b), none] (zv.toList ++ []) zσ post) (c_N_isForm (by omega) ((show V 3 MX6_get 16 [some (vR 5 0), some (vZ s), some (vZ f), some (vZ i), some (vR 2 b), none] [vZ (if 0 ≤ f ∧ f ≤ 2 then 1 else 0)] σ post from ?_))) (fun _ _ h => h)
  by_cases h2 : 0 ≤ f ∧ f ≤ 2
  rotate_left
  · skip
    refine V_top (if_neg h2) ?_
    refine V_run kX6_get 2 [0] (show (zr 0 ∧ 0 = 0) ∧ V 3 MX6_get 22 [some (vR 5 0), some (vZ s), some (vZ f), some (vZ i), some (vR 2 b), none] [vZ (-2147483648)] σ post from ⟨(by omega), ?_⟩)
    rw [if_neg (fun q => h2 q.2)] at hp
    exact V_iret kX6_get rfl rfl (hp σ dK.rf hR)
  refine V_top (if_pos h2) ?_
  refine V_run kX6_get 4 [1] (show (zr 1 ∧ ¬ 1 = 0) ∧ V 3 MX6_get 27 [some (vR 5 0), some (vZ s), some (vZ f), some (vZ i), some (vR 2 b), none] [vZ i, vZ f, vR 2 b] σ post from ⟨(by omega), ?_⟩)
  rw [if_pos ⟨h1, h2⟩] at hp
  refine V_callV (a := [vZ f, vZ i]) (rest := []) kX6_get rfl oX3_findingAt iX3_findingAt lk_6_260 rfl rfl rfl (Nat.le_of_ble_eq_true rfl) (Nat.le_of_ble_eq_true rfl) (Nat.le_of_ble_eq_true rfl) (post' := fun zv zσ => V 3 MX6_get 30 [some (vR 5 0), some (vZ s), some (vZ f), some (vZ i), some (vR 2 b), none] (zv.toList ++ []) zσ post) (c_S_findingAt (by rw [hshb.1]; omega) (by rw [hshb.2.1]; omega) (by omega) (by omega) ((show V 3 MX6_get 30 [some (vR 5 0), some (vZ s), some (vZ f), some (vZ i), some (vR 2 b), none] [vZ (zLack (σ.1 b 1) (σ.1 b 2) f i)] σ post from ?_))) (fun _ _ h => h)
  have hlr := zLack_r (a_hF S s) (a_hN S s) f i
  obtain ⟨k, hk⟩ : ∃ k : Int, k = zLack (a_hF S s) (a_hN S s) f i := ⟨_, rfl⟩
  rw [← hk] at hp hlr
  refine V_top (show zLack (σ.1 b 1) (σ.1 b 2) f i = k by rw [hshb.1, hshb.2.1]; exact hk.symm) ?_
  refine V_run kX6_get 2 [] (show V 3 MX6_get 34 [some (vR 5 0), some (vZ s), some (vZ f), some (vZ i), some (vR 2 b), some (vZ k)] [vZ k] σ post from ?_)
  by_cases h3 : k = 0
  · skip
    rw [if_pos h3] at hp
    have h4 := zLack_0 (hk.symm.trans h3)
    refine V_run kX6_get 3 [1] (show (zr k ∧ k = 0) ∧ V 3 MX6_get 51 [some (vR 5 0), some (vZ s), some (vZ f), some (vZ i), some (vR 2 b), some (vZ k)] [vZ i, vR 2 b] σ post from ⟨(by omega), ?_⟩)
    refine V_callV (a := [vZ i]) (rest := []) kX6_get rfl oX3_item iX3_item lk_6_135 rfl rfl rfl (Nat.le_of_ble_eq_true rfl) (Nat.le_of_ble_eq_true rfl) (Nat.le_of_ble_eq_true rfl) (post' := fun zv zσ => V 3 MX6_get 54 [some (vR 5 0), some (vZ s), some (vZ f), some (vZ i), some (vR 2 b), some (vZ k)] (zv.toList ++ []) zσ post) (c_S_item hzb (by rw [hshb.2.1]; omega) h4.2.2.1 (by rw [hshb.2.1]; exact h4.2.2.2) ((show V 3 MX6_get 54 [some (vR 5 0), some (vZ s), some (vZ f), some (vZ i), some (vR 2 b), some (vZ k)] [vZ (σ.1 (b + 1) i)] σ post from ?_))) (fun _ _ h => h)
    refine V_top (hshb.2.2 h4.1 i h4.2.2.1 (by omega)) ?_
    exact V_iret kX6_get rfl rfl (hp σ dK.rf hR)
  · skip
    rw [if_neg h3] at hp
    refine V_run kX6_get 3 [0] (show (zr k ∧ ¬ k = 0) ∧ V 3 MX6_get 40 [some (vR 5 0), some (vZ s), some (vZ f), some (vZ i), some (vR 2 b), some (vZ k)] [vZ k, vR 5 0] σ post from ⟨(by omega), ?_⟩)
    refine V_callV (a := [vZ k]) (rest := []) kX6_get rfl oX6_found iX6_found lk_6_131 rfl rfl rfl (Nat.le_of_ble_eq_true rfl) (Nat.le_of_ble_eq_true rfl) (Nat.le_of_ble_eq_true rfl) (post' := fun zv zσ => V 3 MX6_get 43 [some (vR 5 0), some (vZ s), some (vZ f), some (vZ i), some (vR 2 b), some (vZ k)] (zv.toList ++ []) zσ post) (c_N_found ((show V 3 MX6_get 43 [some (vR 5 0), some (vZ s), some (vZ f), some (vZ i), some (vR 2 b), some (vZ k)] [vZ (-10 - k)] (uI σ 0 11 k) post from ?_))) (fun _ _ h => h)
    refine V_run kX6_get 2 [] (show V 3 MX6_get 47 [some (vR 5 0), some (vZ s), some (vZ f), some (vZ i), some (vR 2 b), some (vZ k)] [vZ (-2147483648)] (uI σ 0 11 k) post from ?_)
    exact V_iret kX6_get rfl rfl (hp _ (dK.rf.u (by decide)) (RC_11 hR))
set_option maxHeartbeats 8000000 in
set_option maxRecDepth 100000 in
/-- copy -/
theorem c_N_copy {s i t j n : Int} {S : zAb} {σ : zSt} {post : Option VV → zSt → Prop} (hR : RC σ S) (ho : aOk S) (hs : zr s) (hi : zr i) (ht : zr t) (hj : zr j) (hn : zr n) (hp : ∀ σ', dK σ σ' → RC σ' (tCopy S s i t j n).1 → post (some (vZ (tCopy S s i t j n).2)) σ') : Mc 3 MX6_copy [vR 5 0, vZ s, vZ i, vZ t, vZ j, vZ n] σ post := by
  have hok := aC_ok ho
  have hcn := hok.1
  obtain ⟨hT, hPx, hCo, hG, hS, hK, hF⟩ := id hR
  unfold tCopy at hp
  show V 3 MX6_copy 0 [some (vR 5 0), some (vZ s), some (vZ i), some (vZ t), some (vZ j), some (vZ n), none, none] [] σ post
  refine V_run kX6_copy 2 [] (show V 3 MX6_copy 2 [some (vR 5 0), some (vZ s), some (vZ i), some (vZ t), some (vZ j), some (vZ n), none, none] [vZ s, vR 5 0] σ post from ?_)
  by_cases h1 : 0 ≤ s ∧ s ≤ 3
  rotate_left
  · skip
    refine V_callV (a := [vZ s]) (rest := []) kX6_copy rfl oX6_sheetOf iX6_sheetOf lk_6_124 rfl rfl rfl (Nat.le_of_ble_eq_true rfl) (Nat.le_of_ble_eq_true rfl) (Nat.le_of_ble_eq_true rfl) (post' := fun zv zσ => V 3 MX6_copy 5 [some (vR 5 0), some (vZ s), some (vZ i), some (vZ t), some (vZ j), some (vZ n), none, none] (zv.toList ++ []) zσ post) (c_N_sheetOfN (by omega) h1 ((show V 3 MX6_copy 5 [some (vR 5 0), some (vZ s), some (vZ i), some (vZ t), some (vZ j), some (vZ n), none, none] [vN] σ post from ?_))) (fun _ _ h => h)
    refine V_run kX6_copy 3 [] (show V 3 MX6_copy 9 [some (vR 5 0), some (vZ s), some (vZ i), some (vZ t), some (vZ j), some (vZ n), some (vN), none] [vZ t, vR 5 0] σ post from ?_)
    rw [if_neg (fun q => h1 q.1)] at hp
    by_cases h2 : 0 ≤ t ∧ t ≤ 3
    · skip
      refine V_callV (a := [vZ t]) (rest := []) kX6_copy rfl oX6_sheetOf iX6_sheetOf lk_6_124 rfl rfl rfl (Nat.le_of_ble_eq_true rfl) (Nat.le_of_ble_eq_true rfl) (Nat.le_of_ble_eq_true rfl) (post' := fun zv zσ => V 3 MX6_copy 12 [some (vR 5 0), some (vZ s), some (vZ i), some (vZ t), some (vZ j), some (vZ n), some (vN), none] (zv.toList ++ []) zσ post) (c_N_sheetOf h2.1 (by omega) rfl ((show V 3 MX6_copy 12 [some (vR 5 0), some (vZ s), some (vZ i), some (vZ t), some (vZ j), some (vZ n), some (vN), none] [vR 2 (33 + 1 + 2 * t.toNat)] σ post from ?_))) (fun _ _ h => h)
      refine V_run kX6_copy 4 [] (show V 3 MX6_copy 26 [some (vR 5 0), some (vZ s), some (vZ i), some (vZ t), some (vZ j), some (vZ n), some (vN), some (vR 2 (33 + 1 + 2 * t.toNat))] [vZ (-2)] σ post from ?_)
      exact V_iret kX6_copy rfl rfl (hp σ dK.rf hR)
    · skip
      refine V_callV (a := [vZ t]) (rest := []) kX6_copy rfl oX6_sheetOf iX6_sheetOf lk_6_124 rfl rfl rfl (Nat.le_of_ble_eq_true rfl) (Nat.le_of_ble_eq_true rfl) (Nat.le_of_ble_eq_true rfl) (post' := fun zv zσ => V 3 MX6_copy 12 [some (vR 5 0), some (vZ s), some (vZ i), some (vZ t), some (vZ j), some (vZ n), some (vN), none] (zv.toList ++ []) zσ post) (c_N_sheetOfN (by omega) h2 ((show V 3 MX6_copy 12 [some (vR 5 0), some (vZ s), some (vZ i), some (vZ t), some (vZ j), some (vZ n), some (vN), none] [vN] σ post from ?_))) (fun _ _ h => h)
      refine V_run kX6_copy 4 [] (show V 3 MX6_copy 26 [some (vR 5 0), some (vZ s), some (vZ i), some (vZ t), some (vZ j), some (vZ n), some (vN), some (vN)] [vZ (-2)] σ post from ?_)
      exact V_iret kX6_copy rfl rfl (hp σ dK.rf hR)
  obtain ⟨a, ha⟩ : ∃ b : Nat, 33 + 1 + 2 * s.toNat = b := ⟨_, rfl⟩
  have hsha := RCn_sh hS h1.1 (by omega) ha
  have osa := ho.2.2.2.2 s h1.1 (by omega)
  have hza := zl_sh h1.1 (by omega) ha
  refine V_callV (a := [vZ s]) (rest := []) kX6_copy rfl oX6_sheetOf iX6_sheetOf lk_6_124 rfl rfl rfl (Nat.le_of_ble_eq_true rfl) (Nat.le_of_ble_eq_true rfl) (Nat.le_of_ble_eq_true rfl) (post' := fun zv zσ => V 3 MX6_copy 5 [some (vR 5 0), some (vZ s), some (vZ i), some (vZ t), some (vZ j), some (vZ n), none, none] (zv.toList ++ []) zσ post) (c_N_sheetOf h1.1 (by omega) ha ((show V 3 MX6_copy 5 [some (vR 5 0), some (vZ s), some (vZ i), some (vZ t), some (vZ j), some (vZ n), none, none] [vR 2 a] σ post from ?_))) (fun _ _ h => h)
  refine V_run kX6_copy 3 [] (show V 3 MX6_copy 9 [some (vR 5 0), some (vZ s), some (vZ i), some (vZ t), some (vZ j), some (vZ n), some (vR 2 a), none] [vZ t, vR 5 0] σ post from ?_)
  by_cases h2 : 0 ≤ t ∧ t ≤ 3
  rotate_left
  · skip
    refine V_callV (a := [vZ t]) (rest := []) kX6_copy rfl oX6_sheetOf iX6_sheetOf lk_6_124 rfl rfl rfl (Nat.le_of_ble_eq_true rfl) (Nat.le_of_ble_eq_true rfl) (Nat.le_of_ble_eq_true rfl) (post' := fun zv zσ => V 3 MX6_copy 12 [some (vR 5 0), some (vZ s), some (vZ i), some (vZ t), some (vZ j), some (vZ n), some (vR 2 a), none] (zv.toList ++ []) zσ post) (c_N_sheetOfN (by omega) h2 ((show V 3 MX6_copy 12 [some (vR 5 0), some (vZ s), some (vZ i), some (vZ t), some (vZ j), some (vZ n), some (vR 2 a), none] [vN] σ post from ?_))) (fun _ _ h => h)
    refine V_run kX6_copy 6 [] (show V 3 MX6_copy 26 [some (vR 5 0), some (vZ s), some (vZ i), some (vZ t), some (vZ j), some (vZ n), some (vR 2 a), some (vN)] [vZ (-2)] σ post from ?_)
    rw [if_neg (fun q => h2 q.2)] at hp
    exact V_iret kX6_copy rfl rfl (hp σ dK.rf hR)
  obtain ⟨b, hb⟩ : ∃ b : Nat, 33 + 1 + 2 * t.toNat = b := ⟨_, rfl⟩
  have hshb := RCn_sh hS h2.1 (by omega) hb
  have osb := ho.2.2.2.2 t h2.1 (by omega)
  have hzb := zl_sh h2.1 (by omega) hb
  refine V_callV (a := [vZ t]) (rest := []) kX6_copy rfl oX6_sheetOf iX6_sheetOf lk_6_124 rfl rfl rfl (Nat.le_of_ble_eq_true rfl) (Nat.le_of_ble_eq_true rfl) (Nat.le_of_ble_eq_true rfl) (post' := fun zv zσ => V 3 MX6_copy 12 [some (vR 5 0), some (vZ s), some (vZ i), some (vZ t), some (vZ j), some (vZ n), some (vR 2 a), none] (zv.toList ++ []) zσ post) (c_N_sheetOf h2.1 (by omega) hb ((show V 3 MX6_copy 12 [some (vR 5 0), some (vZ s), some (vZ i), some (vZ t), some (vZ j), some (vZ n), some (vR 2 a), none] [vR 2 b] σ post from ?_))) (fun _ _ h => h)
  rw [if_pos ⟨h1, h2⟩] at hp
  refine V_run kX6_copy 6 [] (show V 3 MX6_copy 29 [some (vR 5 0), some (vZ s), some (vZ i), some (vZ t), some (vZ j), some (vZ n), some (vR 2 a), some (vR 2 b)] [vR 2 a] σ post from ?_)
  refine V_callV (a := []) (rest := []) kX6_copy rfl oX3_isLost iX3_isLost lk_6_128 rfl rfl rfl (Nat.le_of_ble_eq_true rfl) (Nat.le_of_ble_eq_true rfl) (Nat.le_of_ble_eq_true rfl) (post' := fun zv zσ => V 3 MX6_copy 32 [some (vR 5 0), some (vZ s), some (vZ i), some (vZ t), some (vZ j), some (vZ n), some (vR 2 a), some (vR 2 b)] (zv.toList ++ []) zσ post) (c_S_isLost (by rw [hsha.1]; omega) ((show V 3 MX6_copy 32 [some (vR 5 0), some (vZ s), some (vZ i), some (vZ t), some (vZ j), some (vZ n), some (vR 2 a), some (vR 2 b)] [vZ (if σ.1 a 1 = -1 then 1 else 0)] σ post from ?_))) (fun _ _ h => h)
  refine V_top (show (if σ.1 a 1 = -1 then (1 : Int) else 0) = (if a_hF S s = -1 then 1 else 0) by rw [hsha.1]) ?_
  by_cases h3 : a_hF S s = -1
  · skip
    rw [if_pos (Or.inl h3)] at hp
    refine V_top (if_pos h3) ?_
    refine V_run kX6_copy 3 [1] (show (zr 1 ∧ ¬ 1 = 0) ∧ V 3 MX6_copy 45 [some (vR 5 0), some (vZ s), some (vZ i), some (vZ t), some (vZ j), some (vZ n), some (vR 2 a), some (vR 2 b)] [vZ 1, vR 5 0] σ post from ⟨(by omega), ?_⟩)
    refine V_callV (a := [vZ 1]) (rest := []) kX6_copy rfl oX6_found iX6_found lk_6_131 rfl rfl rfl (Nat.le_of_ble_eq_true rfl) (Nat.le_of_ble_eq_true rfl) (Nat.le_of_ble_eq_true rfl) (post' := fun zv zσ => V 3 MX6_copy 48 [some (vR 5 0), some (vZ s), some (vZ i), some (vZ t), some (vZ j), some (vZ n), some (vR 2 a), some (vR 2 b)] (zv.toList ++ []) zσ post) (c_N_found ((show V 3 MX6_copy 48 [some (vR 5 0), some (vZ s), some (vZ i), some (vZ t), some (vZ j), some (vZ n), some (vR 2 a), some (vR 2 b)] [vZ (-10 - 1)] (uI σ 0 11 1) post from ?_))) (fun _ _ h => h)
    exact V_iret kX6_copy rfl rfl (hp _ (dK.rf.u (by decide)) (RC_11 hR))
  · skip
    refine V_top (if_neg h3) ?_
    refine V_run kX6_copy 2 [0] (show (zr 0 ∧ 0 = 0) ∧ V 3 MX6_copy 37 [some (vR 5 0), some (vZ s), some (vZ i), some (vZ t), some (vZ j), some (vZ n), some (vR 2 a), some (vR 2 b)] [vR 2 b] σ post from ⟨(by omega), ?_⟩)
    refine V_callV (a := []) (rest := []) kX6_copy rfl oX3_isLost iX3_isLost lk_6_128 rfl rfl rfl (Nat.le_of_ble_eq_true rfl) (Nat.le_of_ble_eq_true rfl) (Nat.le_of_ble_eq_true rfl) (post' := fun zv zσ => V 3 MX6_copy 40 [some (vR 5 0), some (vZ s), some (vZ i), some (vZ t), some (vZ j), some (vZ n), some (vR 2 a), some (vR 2 b)] (zv.toList ++ []) zσ post) (c_S_isLost (by rw [hshb.1]; omega) ((show V 3 MX6_copy 40 [some (vR 5 0), some (vZ s), some (vZ i), some (vZ t), some (vZ j), some (vZ n), some (vR 2 a), some (vR 2 b)] [vZ (if σ.1 b 1 = -1 then 1 else 0)] σ post from ?_))) (fun _ _ h => h)
    refine V_top (show (if σ.1 b 1 = -1 then (1 : Int) else 0) = (if a_hF S t = -1 then 1 else 0) by rw [hshb.1]) ?_
    by_cases h4 : a_hF S t = -1
    · skip
      rw [if_pos (Or.inr h4)] at hp
      refine V_top (if_pos h4) ?_
      refine V_run kX6_copy 3 [0] (show (zr 1 ∧ ¬ 1 = 0) ∧ V 3 MX6_copy 45 [some (vR 5 0), some (vZ s), some (vZ i), some (vZ t), some (vZ j), some (vZ n), some (vR 2 a), some (vR 2 b)] [vZ 1, vR 5 0] σ post from ⟨(by omega), ?_⟩)
      refine V_callV (a := [vZ 1]) (rest := []) kX6_copy rfl oX6_found iX6_found lk_6_131 rfl rfl rfl (Nat.le_of_ble_eq_true rfl) (Nat.le_of_ble_eq_true rfl) (Nat.le_of_ble_eq_true rfl) (post' := fun zv zσ => V 3 MX6_copy 48 [some (vR 5 0), some (vZ s), some (vZ i), some (vZ t), some (vZ j), some (vZ n), some (vR 2 a), some (vR 2 b)] (zv.toList ++ []) zσ post) (c_N_found ((show V 3 MX6_copy 48 [some (vR 5 0), some (vZ s), some (vZ i), some (vZ t), some (vZ j), some (vZ n), some (vR 2 a), some (vR 2 b)] [vZ (-10 - 1)] (uI σ 0 11 1) post from ?_))) (fun _ _ h => h)
      exact V_iret kX6_copy rfl rfl (hp _ (dK.rf.u (by decide)) (RC_11 hR))
    · skip
      rw [if_neg (fun q => q.elim h3 h4)] at hp
      refine V_top (if_neg h4) ?_
      refine V_run kX6_copy 2 [1] (show (zr 0 ∧ 0 = 0) ∧ V 3 MX6_copy 51 [some (vR 5 0), some (vZ s), some (vZ i), some (vZ t), some (vZ j), some (vZ n), some (vR 2 a), some (vR 2 b)] [vR 2 a] σ post from ⟨(by omega), ?_⟩)
      refine V_callV (a := []) (rest := []) kX6_copy rfl oX3_form iX3_form lk_6_267 rfl rfl rfl (Nat.le_of_ble_eq_true rfl) (Nat.le_of_ble_eq_true rfl) (Nat.le_of_ble_eq_true rfl) (post' := fun zv zσ => V 3 MX6_copy 54 [some (vR 5 0), some (vZ s), some (vZ i), some (vZ t), some (vZ j), some (vZ n), some (vR 2 a), some (vR 2 b)] (zv.toList ++ []) zσ post) (c_S_form ((show V 3 MX6_copy 54 [some (vR 5 0), some (vZ s), some (vZ i), some (vZ t), some (vZ j), some (vZ n), some (vR 2 a), some (vR 2 b)] [vZ (σ.1 a 1)] σ post from ?_))) (fun _ _ h => h)
      refine V_top (hsha.1) ?_
      refine V_run kX6_copy 1 [] (show V 3 MX6_copy 56 [some (vR 5 0), some (vZ s), some (vZ i), some (vZ t), some (vZ j), some (vZ n), some (vR 2 a), some (vR 2 b)] [vR 2 b, vZ (a_hF S s)] σ post from ?_)
      refine V_callV (a := []) (rest := [vZ (a_hF S s)]) kX6_copy rfl oX3_form iX3_form lk_6_267 rfl rfl rfl (Nat.le_of_ble_eq_true rfl) (Nat.le_of_ble_eq_true rfl) (Nat.le_of_ble_eq_true rfl) (post' := fun zv zσ => V 3 MX6_copy 59 [some (vR 5 0), some (vZ s), some (vZ i), some (vZ t), some (vZ j), some (vZ n), some (vR 2 a), some (vR 2 b)] (zv.toList ++ [vZ (a_hF S s)]) zσ post) (c_S_form ((show V 3 MX6_copy 59 [some (vR 5 0), some (vZ s), some (vZ i), some (vZ t), some (vZ j), some (vZ n), some (vR 2 a), some (vR 2 b)] [vZ (σ.1 b 1), vZ (a_hF S s)] σ post from ?_))) (fun _ _ h => h)
      refine V_top (hshb.1) ?_
      by_cases h5 : a_hF S s = a_hF S t
      rotate_left
      · skip
        rw [if_pos h5] at hp
        refine V_run kX6_copy 3 [0] (show (zr (a_hF S s) ∧ zr (a_hF S t) ∧ ¬ (a_hF S s) = (a_hF S t)) ∧ V 3 MX6_copy 64 [some (vR 5 0), some (vZ s), some (vZ i), some (vZ t), some (vZ j), some (vZ n), some (vR 2 a), some (vR 2 b)] [vZ 4, vR 5 0] σ post from ⟨(by omega), ?_⟩)
        refine V_callV (a := [vZ 4]) (rest := []) kX6_copy rfl oX6_found iX6_found lk_6_131 rfl rfl rfl (Nat.le_of_ble_eq_true rfl) (Nat.le_of_ble_eq_true rfl) (Nat.le_of_ble_eq_true rfl) (post' := fun zv zσ => V 3 MX6_copy 67 [some (vR 5 0), some (vZ s), some (vZ i), some (vZ t), some (vZ j), some (vZ n), some (vR 2 a), some (vR 2 b)] (zv.toList ++ []) zσ post) (c_N_found ((show V 3 MX6_copy 67 [some (vR 5 0), some (vZ s), some (vZ i), some (vZ t), some (vZ j), some (vZ n), some (vR 2 a), some (vR 2 b)] [vZ (-10 - 4)] (uI σ 0 11 4) post from ?_))) (fun _ _ h => h)
        exact V_iret kX6_copy rfl rfl (hp _ (dK.rf.u (by decide)) (RC_11 hR))
      rw [if_neg (fun q => q h5)] at hp
      refine V_run kX6_copy 4 [1] (show (zr (a_hF S s) ∧ zr (a_hF S t) ∧ (a_hF S s) = (a_hF S t)) ∧ V 3 MX6_copy 73 [some (vR 5 0), some (vZ s), some (vZ i), some (vZ t), some (vZ j), some (vZ n), some (vR 2 a), some (vR 2 b)] [vZ n, vZ i, vR 2 a] σ post from ⟨(by omega), ?_⟩)
      refine V_callV (a := [vZ i, vZ n]) (rest := []) kX6_copy rfl oX3_hasItems iX3_hasItems lk_6_270 rfl rfl rfl (Nat.le_of_ble_eq_true rfl) (Nat.le_of_ble_eq_true rfl) (Nat.le_of_ble_eq_true rfl) (post' := fun zv zσ => V 3 MX6_copy 76 [some (vR 5 0), some (vZ s), some (vZ i), some (vZ t), some (vZ j), some (vZ n), some (vR 2 a), some (vR 2 b)] (zv.toList ++ []) zσ post) (c_S_hasItems (by rw [hsha.2.1]; omega) (by omega) (by omega) ((show V 3 MX6_copy 76 [some (vR 5 0), some (vZ s), some (vZ i), some (vZ t), some (vZ j), some (vZ n), some (vR 2 a), some (vR 2 b)] [vZ (zHas (σ.1 a 2) i n)] σ post from ?_))) (fun _ _ h => h)
      refine V_top (show zHas (σ.1 a 2) i n = (if 0 ≤ i ∧ 0 ≤ n ∧ n ≤ a_hN S s - i then 1 else 0) by rw [hsha.2.1]; rfl) ?_
      by_cases h6 : 0 ≤ i ∧ 0 ≤ n ∧ n ≤ a_hN S s - i
      rotate_left
      · skip
        rw [if_neg (by omega)] at hp
        refine V_top (if_neg h6) ?_
        refine V_run kX6_copy 3 [1] (show (zr 0 ∧ 0 = 0) ∧ V 3 MX6_copy 93 [some (vR 5 0), some (vZ s), some (vZ i), some (vZ t), some (vZ j), some (vZ n), some (vR 2 a), some (vR 2 b)] [vZ 2, vR 5 0] σ post from ⟨(by omega), ?_⟩)
        refine V_callV (a := [vZ 2]) (rest := []) kX6_copy rfl oX6_found iX6_found lk_6_131 rfl rfl rfl (Nat.le_of_ble_eq_true rfl) (Nat.le_of_ble_eq_true rfl) (Nat.le_of_ble_eq_true rfl) (post' := fun zv zσ => V 3 MX6_copy 96 [some (vR 5 0), some (vZ s), some (vZ i), some (vZ t), some (vZ j), some (vZ n), some (vR 2 a), some (vR 2 b)] (zv.toList ++ []) zσ post) (c_N_found ((show V 3 MX6_copy 96 [some (vR 5 0), some (vZ s), some (vZ i), some (vZ t), some (vZ j), some (vZ n), some (vR 2 a), some (vR 2 b)] [vZ (-10 - 2)] (uI σ 0 11 2) post from ?_))) (fun _ _ h => h)
        exact V_iret kX6_copy rfl rfl (hp _ (dK.rf.u (by decide)) (RC_11 hR))
      refine V_top (if_pos h6) ?_
      refine V_run kX6_copy 4 [0] (show (zr 1 ∧ ¬ 1 = 0) ∧ V 3 MX6_copy 85 [some (vR 5 0), some (vZ s), some (vZ i), some (vZ t), some (vZ j), some (vZ n), some (vR 2 a), some (vR 2 b)] [vZ n, vZ j, vR 2 b] σ post from ⟨(by omega), ?_⟩)
      refine V_callV (a := [vZ j, vZ n]) (rest := []) kX6_copy rfl oX3_hasItems iX3_hasItems lk_6_270 rfl rfl rfl (Nat.le_of_ble_eq_true rfl) (Nat.le_of_ble_eq_true rfl) (Nat.le_of_ble_eq_true rfl) (post' := fun zv zσ => V 3 MX6_copy 88 [some (vR 5 0), some (vZ s), some (vZ i), some (vZ t), some (vZ j), some (vZ n), some (vR 2 a), some (vR 2 b)] (zv.toList ++ []) zσ post) (c_S_hasItems (by rw [hshb.2.1]; omega) (by omega) (by omega) ((show V 3 MX6_copy 88 [some (vR 5 0), some (vZ s), some (vZ i), some (vZ t), some (vZ j), some (vZ n), some (vR 2 a), some (vR 2 b)] [vZ (zHas (σ.1 b 2) j n)] σ post from ?_))) (fun _ _ h => h)
      refine V_top (show zHas (σ.1 b 2) j n = (if 0 ≤ j ∧ 0 ≤ n ∧ n ≤ a_hN S t - j then 1 else 0) by rw [hshb.2.1]; rfl) ?_
      by_cases h7 : 0 ≤ j ∧ 0 ≤ n ∧ n ≤ a_hN S t - j
      rotate_left
      · skip
        rw [if_neg (by omega)] at hp
        refine V_top (if_neg h7) ?_
        refine V_run kX6_copy 3 [0] (show (zr 0 ∧ 0 = 0) ∧ V 3 MX6_copy 93 [some (vR 5 0), some (vZ s), some (vZ i), some (vZ t), some (vZ j), some (vZ n), some (vR 2 a), some (vR 2 b)] [vZ 2, vR 5 0] σ post from ⟨(by omega), ?_⟩)
        refine V_callV (a := [vZ 2]) (rest := []) kX6_copy rfl oX6_found iX6_found lk_6_131 rfl rfl rfl (Nat.le_of_ble_eq_true rfl) (Nat.le_of_ble_eq_true rfl) (Nat.le_of_ble_eq_true rfl) (post' := fun zv zσ => V 3 MX6_copy 96 [some (vR 5 0), some (vZ s), some (vZ i), some (vZ t), some (vZ j), some (vZ n), some (vR 2 a), some (vR 2 b)] (zv.toList ++ []) zσ post) (c_N_found ((show V 3 MX6_copy 96 [some (vR 5 0), some (vZ s), some (vZ i), some (vZ t), some (vZ j), some (vZ n), some (vR 2 a), some (vR 2 b)] [vZ (-10 - 2)] (uI σ 0 11 2) post from ?_))) (fun _ _ h => h)
        exact V_iret kX6_copy rfl rfl (hp _ (dK.rf.u (by decide)) (RC_11 hR))
      refine V_top (if_pos h7) ?_
      refine V_run kX6_copy 6 [1] (show (zr 1 ∧ ¬ 1 = 0) ∧ V 3 MX6_copy 106 [some (vR 5 0), some (vZ s), some (vZ i), some (vZ t), some (vZ j), some (vZ n), some (vR 2 a), some (vR 2 b)] [vZ n, vZ i, vR 2 a, vZ j, vR 2 b] σ post from ⟨(by omega), ?_⟩)
      rw [if_pos (by omega)] at hp
      refine V_callV (a := [vZ j, vR 2 a, vZ i, vZ n]) (rest := []) kX6_copy rfl oX3_takeItems iX3_takeItems lk_6_273 rfl rfl rfl (Nat.le_of_ble_eq_true rfl) (Nat.le_of_ble_eq_true rfl) (Nat.le_of_ble_eq_true rfl) (post' := fun zv zσ => V 3 MX6_copy 109 [some (vR 5 0), some (vZ s), some (vZ i), some (vZ t), some (vZ j), some (vZ n), some (vR 2 a), some (vR 2 b)] (zv.toList ++ []) zσ post) (c_S_takeItems hzb (by rw [hshb.2.1]; omega) hza (by rw [hsha.2.1]; omega) h7.1 h6.1 h6.2.1 (by rw [hshb.2.1]; omega) (by rw [hsha.2.1]; omega) ((show V 3 MX6_copy 109 [some (vR 5 0), some (vZ s), some (vZ i), some (vZ t), some (vZ j), some (vZ n), some (vR 2 a), some (vR 2 b)] [] (cpI σ (a + 1) i (b + 1) j n) post from ?_))) (fun _ _ h => h)
      refine V_run kX6_copy 1 [] (show V 3 MX6_copy 110 [some (vR 5 0), some (vZ s), some (vZ i), some (vZ t), some (vZ j), some (vZ n), some (vR 2 a), some (vR 2 b)] [vZ 1] (cpI σ (a + 1) i (b + 1) j n) post from ?_)
      exact V_iret kX6_copy rfl rfl (hp _ (fun q x => ⟨cpI_ne (by omega), rfl⟩) (RC_copy ha h1.1 (by omega) h3 hb h2.1 (by omega) hR h6.1 (by omega) h7.1))
set_option maxHeartbeats 8000000 in
set_option maxRecDepth 100000 in
/-- write -/
theorem c_N_write {t s : Int} {S : zAb} {σ : zSt} {post : Option VV → zSt → Prop} (hR : RC σ S) (ho : aOk S) (ht : zr t) (hs : zr s) (hp : ∀ σ', dK σ σ' → RC σ' (tWrite S t s).1 → post (some (vZ (tWrite S t s).2)) σ') : Mc 3 MX6_write [vR 5 0, vZ t, vZ s] σ post := by
  have hok := aC_ok ho
  have hcn := hok.1
  obtain ⟨hT, hPx, hCo, hG, hS, hK, hF⟩ := id hR
  unfold tWrite at hp
  show V 3 MX6_write 0 [some (vR 5 0), some (vZ t), some (vZ s), none, none, none] [] σ post
  refine V_run kX6_write 2 [] (show V 3 MX6_write 2 [some (vR 5 0), some (vZ t), some (vZ s), none, none, none] [vZ s, vR 5 0] σ post from ?_)
  by_cases h2 : 0 ≤ s ∧ s ≤ 3
  rotate_left
  · skip
    refine V_callV (a := [vZ s]) (rest := []) kX6_write rfl oX6_sheetOf iX6_sheetOf lk_6_124 rfl rfl rfl (Nat.le_of_ble_eq_true rfl) (Nat.le_of_ble_eq_true rfl) (Nat.le_of_ble_eq_true rfl) (post' := fun zv zσ => V 3 MX6_write 5 [some (vR 5 0), some (vZ t), some (vZ s), none, none, none] (zv.toList ++ []) zσ post) (c_N_sheetOfN (by omega) h2 ((show V 3 MX6_write 5 [some (vR 5 0), some (vZ t), some (vZ s), none, none, none] [vN] σ post from ?_))) (fun _ _ h => h)
    refine V_run kX6_write 2 [] (show V 3 MX6_write 7 [some (vR 5 0), some (vZ t), some (vZ s), some (vN), none, none] [vZ t] σ post from ?_)
    refine V_callS (a := [vZ t]) (rest := []) kX6_write rfl oX6_isMinute iX6_isMinute lk_6_105 rfl rfl (Nat.le_of_ble_eq_true rfl) (Nat.le_of_ble_eq_true rfl) (Nat.le_of_ble_eq_true rfl) (post' := fun zv zσ => V 3 MX6_write 10 [some (vR 5 0), some (vZ t), some (vZ s), some (vN), none, none] (zv.toList ++ []) zσ post) (c_N_isMinute (by omega) ((show V 3 MX6_write 10 [some (vR 5 0), some (vZ t), some (vZ s), some (vN), none, none] [vZ (if 0 ≤ t ∧ t ≤ 23 then 1 else 0)] σ post from ?_))) (fun _ _ h => h)
    by_cases h1 : 0 ≤ t ∧ t ≤ 23
    rotate_left
    · skip
      refine V_top (if_neg h1) ?_
      refine V_run kX6_write 2 [1] (show (zr 0 ∧ 0 = 0) ∧ V 3 MX6_write 19 [some (vR 5 0), some (vZ t), some (vZ s), some (vN), none, none] [vZ (-2)] σ post from ⟨(by omega), ?_⟩)
      rw [if_neg (fun q => h1 q.1)] at hp
      exact V_iret kX6_write rfl rfl (hp σ dK.rf hR)
    refine V_top (if_pos h1) ?_
    refine V_run kX6_write 4 [0] (show (zr 1 ∧ ¬ 1 = 0) ∧ V 3 MX6_write 19 [some (vR 5 0), some (vZ t), some (vZ s), some (vN), none, none] [vZ (-2)] σ post from ⟨(by omega), ?_⟩)
    rw [if_neg (fun q => h2 q.2)] at hp
    exact V_iret kX6_write rfl rfl (hp σ dK.rf hR)
  obtain ⟨b, hb⟩ : ∃ b : Nat, 33 + 1 + 2 * s.toNat = b := ⟨_, rfl⟩
  have hshb := RCn_sh hS h2.1 (by omega) hb
  have osb := ho.2.2.2.2 s h2.1 (by omega)
  have hzb := zl_sh h2.1 (by omega) hb
  refine V_callV (a := [vZ s]) (rest := []) kX6_write rfl oX6_sheetOf iX6_sheetOf lk_6_124 rfl rfl rfl (Nat.le_of_ble_eq_true rfl) (Nat.le_of_ble_eq_true rfl) (Nat.le_of_ble_eq_true rfl) (post' := fun zv zσ => V 3 MX6_write 5 [some (vR 5 0), some (vZ t), some (vZ s), none, none, none] (zv.toList ++ []) zσ post) (c_N_sheetOf h2.1 (by omega) hb ((show V 3 MX6_write 5 [some (vR 5 0), some (vZ t), some (vZ s), none, none, none] [vR 2 b] σ post from ?_))) (fun _ _ h => h)
  refine V_run kX6_write 2 [] (show V 3 MX6_write 7 [some (vR 5 0), some (vZ t), some (vZ s), some (vR 2 b), none, none] [vZ t] σ post from ?_)
  refine V_callS (a := [vZ t]) (rest := []) kX6_write rfl oX6_isMinute iX6_isMinute lk_6_105 rfl rfl (Nat.le_of_ble_eq_true rfl) (Nat.le_of_ble_eq_true rfl) (Nat.le_of_ble_eq_true rfl) (post' := fun zv zσ => V 3 MX6_write 10 [some (vR 5 0), some (vZ t), some (vZ s), some (vR 2 b), none, none] (zv.toList ++ []) zσ post) (c_N_isMinute (by omega) ((show V 3 MX6_write 10 [some (vR 5 0), some (vZ t), some (vZ s), some (vR 2 b), none, none] [vZ (if 0 ≤ t ∧ t ≤ 23 then 1 else 0)] σ post from ?_))) (fun _ _ h => h)
  by_cases h1 : 0 ≤ t ∧ t ≤ 23
  rotate_left
  · skip
    refine V_top (if_neg h1) ?_
    refine V_run kX6_write 2 [1] (show (zr 0 ∧ 0 = 0) ∧ V 3 MX6_write 19 [some (vR 5 0), some (vZ t), some (vZ s), some (vR 2 b), none, none] [vZ (-2)] σ post from ⟨(by omega), ?_⟩)
    rw [if_neg (fun q => h1 q.1)] at hp
    exact V_iret kX6_write rfl rfl (hp σ dK.rf hR)
  refine V_top (if_pos h1) ?_
  rw [if_pos ⟨h1, h2⟩] at hp
  refine V_run kX6_write 4 [0] (show (zr 1 ∧ ¬ 1 = 0) ∧ V 3 MX6_write 21 [some (vR 5 0), some (vZ t), some (vZ s), some (vR 2 b), none, none] [vR 2 b] σ post from ⟨(by omega), ?_⟩)
  refine V_callV (a := []) (rest := []) kX6_write rfl oX3_isLost iX3_isLost lk_6_128 rfl rfl rfl (Nat.le_of_ble_eq_true rfl) (Nat.le_of_ble_eq_true rfl) (Nat.le_of_ble_eq_true rfl) (post' := fun zv zσ => V 3 MX6_write 24 [some (vR 5 0), some (vZ t), some (vZ s), some (vR 2 b), none, none] (zv.toList ++ []) zσ post) (c_S_isLost (by rw [hshb.1]; omega) ((show V 3 MX6_write 24 [some (vR 5 0), some (vZ t), some (vZ s), some (vR 2 b), none, none] [vZ (if σ.1 b 1 = -1 then 1 else 0)] σ post from ?_))) (fun _ _ h => h)
  refine V_top (show (if σ.1 b 1 = -1 then (1 : Int) else 0) = (if a_hF S s = -1 then 1 else 0) by rw [hshb.1]) ?_
  by_cases h3 : a_hF S s = -1
  · skip
    rw [if_pos h3] at hp
    refine V_top (if_pos h3) ?_
    refine V_run kX6_write 3 [0] (show (zr 1 ∧ ¬ 1 = 0) ∧ V 3 MX6_write 29 [some (vR 5 0), some (vZ t), some (vZ s), some (vR 2 b), none, none] [vZ 1, vR 5 0] σ post from ⟨(by omega), ?_⟩)
    refine V_callV (a := [vZ 1]) (rest := []) kX6_write rfl oX6_found iX6_found lk_6_131 rfl rfl rfl (Nat.le_of_ble_eq_true rfl) (Nat.le_of_ble_eq_true rfl) (Nat.le_of_ble_eq_true rfl) (post' := fun zv zσ => V 3 MX6_write 32 [some (vR 5 0), some (vZ t), some (vZ s), some (vR 2 b), none, none] (zv.toList ++ []) zσ post) (c_N_found ((show V 3 MX6_write 32 [some (vR 5 0), some (vZ t), some (vZ s), some (vR 2 b), none, none] [vZ (-10 - 1)] (uI σ 0 11 1) post from ?_))) (fun _ _ h => h)
    exact V_iret kX6_write rfl rfl (hp _ (dK.rf.u (by decide)) (RC_11 hR))
  · skip
    rw [if_neg h3] at hp
    refine V_top (if_neg h3) ?_
    refine V_run kX6_write 2 [1] (show (zr 0 ∧ 0 = 0) ∧ V 3 MX6_write 34 [some (vR 5 0), some (vZ t), some (vZ s), some (vR 2 b), none, none] [vR 2 b] σ post from ⟨(by omega), ?_⟩)
    refine V_callV (a := []) (rest := []) kX6_write rfl oX3_size iX3_size lk_6_134 rfl rfl rfl (Nat.le_of_ble_eq_true rfl) (Nat.le_of_ble_eq_true rfl) (Nat.le_of_ble_eq_true rfl) (post' := fun zv zσ => V 3 MX6_write 37 [some (vR 5 0), some (vZ t), some (vZ s), some (vR 2 b), none, none] (zv.toList ++ []) zσ post) (c_S_size ((show V 3 MX6_write 37 [some (vR 5 0), some (vZ t), some (vZ s), some (vR 2 b), none, none] [vZ (σ.1 b 2)] σ post from ?_))) (fun _ _ h => h)
    refine V_top (hshb.2.1) ?_
    refine V_run kX6_write 1 [] (show V 3 MX6_write 39 [some (vR 5 0), some (vZ t), some (vZ s), some (vR 2 b), none, none] [vZ 12, vZ (a_hN S s)] σ post from ?_)
    refine V_min kX6_write rfl lk_6_277 (by decide) (Nat.le_of_ble_eq_true rfl) (by omega) (by decide) (show V 3 MX6_write 42 [some (vR 5 0), some (vZ t), some (vZ s), some (vR 2 b), none, none] [vZ (if 12 < a_hN S s then 12 else a_hN S s)] σ post from ?_)
    have hmn : zMin12 (a_hN S s) ≤ a_hN S s ∧ zMin12 (a_hN S s) ≤ 12 ∧ 0 ≤ zMin12 (a_hN S s) := by unfold zMin12; split <;> omega
    obtain ⟨N, hN⟩ : ∃ N : Int, N = zMin12 (a_hN S s) := ⟨_, rfl⟩
    rw [← hN] at hp hmn
    refine V_top (show (if 12 < a_hN S s then 12 else a_hN S s) = N by rw [hN]; unfold zMin12; (repeat' split) <;> omega) ?_
    refine V_run kX6_write 3 [] (show V 3 MX6_write 47 [some (vR 5 0), some (vZ t), some (vZ s), some (vR 2 b), some (vZ N), some (vZ 0)] [] σ post from ?_)
    have loop : ∀ (m : Nat) (k : Int), 0 ≤ k → k + m = N → ∀ σ2 : zSt, dK σ σ2 → RC σ2 (aWriteS S t s k) → V 3 MX6_write 47 [some (vR 5 0), some (vZ t), some (vZ s), some (vR 2 b), some (vZ N), some (vZ k)] [] σ2 post := by
      intro m
      induction m with
      | zero =>
        intro k k0 k1 σ2 hk hR2
        have hkn : k = N := by omega
        subst hkn
        refine V_run kX6_write 4 [1] (show (zr k ∧ zr k ∧ k ≤ k) ∧ V 3 MX6_write 78 [some (vR 5 0), some (vZ t), some (vZ s), some (vR 2 b), some (vZ k), some (vZ k)] [vZ k] σ2 post from ⟨(by omega), ?_⟩)
        exact V_iret kX6_write rfl rfl (hp σ2 hk hR2)
      | succ m ih =>
        intro k k0 k1 σ2 hk hR2
        have hsh2 := RCn_sh hR2.2.2.2.2.1 h2.1 (by omega) hb
        have e1 : σ2.1 b 1 = a_hF S s := hsh2.1
        have e2 : σ2.1 b 2 = a_hN S s := hsh2.2.1
        have hwr := zWho_rng hok t (j := k) k0
        refine V_run kX6_write 9 [0] (show (zr k ∧ zr N ∧ k < N) ∧ V 3 MX6_write 64 [some (vR 5 0), some (vZ t), some (vZ s), some (vR 2 b), some (vZ N), some (vZ k)] [vZ k, vZ t, vR 0 23, vZ k, vR 2 b] σ2 post from ⟨(by omega), ?_⟩)
        refine V_callV (a := [vZ t, vZ k]) (rest := [vZ k, vR 2 b]) kX6_write rfl oX0_whoAt iX0_whoAt lk_6_138 rfl rfl rfl (Nat.le_of_ble_eq_true rfl) (Nat.le_of_ble_eq_true rfl) (Nat.le_of_ble_eq_true rfl) (post' := fun zv zσ => V 3 MX6_write 67 [some (vR 5 0), some (vZ t), some (vZ s), some (vR 2 b), some (vZ N), some (vZ k)] (zv.toList ++ [vZ k, vR 2 b]) zσ post) (c_C_whoAt (b := 23) hok rfl rfl (show zCo σ2 23 (aC S) 24 from hR2.2.2.1) h1.1 (by omega) k0 (by omega) ((show V 3 MX6_write 67 [some (vR 5 0), some (vZ t), some (vZ s), some (vR 2 b), some (vZ N), some (vZ k)] [vZ (zWho (aC S) t k), vZ k, vR 2 b] σ2 post from ?_))) (fun _ _ h => h)
        refine V_callV (a := [vZ k, vZ (zWho (aC S) t k)]) (rest := []) kX6_write rfl oX3_setItem iX3_setItem lk_6_263 rfl rfl rfl (Nat.le_of_ble_eq_true rfl) (Nat.le_of_ble_eq_true rfl) (Nat.le_of_ble_eq_true rfl) (post' := fun zv zσ => V 3 MX6_write 70 [some (vR 5 0), some (vZ t), some (vZ s), some (vR 2 b), some (vZ N), some (vZ k)] (zv.toList ++ []) zσ post) (c_S_setItem (by rw [e1]; omega) hzb (by rw [e2]; omega) k0 (by rw [e2]; omega) ((show V 3 MX6_write 70 [some (vR 5 0), some (vZ t), some (vZ s), some (vR 2 b), some (vZ N), some (vZ k)] [] (uI σ2 (b + 1) k (zCut (σ2.1 b 1) (zWho (aC S) t k))) post from ?_))) (fun _ _ h => h)
        rw [e1]
        show V 3 MX6_write 70 [some (vR 5 0), some (vZ t), some (vZ s), some (vR 2 b), some (vZ N), some (vZ k)] [] (uI σ2 (b + 1) k (zCut (a_hF S s) (zWho (aC S) t k))) post
        refine V_run kX6_write 2 [] (show V 3 MX6_write 47 [some (vR 5 0), some (vZ t), some (vZ s), some (vR 2 b), some (vZ N), some (vZ (k + 1))] [] (uI σ2 (b + 1) k (zCut (a_hF S s) (zWho (aC S) t k))) post from ?_)
        have h := RC_item (i := k) (v := zCut (a_hF S s) (zWho (aC S) t k)) hb h2.1 (by omega) hR2
        rw [aWrite_s k0] at h
        exact ih (k + 1) (by omega) (by omega) _ (hk.u (by omega)) h
    exact loop N.toNat 0 (by omega) (by omega) σ dK.rf (by rw [aWrite_0]; exact hR)
