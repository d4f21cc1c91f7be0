set_option maxHeartbeats 4000000 in
set_option maxRecDepth 100000 in
/-- asTold -/
theorem c_M_asTold3 {S : zAb} {σ : zSt} {post : Option VV → zSt → Prop} (hR : RM σ S) (ho : aOk S) (hp : ∀ σ', mKeep σ σ' → zMc σ' (aC S) → σ'.1 44 2 = cn (aC S) → σ'.1 44 6 = zwho 0 (a_wF S) (a_wN S) → post none σ') : Mc 6 MX7_asTold [vR 6 44] σ post := by
  have hT := RM_t hR ho
  have hok := aC_ok ho
  have hEn := ho.2.2.1
  show V 6 MX7_asTold 0 [some (vR 6 44), none] [] σ post
  refine V_run kX7_asTold 1 [] (show V 6 MX7_asTold 1 [some (vR 6 44), none] [vR 6 44] σ post from ?_)
  refine V_callV (a := []) (rest := []) kX7_asTold rfl oX7_reads iX7_reads lk_7_143 rfl rfl rfl (Nat.le_of_ble_eq_true rfl) (Nat.le_of_ble_eq_true rfl) (Nat.le_of_ble_eq_true rfl) (post' := fun zv zσ => V 6 MX7_asTold 4 [some (vR 6 44), none] (zv.toList ++ []) zσ post) (c_M_reads hT (fun σ1 hf1 hd1 => (show V 6 MX7_asTold 4 [some (vR 6 44), none] [] σ1 post from ?_))) (fun _ _ h => h)
  have hR1 := RM_k hf1.k hR
  have hw := RM_who hR1
  have e8 : σ1.1 44 8 = a_eN S := hR1.2.2.1.1
  refine V_run kX7_asTold 3 [] (show V 6 MX7_asTold 9 [some (vR 6 44), none] [vZ (σ1.1 44 8), vR 6 44] σ1 post from ?_)
  refine V_top (e8) ?_
  refine V_run kX7_asTold 3 [] (show V 6 MX7_asTold 14 [some (vR 6 44), some (vZ 0)] [] (uI σ1 44 12 (a_eN S)) post from ?_)
  have loop : ∀ (m : Nat) (i : Int), 0 ≤ i → i + m = a_eN S → ∀ σ2 : zSt, mKeep σ σ2 → (∀ a : Nat, 47 ≤ a → a ≤ 50 → σ2.1 a = σ1.1 a) → σ2.1 44 2 = σ1.1 44 2 → σ2.1 44 6 = σ1.1 44 6 → σ2.1 44 12 = a_eN S → (∀ e : Int, 0 ≤ e → e < i → σ2.1 54 e = a_eK S e ∧ σ2.1 55 e = a_eM S e ∧ σ2.1 56 e = a_eP S e) → V 6 MX7_asTold 14 [some (vR 6 44), some (vZ i)] [] σ2 post := by
    intro m
    induction m with
    | zero =>
      intro i i0 i1 σ2 hk hr h2 h6 h12 hd
      have hR2 := RM_k hk hR
      have e8 : σ2.1 44 8 = a_eN S := hR2.2.2.1.1
      refine V_run kX7_asTold 3 [] (show V 6 MX7_asTold 19 [some (vR 6 44), some (vZ i)] [vZ (σ2.1 44 8), vZ i] σ2 post from ?_)
      refine V_top (e8) ?_
      refine V_run kX7_asTold 10 [1] (show (zr i ∧ zr (a_eN S) ∧ (a_eN S) ≤ i) ∧ V 6 MX7_asTold 79 [some (vR 6 44), some (vZ i)] [] (uI (uI (uI σ2 44 16 0) 44 17 (-1)) 44 18 0) post from ⟨(by omega), ?_⟩)
      refine V_vret kX7_asTold rfl rfl (hp _ (((hk.s (by decide)).s (by decide)).s (by decide)) ?_ ?_ ?_)
      · have hP := hd1.1
        have hW := hd1.2
        unfold zTdP at hP
        unfold zTdW at hW
        rw [hw.1] at hP
        rw [hw.2.1] at hW
        refine ⟨h2.trans hP.1, h12, fun k k0 k1 => ?_, fun t t0 t1 => ?_, fun e a b => ?_, ⟨by rw [uI_at, if_neg (by decide), uI_get]; decide, by rw [uI_get]; decide⟩, hok⟩
        · have h9 := hP.2 k k0 k1
          have q := (zwho1_fit (f := a_pF S) ho.1.1 k0 k1).1
          show σ2.1 47 k = _ ∧ σ2.1 48 k = _ ∧ σ2.1 49 k = _
          rw [hr 47 (by omega) (by omega), hr 48 (by omega) (by omega), hr 49 (by omega) (by omega), h9.1, h9.2.1, h9.2.2, hR1.1.2 _ (by omega) (by omega), hR1.1.2 _ (by omega) (by omega), hR1.1.2 _ (by omega) (by omega)]
          exact ⟨rfl, rfl, rfl⟩
        · have h9 := hW.2 t t0 t1
          have e17 : (uI (uI (uI σ2 44 16 0) 44 17 (-1)) 44 18 0).1 44 17 = -1 := by rw [uI_at, if_neg (by decide), uI_get]
          rw [e17, if_neg (by omega)]
          show σ2.1 50 t = _
          rw [hr 50 (by omega) (by omega), h9]
          show _ = if t < zwho 0 (a_wF S) (a_wN S) then zopn (a_wF S t) else 1
          by_cases q : t < zwho 0 (a_wF S) (a_wN S)
          · have q1 := (zwho0_fit ho.2.1.1 t0 q).1
            rw [if_pos q, if_pos q, show zGt σ1 t = a_wF S t from hR1.2.1.2 t t0 q1]
          · rw [if_neg q, if_neg q]
        · have h9 := hd e a (by have : e < a_eN S := b; omega)
          have e16 : (uI (uI (uI σ2 44 16 0) 44 17 (-1)) 44 18 0).1 44 16 = 0 := by rw [uI_at, if_neg (by decide), uI_at, if_neg (by decide), uI_get]
          rw [e16, zbt_0]
          exact ⟨h9.1, h9.2.1, h9.2.2, rfl⟩
      · exact h2.trans (by have hP := hd1.1; unfold zTdP at hP; rw [hw.1] at hP; exact hP.1)
      · rw [uI_at, if_neg (by decide), uI_at, if_neg (by decide), uI_at, if_neg (by decide)]
        exact h6.trans (by have hW := hd1.2; unfold zTdW at hW; rw [hw.2.1] at hW; exact hW.1)
    | succ m ih =>
      intro i i0 i1 σ2 hk hr h2 h6 h12 hd
      have hR2 := RM_k hk hR
      have e8 : σ2.1 44 8 = a_eN S := hR2.2.2.1.1
      have hev := hR2.2.2.1.2 i i0 (by omega)
      refine V_run kX7_asTold 3 [] (show V 6 MX7_asTold 19 [some (vR 6 44), some (vZ i)] [vZ (σ2.1 44 8), vZ i] σ2 post from ?_)
      refine V_top (e8) ?_
      refine V_run kX7_asTold 8 [0] (show (zr i ∧ zr (a_eN S) ∧ i < (a_eN S)) ∧ (0 ≤ i ∧ i < 9) ∧ V 6 MX7_asTold 33 [some (vR 6 44), some (vZ i)] [vZ (σ2.1 51 i), vZ i, vR 8 54] σ2 post from ⟨(by omega), (by omega), ?_⟩)
      refine V_top (hev.1) ?_
      refine V_run kX7_asTold 8 [] (show (0 ≤ i ∧ i < 9) ∧ (0 ≤ i ∧ i < 9) ∧ V 6 MX7_asTold 45 [some (vR 6 44), some (vZ i)] [vZ ((uI σ2 54 i (a_eK S i)).1 52 i), vZ i, vR 8 55] (uI σ2 54 i (a_eK S i)) post from ⟨(by omega), (by omega), ?_⟩)
      refine V_top (show (uI σ2 54 i (a_eK S i)).1 52 i = a_eM S i from hev.2.1) ?_
      refine V_run kX7_asTold 8 [] (show (0 ≤ i ∧ i < 9) ∧ (0 ≤ i ∧ i < 9) ∧ V 6 MX7_asTold 57 [some (vR 6 44), some (vZ i)] [vZ ((uI (uI σ2 54 i (a_eK S i)) 55 i (a_eM S i)).1 53 i), vZ i, vR 8 56] (uI (uI σ2 54 i (a_eK S i)) 55 i (a_eM S i)) post from ⟨(by omega), (by omega), ?_⟩)
      refine V_top (show (uI (uI σ2 54 i (a_eK S i)) 55 i (a_eM S i)).1 53 i = a_eP S i from hev.2.2) ?_
      refine V_run kX7_asTold 3 [] (show (0 ≤ i ∧ i < 9) ∧ V 6 MX7_asTold 14 [some (vR 6 44), some (vZ (i + 1))] [] (uI (uI (uI σ2 54 i (a_eK S i)) 55 i (a_eM S i)) 56 i (a_eP S i)) post from ⟨(by omega), ?_⟩)
      refine ih (i + 1) (by omega) (by omega) _ (((hk.u (by decide)).u (by decide)).u (by decide)) (fun a x y => by rw [uI_ne (by omega), uI_ne (by omega), uI_ne (by omega)]; exact hr a x y) h2 h6 h12 (fun e a b => ?_)
      rw [uI_ne (by decide), uI_ne (by decide), uI_at, uI_ne (by decide), uI_at, uI_ne (by decide), uI_at, uI_ne (by decide), uI_ne (by decide)]
      by_cases he : e = i
      · rw [if_pos he, if_pos he, if_pos he, he]; exact ⟨rfl, rfl, rfl⟩
      · rw [if_neg he, if_neg he, if_neg he]; exact hd e a (by omega)
  exact loop (a_eN S).toNat 0 (by omega) (by omega) _ (hf1.k.s (by decide)) (fun a x y => by rw [uI_ne (by omega)]) (by rw [uI_at, if_neg (by decide)]) (by rw [uI_at, if_neg (by decide)]) uI_get (fun e a b => by omega)
set_option maxHeartbeats 4000000 in
set_option maxRecDepth 100000 in
/-- runsTold -/
theorem c_M_runsTold3 {S : zAb} {σ : zSt} {post : Option VV → zSt → Prop} (hR : RM σ S) (ho : aOk S) (hp : ∀ σ', mKeep σ σ' → zMc σ' (aC S) → zMd σ' (dDay (aC S) 24) → zRec σ' (aC S) 24 → σ'.1 44 6 = zwho 0 (a_wF S) (a_wN S) → post none σ') : Mc 7 MX7_runsTold [vR 6 44] σ post := by
  show V 7 MX7_runsTold 0 [some (vR 6 44)] [] σ post
  refine V_run kX7_runsTold 1 [] (show V 7 MX7_runsTold 1 [some (vR 6 44)] [vR 6 44] σ post from ?_)
  refine V_callV (a := []) (rest := []) kX7_runsTold rfl oX7_asTold iX7_asTold lk_7_213 rfl rfl rfl (Nat.le_of_ble_eq_true rfl) (Nat.le_of_ble_eq_true rfl) (Nat.le_of_ble_eq_true rfl) (post' := fun zv zσ => V 7 MX7_runsTold 4 [some (vR 6 44)] (zv.toList ++ []) zσ post) (c_M_asTold3 hR ho (fun σ1 hk1 hc1 hn1 hw1 => (show V 7 MX7_runsTold 4 [some (vR 6 44)] [] σ1 post from ?_))) (fun _ _ h => h)
  refine V_run kX7_runsTold 1 [] (show V 7 MX7_runsTold 5 [some (vR 6 44)] [vR 6 44] σ1 post from ?_)
  refine V_callV (a := []) (rest := []) kX7_runsTold rfl oX7_runs iX7_runs lk_7_216 rfl rfl rfl (Nat.le_of_ble_eq_true rfl) (Nat.le_of_ble_eq_true rfl) (Nat.le_of_ble_eq_true rfl) (post' := fun zv zσ => V 7 MX7_runsTold 8 [some (vR 6 44)] (zv.toList ++ []) zσ post) (c_M_runs hc1 (fun σ2 hf2 hm2 hr2 => (show V 7 MX7_runsTold 8 [some (vR 6 44)] [] σ2 post from ?_))) (fun _ _ h => h)
  exact V_vret kX7_runsTold rfl rfl (hp σ2 (hk1.tr hf2.k) (zMc_nf hf2 hc1) hm2 hr2 (by rw [hf2.2.2 6 (by decide)]; exact hw1))
def aCount (S : zAb) (x : Int) : Int := if x = 0 then cn (aC S) else if x = 1 then zwho 0 (a_wF S) (a_wN S) else if x = 2 then a_pN S else if x = 3 then a_wN S else if x = 4 then a_eN S else if x = 5 then zSvc (aC S) (cn (aC S)).toNat 0 0 else if x = 6 then dn (zD (aC S) 23) else if x = 7 then a_sN S else if x = 8 then a_fnd S else -2
def okEv (S : zAb) (k t p : Int) : Prop := ((0 ≤ k ∧ k ≤ 2) ∧ (0 ≤ t ∧ t ≤ 23) ∧ 0 ≤ p ∧ p ≤ 11) ∧ a_eN S < 8
def zRdN (S : zAb) (s : Int) : Nat → Int → zAb → zAb × Int
  | 0, n, T => (T, n)
  | m + 1, n, T => if 3 * n + 2 < a_hN S s ∧ ((0 ≤ a_hI S s (3 * n) ∧ a_hI S s (3 * n) ≤ 2) ∧ (0 ≤ a_hI S s (3 * n + 1) ∧ a_hI S s (3 * n + 1) ≤ 23) ∧ 0 ≤ a_hI S s (3 * n + 2) ∧ a_hI S s (3 * n + 2) ≤ 11) ∧ a_eN T < 8 then zRdN S s m (n + 1) (aEventS T (a_hI S s (3 * n)) (a_hI S s (3 * n + 1)) (a_hI S s (3 * n + 2))) else (T, n)
def tRead (S : zAb) (s : Int) : zAb × Int := if 0 ≤ s ∧ s ≤ 3 then (if a_hF S s = -1 then (aFndS S 1, -11) else zRdN S s 20 0 S) else (S, -2)
theorem aOk_event {S : zAb} {k t p : Int} (ho : aOk S) (h : (0 ≤ k ∧ k ≤ 2) ∧ (0 ≤ t ∧ t ≤ 23) ∧ 0 ≤ p ∧ p ≤ 11) (h8 : a_eN S < 8) : aOk (aEventS S k t p) := by
  obtain ⟨h1, h2, ⟨h3, h3', h3''⟩, h4, h5⟩ := ho
  refine ⟨h1, h2, ⟨by show 0 ≤ a_eN S + 1; omega, by show a_eN S + 1 ≤ 8; omega, fun e a b => ?_⟩, h4, h5⟩
  have b : e < a_eN S + 1 := b
  show (0 ≤ fPut (a_eK S) (a_eN S) k e ∧ fPut (a_eK S) (a_eN S) k e ≤ 2) ∧ (0 ≤ fPut (a_eM S) (a_eN S) t e ∧ fPut (a_eM S) (a_eN S) t e ≤ 23) ∧ 0 ≤ fPut (a_eP S) (a_eN S) p e ∧ fPut (a_eP S) (a_eN S) p e ≤ 11
  rw [fPut_at, fPut_at, fPut_at]
  by_cases q : e = a_eN S
  · rw [if_pos q, if_pos q, if_pos q]; exact h
  · rw [if_neg q, if_neg q, if_neg q]; exact h3'' e a (by omega)
set_option maxHeartbeats 4000000 in
set_option maxRecDepth 100000 in
/-- sumOf -/
theorem c_M_sumOf {x : Int} {S : zAb} {σ : zSt} {post : Option VV → zSt → Prop} (hR : RM σ S) (ho : aOk S) (hx : zr x) (hp : ∀ σ', mKeep σ σ' → zMc σ' (aC S) → post (some (vZ (if x = 0 then cn (aC S) else if x = 1 then zwho 0 (a_wF S) (a_wN S) else if x = 5 then zSvc (aC S) (cn (aC S)).toNat 0 0 else dn (zD (aC S) 23)))) σ') : Mc 8 MX7_sumOf [vR 6 44, vZ x] σ post := by
  have hok := aC_ok ho
  show V 8 MX7_sumOf 0 [some (vR 6 44), some (vZ x)] [] σ post
  refine V_run kX7_sumOf 1 [] (show V 8 MX7_sumOf 1 [some (vR 6 44), some (vZ x)] [vR 6 44] σ post from ?_)
  refine V_callV (a := []) (rest := []) kX7_sumOf rfl oX7_runsTold iX7_runsTold lk_7_219 rfl rfl rfl (Nat.le_of_ble_eq_true rfl) (Nat.le_of_ble_eq_true rfl) (Nat.le_of_ble_eq_true rfl) (post' := fun zv zσ => V 8 MX7_sumOf 4 [some (vR 6 44), some (vZ x)] (zv.toList ++ []) zσ post) (c_M_runsTold3 hR ho (fun σ1 hk1 hc1 hm1 hr1 hw1 => (show V 8 MX7_sumOf 4 [some (vR 6 44), some (vZ x)] [] σ1 post from ?_))) (fun _ _ h => h)
  have hp := hp σ1 hk1 hc1
  refine V_run kX7_sumOf 1 [] (show V 8 MX7_sumOf 5 [some (vR 6 44), some (vZ x)] [vZ x] σ1 post from ?_)
  by_cases q0 : x = 0
  · skip
    rw [if_pos q0] at hp
    refine V_run kX7_sumOf 3 [0] (show (zr x ∧ x = 0) ∧ V 8 MX7_sumOf 12 [some (vR 6 44), some (vZ x)] [vZ (σ1.1 44 2)] σ1 post from ⟨(by omega), ?_⟩)
    refine V_top (hc1.1) ?_
    refine V_run kX7_sumOf 1 [] (show V 8 MX7_sumOf 43 [some (vR 6 44), some (vZ x)] [vZ (cn (aC S))] σ1 post from ?_)
    exact V_iret kX7_sumOf rfl rfl (hp)
  · skip
    rw [if_neg q0] at hp
    refine V_run kX7_sumOf 3 [1] (show (zr x ∧ ¬ x = 0) ∧ V 8 MX7_sumOf 17 [some (vR 6 44), some (vZ x)] [vZ 1, vZ x] σ1 post from ⟨(by omega), ?_⟩)
    by_cases q1 : x = 1
    · skip
      rw [if_pos q1] at hp
      refine V_run kX7_sumOf 3 [0] (show (zr x ∧ zr 1 ∧ x = 1) ∧ V 8 MX7_sumOf 24 [some (vR 6 44), some (vZ x)] [vZ (σ1.1 44 6)] σ1 post from ⟨(by omega), ?_⟩)
      refine V_top (hw1) ?_
      refine V_run kX7_sumOf 1 [] (show V 8 MX7_sumOf 43 [some (vR 6 44), some (vZ x)] [vZ (zwho 0 (a_wF S) (a_wN S))] σ1 post from ?_)
      exact V_iret kX7_sumOf rfl rfl (hp)
    · skip
      rw [if_neg q1] at hp
      refine V_run kX7_sumOf 3 [1] (show (zr x ∧ zr 1 ∧ ¬ x = 1) ∧ V 8 MX7_sumOf 29 [some (vR 6 44), some (vZ x)] [vZ 5, vZ x] σ1 post from ⟨(by omega), ?_⟩)
      by_cases q5 : x = 5
      · skip
        rw [if_pos q5] at hp
        refine V_run kX7_sumOf 2 [0] (show (zr x ∧ zr 5 ∧ x = 5) ∧ V 8 MX7_sumOf 33 [some (vR 6 44), some (vZ x)] [vR 6 44] σ1 post from ⟨(by omega), ?_⟩)
        refine V_callV (a := []) (rest := []) kX7_sumOf rfl oX7_servedNow iX7_servedNow lk_7_258 rfl rfl rfl (Nat.le_of_ble_eq_true rfl) (Nat.le_of_ble_eq_true rfl) (Nat.le_of_ble_eq_true rfl) (post' := fun zv zσ => V 8 MX7_sumOf 36 [some (vR 6 44), some (vZ x)] (zv.toList ++ []) zσ post) (c_M_servedNow hok hc1.1 hm1 ((show V 8 MX7_sumOf 36 [some (vR 6 44), some (vZ x)] [vZ (zSvc (aC S) (cn (aC S)).toNat 0 0)] σ1 post from ?_))) (fun _ _ h => h)
        refine V_run kX7_sumOf 1 [] (show V 8 MX7_sumOf 43 [some (vR 6 44), some (vZ x)] [vZ (zSvc (aC S) (cn (aC S)).toNat 0 0)] σ1 post from ?_)
        exact V_iret kX7_sumOf rfl rfl (hp)
      · skip
        rw [if_neg q5] at hp
        refine V_run kX7_sumOf 3 [1] (show (zr x ∧ zr 5 ∧ ¬ x = 5) ∧ V 8 MX7_sumOf 43 [some (vR 6 44), some (vZ x)] [vZ (σ1.1 44 19)] σ1 post from ⟨(by omega), ?_⟩)
        refine V_top (hm1.1) ?_
        exact V_iret kX7_sumOf rfl rfl (hp)
set_option maxHeartbeats 4000000 in
set_option maxRecDepth 100000 in
/-- count -/
theorem c_M_count {x : Int} {S : zAb} {σ : zSt} {post : Option VV → zSt → Prop} (hR : RM σ S) (ho : aOk S) (hx : zr x) (hp : ∀ σ', mKeep σ σ' → post (some (vZ (aCount S x))) σ') : Mc 9 MX7_count [vR 6 44, vZ x] σ post := by
  unfold aCount at hp
  show V 9 MX7_count 0 [some (vR 6 44), some (vZ x)] [] σ post
  refine V_run kX7_count 1 [] (show V 9 MX7_count 1 [some (vR 6 44), some (vZ x)] [vZ x] σ post from ?_)
  by_cases hk1 : x = 0
  · skip
    refine V_tsIn (off := 51) (tgt := 52) kX7_count rfl hx (by omega) (by omega) (by rw [hk1]; rfl) (by decide) (show V 9 MX7_count 52 [some (vR 6 44), some (vZ x)] [] σ post from ?_)
    subst hk1
    rw [if_pos rfl] at hp
    refine V_run kX7_count 2 [] (show V 9 MX7_count 54 [some (vR 6 44), some (vZ 0)] [vZ 0, vR 6 44] σ post from ?_)
    refine V_callV (a := [vZ 0]) (rest := []) kX7_count rfl oX7_sumOf iX7_sumOf lk_7_327 rfl rfl rfl (Nat.le_of_ble_eq_true rfl) (Nat.le_of_ble_eq_true rfl) (Nat.le_of_ble_eq_true rfl) (post' := fun zv zσ => V 9 MX7_count 57 [some (vR 6 44), some (vZ 0)] (zv.toList ++ []) zσ post) (c_M_sumOf hR ho (by decide) (fun σ1 hk1 _ => (show V 9 MX7_count 57 [some (vR 6 44), some (vZ 0)] [vZ (if 0 = 0 then cn (aC S) else if 0 = 1 then zwho 0 (a_wF S) (a_wN S) else if 0 = 5 then zSvc (aC S) (cn (aC S)).toNat 0 0 else dn (zD (aC S) 23))] σ1 post from ?_))) (fun _ _ h => h)
    exact V_iret kX7_count rfl rfl (hp σ1 hk1)
  by_cases hk2 : x = 1
  · skip
    refine V_tsIn (off := 51) (tgt := 52) kX7_count rfl hx (by omega) (by omega) (by rw [hk2]; rfl) (by decide) (show V 9 MX7_count 52 [some (vR 6 44), some (vZ x)] [] σ post from ?_)
    subst hk2
    rw [if_neg (by decide), if_pos rfl] at hp
    refine V_run kX7_count 2 [] (show V 9 MX7_count 54 [some (vR 6 44), some (vZ 1)] [vZ 1, vR 6 44] σ post from ?_)
    refine V_callV (a := [vZ 1]) (rest := []) kX7_count rfl oX7_sumOf iX7_sumOf lk_7_327 rfl rfl rfl (Nat.le_of_ble_eq_true rfl) (Nat.le_of_ble_eq_true rfl) (Nat.le_of_ble_eq_true rfl) (post' := fun zv zσ => V 9 MX7_count 57 [some (vR 6 44), some (vZ 1)] (zv.toList ++ []) zσ post) (c_M_sumOf hR ho (by decide) (fun σ1 hk1 _ => (show V 9 MX7_count 57 [some (vR 6 44), some (vZ 1)] [vZ (if 1 = 0 then cn (aC S) else if 1 = 1 then zwho 0 (a_wF S) (a_wN S) else if 1 = 5 then zSvc (aC S) (cn (aC S)).toNat 0 0 else dn (zD (aC S) 23))] σ1 post from ?_))) (fun _ _ h => h)
    exact V_iret kX7_count rfl rfl (hp σ1 hk1)
  by_cases hk3 : x = 2
  · skip
    refine V_tsIn (off := 57) (tgt := 58) kX7_count rfl hx (by omega) (by omega) (by rw [hk3]; rfl) (by decide) (show V 9 MX7_count 58 [some (vR 6 44), some (vZ x)] [] σ post from ?_)
    subst hk3
    rw [if_neg (by decide), if_neg (by decide), if_pos rfl] at hp
    refine V_run kX7_count 6 [] (show (0 ≤ 0 ∧ 0 < 2) ∧ V 9 MX7_count 66 [some (vR 6 44), some (vZ 2)] [vZ (σ.1 45 0)] σ post from ⟨(by omega), ?_⟩)
    rw [← hR.1.1] at hp
    exact V_iret kX7_count rfl rfl (hp σ mKeep.rf)
  by_cases hk4 : x = 3
  · skip
    refine V_tsIn (off := 57) (tgt := 58) kX7_count rfl hx (by omega) (by omega) (by rw [hk4]; rfl) (by decide) (show V 9 MX7_count 58 [some (vR 6 44), some (vZ x)] [] σ post from ?_)
    subst hk4
    rw [if_neg (by decide), if_neg (by decide), if_neg (by decide), if_pos rfl] at hp
    refine V_run kX7_count 6 [] (show (0 ≤ 1 ∧ 1 < 2) ∧ V 9 MX7_count 66 [some (vR 6 44), some (vZ 3)] [vZ (σ.1 45 1)] σ post from ⟨(by omega), ?_⟩)
    rw [← hR.2.1.1] at hp
    exact V_iret kX7_count rfl rfl (hp σ mKeep.rf)
  by_cases hk5 : x = 4
  · skip
    refine V_tsIn (off := 66) (tgt := 67) kX7_count rfl hx (by omega) (by omega) (by rw [hk5]; rfl) (by decide) (show V 9 MX7_count 67 [some (vR 6 44), some (vZ x)] [] σ post from ?_)
    subst hk5
    rw [if_neg (by decide), if_neg (by decide), if_neg (by decide), if_neg (by decide), if_pos rfl] at hp
    refine V_run kX7_count 2 [] (show V 9 MX7_count 71 [some (vR 6 44), some (vZ 4)] [vZ (σ.1 44 8)] σ post from ?_)
    rw [← hR.2.2.1.1] at hp
    exact V_iret kX7_count rfl rfl (hp σ mKeep.rf)
  by_cases hk6 : x = 5
  · skip
    refine V_tsIn (off := 51) (tgt := 52) kX7_count rfl hx (by omega) (by omega) (by rw [hk6]; rfl) (by decide) (show V 9 MX7_count 52 [some (vR 6 44), some (vZ x)] [] σ post from ?_)
    subst hk6
    rw [if_neg (by decide), if_neg (by decide), if_neg (by decide), if_neg (by decide), if_neg (by decide), if_pos rfl] at hp
    refine V_run kX7_count 2 [] (show V 9 MX7_count 54 [some (vR 6 44), some (vZ 5)] [vZ 5, vR 6 44] σ post from ?_)
    refine V_callV (a := [vZ 5]) (rest := []) kX7_count rfl oX7_sumOf iX7_sumOf lk_7_327 rfl rfl rfl (Nat.le_of_ble_eq_true rfl) (Nat.le_of_ble_eq_true rfl) (Nat.le_of_ble_eq_true rfl) (post' := fun zv zσ => V 9 MX7_count 57 [some (vR 6 44), some (vZ 5)] (zv.toList ++ []) zσ post) (c_M_sumOf hR ho (by decide) (fun σ1 hk1 _ => (show V 9 MX7_count 57 [some (vR 6 44), some (vZ 5)] [vZ (if 5 = 0 then cn (aC S) else if 5 = 1 then zwho 0 (a_wF S) (a_wN S) else if 5 = 5 then zSvc (aC S) (cn (aC S)).toNat 0 0 else dn (zD (aC S) 23))] σ1 post from ?_))) (fun _ _ h => h)
    exact V_iret kX7_count rfl rfl (hp σ1 hk1)
  by_cases hk7 : x = 6
  · skip
    refine V_tsIn (off := 51) (tgt := 52) kX7_count rfl hx (by omega) (by omega) (by rw [hk7]; rfl) (by decide) (show V 9 MX7_count 52 [some (vR 6 44), some (vZ x)] [] σ post from ?_)
    subst hk7
    rw [if_neg (by decide), if_neg (by decide), if_neg (by decide), if_neg (by decide), if_neg (by decide), if_neg (by decide), if_pos rfl] at hp
    refine V_run kX7_count 2 [] (show V 9 MX7_count 54 [some (vR 6 44), some (vZ 6)] [vZ 6, vR 6 44] σ post from ?_)
    refine V_callV (a := [vZ 6]) (rest := []) kX7_count rfl oX7_sumOf iX7_sumOf lk_7_327 rfl rfl rfl (Nat.le_of_ble_eq_true rfl) (Nat.le_of_ble_eq_true rfl) (Nat.le_of_ble_eq_true rfl) (post' := fun zv zσ => V 9 MX7_count 57 [some (vR 6 44), some (vZ 6)] (zv.toList ++ []) zσ post) (c_M_sumOf hR ho (by decide) (fun σ1 hk1 _ => (show V 9 MX7_count 57 [some (vR 6 44), some (vZ 6)] [vZ (if 6 = 0 then cn (aC S) else if 6 = 1 then zwho 0 (a_wF S) (a_wN S) else if 6 = 5 then zSvc (aC S) (cn (aC S)).toNat 0 0 else dn (zD (aC S) 23))] σ1 post from ?_))) (fun _ _ h => h)
    exact V_iret kX7_count rfl rfl (hp σ1 hk1)
  by_cases hk8 : x = 7
  · skip
    refine V_tsIn (off := 71) (tgt := 72) kX7_count rfl hx (by omega) (by omega) (by rw [hk8]; rfl) (by decide) (show V 9 MX7_count 72 [some (vR 6 44), some (vZ x)] [] σ post from ?_)
    subst hk8
    rw [if_neg (by decide), if_neg (by decide), if_neg (by decide), if_neg (by decide), if_neg (by decide), if_neg (by decide), if_neg (by decide), if_pos rfl] at hp
    refine V_run kX7_count 2 [] (show V 9 MX7_count 76 [some (vR 6 44), some (vZ 7)] [vZ (σ.1 44 29)] σ post from ?_)
    rw [← hR.2.2.2.1.1] at hp
    exact V_iret kX7_count rfl rfl (hp σ mKeep.rf)
  by_cases hk9 : x = 8
  · skip
    refine V_tsIn (off := 76) (tgt := 77) kX7_count rfl hx (by omega) (by omega) (by rw [hk9]; rfl) (by decide) (show V 9 MX7_count 77 [some (vR 6 44), some (vZ x)] [] σ post from ?_)
    subst hk9
    rw [if_neg (by decide), if_neg (by decide), if_neg (by decide), if_neg (by decide), if_neg (by decide), if_neg (by decide), if_neg (by decide), if_neg (by decide), if_pos rfl] at hp
    refine V_run kX7_count 2 [] (show V 9 MX7_count 81 [some (vR 6 44), some (vZ 8)] [vZ (σ.1 44 39)] σ post from ?_)
    rw [← hR.2.2.2.2.2] at hp
    exact V_iret kX7_count rfl rfl (hp σ mKeep.rf)
  refine V_tsOut (tgt := 82) kX7_count rfl hx (by omega) (by decide) (show V 9 MX7_count 82 [some (vR 6 44), some (vZ x)] [] σ post from ?_)
  rw [if_neg (by omega), if_neg (by omega), if_neg (by omega), if_neg (by omega), if_neg (by omega), if_neg (by omega), if_neg (by omega), if_neg (by omega), if_neg (by omega)] at hp
  refine V_run kX7_count 1 [] (show V 9 MX7_count 84 [some (vR 6 44), some (vZ x)] [vZ (-2)] σ post from ?_)
  exact V_iret kX7_count rfl rfl (hp σ mKeep.rf)
set_option maxHeartbeats 8000000 in
set_option maxRecDepth 100000 in
/-- read -/
theorem c_M_read {s : Int} {S : zAb} {σ : zSt} {post : Option VV → zSt → Prop} (hR : RM σ S) (ho : aOk S) (hs : zr s) (hp : ∀ σ', cKeep σ σ' → RM σ' (tRead S s).1 → post (some (vZ (tRead S s).2)) σ') : Mc 3 MX7_read [vR 6 44, vZ s] σ post := by
  unfold tRead at hp
  show V 3 MX7_read 0 [some (vR 6 44), some (vZ s), none, none] [] σ post
  refine V_run kX7_read 1 [] (show V 3 MX7_read 1 [some (vR 6 44), some (vZ s), none, none] [vZ s] σ post from ?_)
  refine V_callS (a := [vZ s]) (rest := []) kX7_read rfl oX7_isSheet iX7_isSheet lk_7_164 rfl rfl (Nat.le_of_ble_eq_true rfl) (Nat.le_of_ble_eq_true rfl) (Nat.le_of_ble_eq_true rfl) (post' := fun zv zσ => V 3 MX7_read 4 [some (vR 6 44), some (vZ s), none, none] (zv.toList ++ []) zσ post) (c_M_isSheet (by omega) ((show V 3 MX7_read 4 [some (vR 6 44), some (vZ s), none, none] [vZ (if 0 ≤ s ∧ s ≤ 3 then 1 else 0)] σ post from ?_))) (fun _ _ h => h)
  by_cases h1 : 0 ≤ s ∧ s ≤ 3
  rotate_left
  · skip
    rw [if_neg h1] at hp
    refine V_top (if_neg h1) ?_
    refine V_run kX7_read 2 [0] (show (zr 0 ∧ 0 = 0) ∧ V 3 MX7_read 9 [some (vR 6 44), some (vZ s), none, none] [vZ (-2)] σ post from ⟨(by omega), ?_⟩)
    exact V_iret kX7_read rfl rfl (hp σ cKeep.rf hR)
  refine V_top (if_pos h1) ?_
  rw [if_pos h1] at hp
  have hw := hR.2.2.2.2.1 s h1.1 (by omega)
  have os := ho.2.2.2.2 s h1.1 (by omega)
  refine V_run kX7_read 5 [1] (show (zr 1 ∧ ¬ 1 = 0) ∧ (0 ≤ s ∧ s < 4) ∧ V 3 MX7_read 16 [some (vR 6 44), some (vZ s), none, none] [vZ (σ.1 70 s)] σ post from ⟨(by omega), (by omega), ?_⟩)
  refine V_top (hw.1) ?_
  by_cases h2 : a_hF S s = -1
  · skip
    rw [if_pos h2] at hp
    refine V_top (if_pos h2) ?_
    refine V_run kX7_read 3 [0] (show (zr 0 ∧ 0 = 0) ∧ V 3 MX7_read 21 [some (vR 6 44), some (vZ s), none, none] [vZ 1, vR 6 44] σ post from ⟨(by omega), ?_⟩)
    refine V_callV (a := [vZ 1]) (rest := []) kX7_read rfl oX7_meets iX7_meets lk_7_167 rfl rfl rfl (Nat.le_of_ble_eq_true rfl) (Nat.le_of_ble_eq_true rfl) (Nat.le_of_ble_eq_true rfl) (post' := fun zv zσ => V 3 MX7_read 24 [some (vR 6 44), some (vZ s), none, none] (zv.toList ++ []) zσ post) (c_M_meets ((show V 3 MX7_read 24 [some (vR 6 44), some (vZ s), none, none] [vZ (-10 - 1)] (uI σ 44 39 1) post from ?_))) (fun _ _ h => h)
    exact V_iret kX7_read rfl rfl (hp _ (cK_44 (by decide)) (RM_fnd hR))
  · skip
    rw [if_neg h2] at hp
    refine V_top (if_neg h2) ?_
    refine V_run kX7_read 7 [1] (show (zr 1 ∧ ¬ 1 = 0) ∧ V 3 MX7_read 32 [some (vR 6 44), some (vZ s), some (vZ 0), some (vZ (60 * s))] [] σ post from ⟨(by omega), ?_⟩)
    obtain ⟨r, hr⟩ : ∃ r, r = zRdN S s 20 0 S := ⟨_, rfl⟩
    rw [← hr] at hp
    have loop : ∀ (m : Nat) (n : Int) (T : zAb), 0 ≤ n → n + m = 20 → zRdN S s m n T = r → ∀ σ2 : zSt, cKeep σ σ2 → RM σ2 T → aOk T → a_hI T = a_hI S → a_hN T = a_hN S → a_hF T = a_hF S → V 3 MX7_read 32 [some (vR 6 44), some (vZ s), some (vZ n), some (vZ (60 * s))] [] σ2 post := by
      intro m
      induction m with
      | zero =>
        intro n T n0 n1 he σ2 hk hR2 ho2 eI eN eF
        unfold zRdN at he
        subst he
        have hp := hp σ2 hk hR2
        have e72 := ((hR2.2.2.2.2.1 s h1.1 (by omega)).2 (by rw [eF]; exact h2)).2.1
        rw [eN] at e72
        refine V_run kX7_read 9 [] (show (0 ≤ s ∧ s < 4) ∧ V 3 MX7_read 43 [some (vR 6 44), some (vZ s), some (vZ n), some (vZ (60 * s))] [vZ (σ2.1 72 s), vZ ((3 * n) + 2)] σ2 post from ⟨(by omega), ?_⟩)
        refine V_top (e72) ?_
        refine V_run kX7_read 2 [1] (show (zr ((3 * n) + 2) ∧ zr (a_hN S s) ∧ (a_hN S s) ≤ ((3 * n) + 2)) ∧ V 3 MX7_read 94 [some (vR 6 44), some (vZ s), some (vZ n), some (vZ (60 * s))] [vZ n] σ2 post from ⟨(by omega), ?_⟩)
        exact V_iret kX7_read rfl rfl (hp)
      | succ m ih =>
        intro n T n0 n1 he σ2 hk hR2 ho2 eI eN eF
        unfold zRdN at he
        have e7 := (hR2.2.2.2.2.1 s h1.1 (by omega)).2 (by rw [eF]; exact h2)
        have e72 := e7.2.1
        rw [eN] at e72
        have e73 := e7.2.2
        rw [eI] at e73
        have hp2 := hp σ2 hk
        refine V_run kX7_read 9 [] (show (0 ≤ s ∧ s < 4) ∧ V 3 MX7_read 43 [some (vR 6 44), some (vZ s), some (vZ n), some (vZ (60 * s))] [vZ (σ2.1 72 s), vZ ((3 * n) + 2)] σ2 post from ⟨(by omega), ?_⟩)
        refine V_top (e72) ?_
        rcases Int.lt_or_le (3 * n + 2) (a_hN S s) with h3 | h3
        rotate_left
        · skip
          rw [if_neg (fun q => absurd q.1 (by omega))] at he
          subst he
          refine V_run kX7_read 2 [1] (show (zr ((3 * n) + 2) ∧ zr (a_hN S s) ∧ (a_hN S s) ≤ ((3 * n) + 2)) ∧ V 3 MX7_read 94 [some (vR 6 44), some (vZ s), some (vZ n), some (vZ (60 * s))] [vZ n] σ2 post from ⟨(by omega), ?_⟩)
          exact V_iret kX7_read rfl rfl (hp2 hR2)
        refine V_run kX7_read 10 [0] (show (zr ((3 * n) + 2) ∧ zr (a_hN S s) ∧ ((3 * n) + 2) < (a_hN S s)) ∧ (0 ≤ ((60 * s) + (3 * n)) ∧ ((60 * s) + (3 * n)) < 240) ∧ V 3 MX7_read 57 [some (vR 6 44), some (vZ s), some (vZ n), some (vZ (60 * s))] [vZ (σ2.1 73 ((60 * s) + (3 * n))), vR 6 44] σ2 post from ⟨(by omega), (by omega), ?_⟩)
        refine V_top (show σ2.1 73 (60 * s + 3 * n) = a_hI S s (3 * n) by exact e73 (3 * n) (by omega) (by omega)) ?_
        refine V_run kX7_read 10 [] (show (0 ≤ (((60 * s) + (3 * n)) + 1) ∧ (((60 * s) + (3 * n)) + 1) < 240) ∧ V 3 MX7_read 69 [some (vR 6 44), some (vZ s), some (vZ n), some (vZ (60 * s))] [vZ (σ2.1 73 (((60 * s) + (3 * n)) + 1)), vZ (a_hI S s (3 * n)), vR 6 44] σ2 post from ⟨(by omega), ?_⟩)
        refine V_top (show σ2.1 73 (60 * s + 3 * n + 1) = a_hI S s (3 * n + 1) by rw [show 60 * s + 3 * n + 1 = 60 * s + (3 * n + 1) by omega]; exact e73 (3 * n + 1) (by omega) (by omega)) ?_
        refine V_run kX7_read 10 [] (show (0 ≤ (((60 * s) + (3 * n)) + 2) ∧ (((60 * s) + (3 * n)) + 2) < 240) ∧ V 3 MX7_read 81 [some (vR 6 44), some (vZ s), some (vZ n), some (vZ (60 * s))] [vZ (σ2.1 73 (((60 * s) + (3 * n)) + 2)), vZ (a_hI S s (3 * n + 1)), vZ (a_hI S s (3 * n)), vR 6 44] σ2 post from ⟨(by omega), ?_⟩)
        refine V_top (show σ2.1 73 (60 * s + 3 * n + 2) = a_hI S s (3 * n + 2) by rw [show 60 * s + 3 * n + 2 = 60 * s + (3 * n + 2) by omega]; exact e73 (3 * n + 2) (by omega) (by omega)) ?_
        have z0 := os.2.2.2 (3 * n) (by omega) (by omega)
        have z1 := os.2.2.2 (3 * n + 1) (by omega) (by omega)
        have z2 := os.2.2.2 (3 * n + 2) (by omega) (by omega)
        have hen := ho2.2.2.1
        have kbad : ¬ ((0 ≤ a_hI S s (3 * n) ∧ a_hI S s (3 * n) ≤ 2) ∧ (0 ≤ a_hI S s (3 * n + 1) ∧ a_hI S s (3 * n + 1) ≤ 23) ∧ 0 ≤ a_hI S s (3 * n + 2) ∧ a_hI S s (3 * n + 2) ≤ 11) → V 3 MX7_read 84 [some (vR 6 44), some (vZ s), some (vZ n), some (vZ (60 * s))] [vZ (-2)] σ2 post := by
          intro q
          rw [if_neg (fun z => q z.2.1)] at he
          subst he
          refine V_run kX7_read 2 [1] (show (zr (-2) ∧ (-2) ≤ 0) ∧ V 3 MX7_read 94 [some (vR 6 44), some (vZ s), some (vZ n), some (vZ (60 * s))] [vZ n] σ2 post from ⟨(by omega), ?_⟩)
          exact V_iret kX7_read rfl rfl (hp2 hR2)
        have kfull : ((0 ≤ a_hI S s (3 * n) ∧ a_hI S s (3 * n) ≤ 2) ∧ (0 ≤ a_hI S s (3 * n + 1) ∧ a_hI S s (3 * n + 1) ≤ 23) ∧ 0 ≤ a_hI S s (3 * n + 2) ∧ a_hI S s (3 * n + 2) ≤ 11) → a_eN T = 8 → V 3 MX7_read 84 [some (vR 6 44), some (vZ s), some (vZ n), some (vZ (60 * s))] [vZ (-4)] σ2 post := by
          intro _ q
          rw [if_neg (fun z => absurd z.2.2 (by omega))] at he
          subst he
          refine V_run kX7_read 2 [1] (show (zr (-4) ∧ (-4) ≤ 0) ∧ V 3 MX7_read 94 [some (vR 6 44), some (vZ s), some (vZ n), some (vZ (60 * s))] [vZ n] σ2 post from ⟨(by omega), ?_⟩)
          exact V_iret kX7_read rfl rfl (hp2 hR2)
        have kgo : ((0 ≤ a_hI S s (3 * n) ∧ a_hI S s (3 * n) ≤ 2) ∧ (0 ≤ a_hI S s (3 * n + 1) ∧ a_hI S s (3 * n + 1) ≤ 23) ∧ 0 ≤ a_hI S s (3 * n + 2) ∧ a_hI S s (3 * n + 2) ≤ 11) → a_eN T < 8 → ∀ σ', cKeep σ2 σ' → RM σ' (aEventS T (a_hI S s (3 * n)) (a_hI S s (3 * n + 1)) (a_hI S s (3 * n + 2))) → V 3 MX7_read 84 [some (vR 6 44), some (vZ s), some (vZ n), some (vZ (60 * s))] [vZ (a_eN T + 1)] σ' post := by
          intro q q8 σ' hk' hR'
          rw [if_pos ⟨h3, q, q8⟩] at he
          refine V_run kX7_read 3 [0] (show (zr (a_eN T + 1) ∧ 0 < (a_eN T + 1)) ∧ V 3 MX7_read 32 [some (vR 6 44), some (vZ s), some (vZ (n + 1)), some (vZ (60 * s))] [] σ' post from ⟨(by omega), ?_⟩)
          exact ih (n + 1) _ (by omega) (by omega) he σ' (hk.tr hk') hR' (aOk_event ho2 q q8) eI eN eF
        refine V_callV (a := [vZ (a_hI S s (3 * n)), vZ (a_hI S s (3 * n + 1)), vZ (a_hI S s (3 * n + 2))]) (rest := []) kX7_read rfl oX7_event iX7_event lk_7_170 rfl rfl rfl (Nat.le_of_ble_eq_true rfl) (Nat.le_of_ble_eq_true rfl) (Nat.le_of_ble_eq_true rfl) (post' := fun zv zσ => V 3 MX7_read 84 [some (vR 6 44), some (vZ s), some (vZ n), some (vZ (60 * s))] (zv.toList ++ []) zσ post) (c_M_event hR2 ho2 z0 z1 z2 kbad kfull kgo) (fun _ _ h => h)
    exact loop 20 0 S (by omega) (by omega) hr.symm σ cKeep.rf hR ho rfl rfl rfl
