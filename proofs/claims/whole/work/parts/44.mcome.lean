set_option maxHeartbeats 4000000 in
set_option maxRecDepth 100000 in
/-- asTold -/
theorem c_M_asTold2 {S : zAb} {σ : zSt} {post : Option VV → zSt → Prop} (hR : RM σ S) (ho : aOk S) (hp : ∀ σ', mKeep σ σ' → zMc σ' (aC S) → σ'.1 44 2 = cn (aC S) → σ'.1 44 16 = 0 ∧ σ'.1 44 17 = -1 → post none σ') : Mc 6 MX7_asTold [vR 6 44] σ post := by
  have hT := RM_t hR ho
  have hok := aC_ok ho
  have hEn := ho.2.2.1
  show V 6 MX7_asTold 0 [some (vR 6 44), none] [] σ post
  refine V_run kX7_asTold 1 [] (show V 6 MX7_asTold 1 [some (vR 6 44), none] [vR 6 44] σ post from ?_)
  refine V_callV (a := []) (rest := []) kX7_asTold rfl oX7_reads iX7_reads lk_7_143 rfl rfl rfl (Nat.le_of_ble_eq_true rfl) (Nat.le_of_ble_eq_true rfl) (Nat.le_of_ble_eq_true rfl) (post' := fun zv zσ => V 6 MX7_asTold 4 [some (vR 6 44), none] (zv.toList ++ []) zσ post) (c_M_reads hT (fun σ1 hf1 hd1 => (show V 6 MX7_asTold 4 [some (vR 6 44), none] [] σ1 post from ?_))) (fun _ _ h => h)
  have hR1 := RM_k hf1.k hR
  have hw := RM_who hR1
  have e8 : σ1.1 44 8 = a_eN S := hR1.2.2.1.1
  refine V_run kX7_asTold 3 [] (show V 6 MX7_asTold 9 [some (vR 6 44), none] [vZ (σ1.1 44 8), vR 6 44] σ1 post from ?_)
  refine V_top (e8) ?_
  refine V_run kX7_asTold 3 [] (show V 6 MX7_asTold 14 [some (vR 6 44), some (vZ 0)] [] (uI σ1 44 12 (a_eN S)) post from ?_)
  have loop : ∀ (m : Nat) (i : Int), 0 ≤ i → i + m = a_eN S → ∀ σ2 : zSt, mKeep σ σ2 → (∀ a : Nat, 47 ≤ a → a ≤ 50 → σ2.1 a = σ1.1 a) → σ2.1 44 2 = σ1.1 44 2 → σ2.1 44 6 = σ1.1 44 6 → σ2.1 44 12 = a_eN S → (∀ e : Int, 0 ≤ e → e < i → σ2.1 54 e = a_eK S e ∧ σ2.1 55 e = a_eM S e ∧ σ2.1 56 e = a_eP S e) → V 6 MX7_asTold 14 [some (vR 6 44), some (vZ i)] [] σ2 post := by
    intro m
    induction m with
    | zero =>
      intro i i0 i1 σ2 hk hr h2 h6 h12 hd
      have hR2 := RM_k hk hR
      have e8 : σ2.1 44 8 = a_eN S := hR2.2.2.1.1
      refine V_run kX7_asTold 3 [] (show V 6 MX7_asTold 19 [some (vR 6 44), some (vZ i)] [vZ (σ2.1 44 8), vZ i] σ2 post from ?_)
      refine V_top (e8) ?_
      refine V_run kX7_asTold 10 [1] (show (zr i ∧ zr (a_eN S) ∧ (a_eN S) ≤ i) ∧ V 6 MX7_asTold 79 [some (vR 6 44), some (vZ i)] [] (uI (uI (uI σ2 44 16 0) 44 17 (-1)) 44 18 0) post from ⟨(by omega), ?_⟩)
      refine V_vret kX7_asTold rfl rfl (hp _ (((hk.s (by decide)).s (by decide)).s (by decide)) ?_ ?_ ?_)
      · have hP := hd1.1
        have hW := hd1.2
        unfold zTdP at hP
        unfold zTdW at hW
        rw [hw.1] at hP
        rw [hw.2.1] at hW
        refine ⟨h2.trans hP.1, h12, fun k k0 k1 => ?_, fun t t0 t1 => ?_, fun e a b => ?_, ⟨by rw [uI_at, if_neg (by decide), uI_get]; decide, by rw [uI_get]; decide⟩, hok⟩
        · have h9 := hP.2 k k0 k1
          have q := (zwho1_fit (f := a_pF S) ho.1.1 k0 k1).1
          show σ2.1 47 k = _ ∧ σ2.1 48 k = _ ∧ σ2.1 49 k = _
          rw [hr 47 (by omega) (by omega), hr 48 (by omega) (by omega), hr 49 (by omega) (by omega), h9.1, h9.2.1, h9.2.2, hR1.1.2 _ (by omega) (by omega), hR1.1.2 _ (by omega) (by omega), hR1.1.2 _ (by omega) (by omega)]
          exact ⟨rfl, rfl, rfl⟩
        · have h9 := hW.2 t t0 t1
          have e17 : (uI (uI (uI σ2 44 16 0) 44 17 (-1)) 44 18 0).1 44 17 = -1 := by rw [uI_at, if_neg (by decide), uI_get]
          rw [e17, if_neg (by omega)]
          show σ2.1 50 t = _
          rw [hr 50 (by omega) (by omega), h9]
          show _ = if t < zwho 0 (a_wF S) (a_wN S) then zopn (a_wF S t) else 1
          by_cases q : t < zwho 0 (a_wF S) (a_wN S)
          · have q1 := (zwho0_fit ho.2.1.1 t0 q).1
            rw [if_pos q, if_pos q, show zGt σ1 t = a_wF S t from hR1.2.1.2 t t0 q1]
          · rw [if_neg q, if_neg q]
        · have h9 := hd e a (by have : e < a_eN S := b; omega)
          have e16 : (uI (uI (uI σ2 44 16 0) 44 17 (-1)) 44 18 0).1 44 16 = 0 := by rw [uI_at, if_neg (by decide), uI_at, if_neg (by decide), uI_get]
          rw [e16, zbt_0]
          exact ⟨h9.1, h9.2.1, h9.2.2, rfl⟩
      · exact h2.trans (by have hP := hd1.1; unfold zTdP at hP; rw [hw.1] at hP; exact hP.1)
      · exact ⟨by rw [uI_at, if_neg (by decide), uI_at, if_neg (by decide), uI_get], by rw [uI_at, if_neg (by decide), uI_get]⟩
    | succ m ih =>
      intro i i0 i1 σ2 hk hr h2 h6 h12 hd
      have hR2 := RM_k hk hR
      have e8 : σ2.1 44 8 = a_eN S := hR2.2.2.1.1
      have hev := hR2.2.2.1.2 i i0 (by omega)
      refine V_run kX7_asTold 3 [] (show V 6 MX7_asTold 19 [some (vR 6 44), some (vZ i)] [vZ (σ2.1 44 8), vZ i] σ2 post from ?_)
      refine V_top (e8) ?_
      refine V_run kX7_asTold 8 [0] (show (zr i ∧ zr (a_eN S) ∧ i < (a_eN S)) ∧ (0 ≤ i ∧ i < 9) ∧ V 6 MX7_asTold 33 [some (vR 6 44), some (vZ i)] [vZ (σ2.1 51 i), vZ i, vR 8 54] σ2 post from ⟨(by omega), (by omega), ?_⟩)
      refine V_top (hev.1) ?_
      refine V_run kX7_asTold 8 [] (show (0 ≤ i ∧ i < 9) ∧ (0 ≤ i ∧ i < 9) ∧ V 6 MX7_asTold 45 [some (vR 6 44), some (vZ i)] [vZ ((uI σ2 54 i (a_eK S i)).1 52 i), vZ i, vR 8 55] (uI σ2 54 i (a_eK S i)) post from ⟨(by omega), (by omega), ?_⟩)
      refine V_top (show (uI σ2 54 i (a_eK S i)).1 52 i = a_eM S i from hev.2.1) ?_
      refine V_run kX7_asTold 8 [] (show (0 ≤ i ∧ i < 9) ∧ (0 ≤ i ∧ i < 9) ∧ V 6 MX7_asTold 57 [some (vR 6 44), some (vZ i)] [vZ ((uI (uI σ2 54 i (a_eK S i)) 55 i (a_eM S i)).1 53 i), vZ i, vR 8 56] (uI (uI σ2 54 i (a_eK S i)) 55 i (a_eM S i)) post from ⟨(by omega), (by omega), ?_⟩)
      refine V_top (show (uI (uI σ2 54 i (a_eK S i)) 55 i (a_eM S i)).1 53 i = a_eP S i from hev.2.2) ?_
      refine V_run kX7_asTold 3 [] (show (0 ≤ i ∧ i < 9) ∧ V 6 MX7_asTold 14 [some (vR 6 44), some (vZ (i + 1))] [] (uI (uI (uI σ2 54 i (a_eK S i)) 55 i (a_eM S i)) 56 i (a_eP S i)) post from ⟨(by omega), ?_⟩)
      refine ih (i + 1) (by omega) (by omega) _ (((hk.u (by decide)).u (by decide)).u (by decide)) (fun a x y => by rw [uI_ne (by omega), uI_ne (by omega), uI_ne (by omega)]; exact hr a x y) h2 h6 h12 (fun e a b => ?_)
      rw [uI_ne (by decide), uI_ne (by decide), uI_at, uI_ne (by decide), uI_at, uI_ne (by decide), uI_at, uI_ne (by decide), uI_ne (by decide)]
      by_cases he : e = i
      · rw [if_pos he, if_pos he, if_pos he, he]; exact ⟨rfl, rfl, rfl⟩
      · rw [if_neg he, if_neg he, if_neg he]; exact hd e a (by omega)
  exact loop (a_eN S).toNat 0 (by omega) (by omega) _ (hf1.k.s (by decide)) (fun a x y => by rw [uI_ne (by omega)]) (by rw [uI_at, if_neg (by decide)]) (by rw [uI_at, if_neg (by decide)]) uI_get (fun e a b => by omega)
theorem fPut_fPut {f : Int → Int} {k a b : Int} : fPut (fPut f k a) k b = fPut f k b := by
  funext j; unfold fPut; by_cases h : j = k
  · rw [if_pos h, if_pos h]
  · rw [if_neg h, if_neg h, if_neg h]
theorem fPut_at {f : Int → Int} {k v j : Int} : fPut f k v j = if j = k then v else f j := rfl
/-- the day if k came in minute t -/
def cCome (C : zCf) (k t : Int) : zCf := (cn C, cE C, fPut (cCm C) k t, cSo C, cPa C, cWi C, cKi C, cMi C, cPe C, cOn C)
def cSort (C : zCf) (k v : Int) : zCf := (cn C, cE C, cCm C, fPut (cSo C) k v, cPa C, cWi C, cKi C, cMi C, cPe C, cOn C)
def cParc (C : zCf) (k v : Int) : zCf := (cn C, cE C, cCm C, cSo C, fPut (cPa C) k v, cWi C, cKi C, cMi C, cPe C, cOn C)
def cOpen (C : zCf) (t v : Int) : zCf := (cn C, cE C, cCm C, cSo C, cPa C, fPut (cWi C) t v, cKi C, cMi C, cPe C, cOn C)
def cLet (C : zCf) (t k : Int) : zCf := (cn C, cE C + 1, cCm C, cSo C, cPa C, cWi C, fPut (cKi C) (cE C) 1, fPut (cMi C) (cE C) t, fPut (cPe C) (cE C) k, cOn C)
theorem cCome_v {C : zCf} {k t : Int} (h : zCv C) (t0 : 0 ≤ t) (t1 : t < 24) : zCv (cCome C k t) := by
  obtain ⟨h1, h2, h3, h4, h5⟩ := h
  refine ⟨h1, h2, fun j a b => ?_, h4, h5⟩
  have h6 := h3 j a b
  show (0 ≤ fPut (cCm C) k t j ∧ fPut (cCm C) k t j ≤ 23) ∧ _
  rw [fPut_at]
  by_cases q : j = k
  · rw [if_pos q]; exact ⟨by omega, h6.2⟩
  · rw [if_neg q]; exact h6
theorem cSort_v {C : zCf} {k v : Int} (h : zCv C) (t0 : 0 ≤ v) (t1 : v ≤ 2) : zCv (cSort C k v) := by
  obtain ⟨h1, h2, h3, h4, h5⟩ := h
  refine ⟨h1, h2, fun j a b => ?_, h4, h5⟩
  have h6 := h3 j a b
  show _ ∧ (0 ≤ fPut (cSo C) k v j ∧ fPut (cSo C) k v j ≤ 2) ∧ _
  rw [fPut_at]
  by_cases q : j = k
  · rw [if_pos q]; exact ⟨h6.1, by omega, h6.2.2⟩
  · rw [if_neg q]; exact h6
theorem cParc_v {C : zCf} {k v : Int} (h : zCv C) (t0 : 1 ≤ v) (t1 : v ≤ 9) : zCv (cParc C k v) := by
  obtain ⟨h1, h2, h3, h4, h5⟩ := h
  refine ⟨h1, h2, fun j a b => ?_, h4, h5⟩
  have h6 := h3 j a b
  show _ ∧ _ ∧ (1 ≤ fPut (cPa C) k v j ∧ fPut (cPa C) k v j ≤ 9)
  rw [fPut_at]
  by_cases q : j = k
  · rw [if_pos q]; exact ⟨h6.1, h6.2.1, by omega⟩
  · rw [if_neg q]; exact h6
theorem cOpen_v {C : zCf} {t v : Int} (h : zCv C) (t0 : 0 ≤ v) (t1 : v ≤ 3) : zCv (cOpen C t v) := by
  obtain ⟨h1, h2, h3, h4, h5⟩ := h
  refine ⟨h1, h2, h3, fun j a b => ?_, h5⟩
  have h6 := h4 j a b
  show 0 ≤ fPut (cWi C) t v j ∧ fPut (cWi C) t v j ≤ 3
  rw [fPut_at]
  by_cases q : j = t
  · rw [if_pos q]; omega
  · rw [if_neg q]; exact h6
theorem cLet_v {C : zCf} {t k : Int} (h : zCv C) (he : cE C ≤ 8) (t0 : 0 ≤ t) (t1 : t < 24) (k0 : 0 ≤ k) (k1 : k < cn C) : zCv (cLet C t k) := by
  obtain ⟨h1, h2, h3, h4, h5⟩ := h
  refine ⟨h1, ⟨by show 0 ≤ cE C + 1; omega, by show cE C + 1 ≤ 9; omega⟩, h3, h4, fun e a b => ?_⟩
  have b : e < cE C + 1 := b
  show (0 ≤ fPut (cKi C) (cE C) 1 e ∧ fPut (cKi C) (cE C) 1 e ≤ 2) ∧ (0 ≤ fPut (cMi C) (cE C) t e ∧ fPut (cMi C) (cE C) t e ≤ 23) ∧ 0 ≤ fPut (cPe C) (cE C) k e ∧ fPut (cPe C) (cE C) k e ≤ 11
  rw [fPut_at, fPut_at, fPut_at]
  by_cases q : e = cE C
  · rw [if_pos q, if_pos q, if_pos q]; omega
  · rw [if_neg q, if_neg q, if_neg q]; exact h5 e a (by omega)
theorem zMc_come {σ : zSt} {C : zCf} {k t : Int} (h : zMc σ C) (t0 : 0 ≤ t) (t1 : t < 24) : zMc (uI σ 47 k t) (cCome C k t) := by
  obtain ⟨h1, h2, h3, h4, h5, h6, h7⟩ := h
  refine ⟨h1, h2, fun j a b => ?_, h4, h5, h6, cCome_v h7 t0 t1⟩
  have q := h3 j a b
  rw [uI_at]
  refine ⟨?_, q.2⟩
  show _ = fPut (cCm C) k t j
  rw [fPut_at, q.1]
theorem zMc_sort {σ : zSt} {C : zCf} {k v : Int} (h : zMc σ C) (t0 : 0 ≤ v) (t1 : v ≤ 2) : zMc (uI σ 48 k v) (cSort C k v) := by
  obtain ⟨h1, h2, h3, h4, h5, h6, h7⟩ := h
  refine ⟨h1, h2, fun j a b => ?_, h4, h5, h6, cSort_v h7 t0 t1⟩
  have q := h3 j a b
  rw [uI_at]
  refine ⟨q.1, ?_, q.2.2⟩
  show _ = fPut (cSo C) k v j
  rw [fPut_at, q.2.1]
theorem zMc_parc {σ : zSt} {C : zCf} {k v : Int} (h : zMc σ C) (t0 : 1 ≤ v) (t1 : v ≤ 9) : zMc (uI σ 49 k v) (cParc C k v) := by
  obtain ⟨h1, h2, h3, h4, h5, h6, h7⟩ := h
  refine ⟨h1, h2, fun j a b => ?_, h4, h5, h6, cParc_v h7 t0 t1⟩
  have q := h3 j a b
  rw [uI_at]
  refine ⟨q.1, q.2.1, ?_⟩
  show _ = fPut (cPa C) k v j
  rw [fPut_at, q.2.2]
theorem zSto_b {C : zCf} {p : Int} : ∀ (m : Nat) (t a : Int), a ≤ zSto C p m t a ∧ zSto C p m t a ≤ a + m
  | 0, _, a => by unfold zSto; omega
  | m + 1, t, a => by
    unfold zSto
    have h := zSto_b (C := C) (p := p) m (t + 1)
    by_cases q : zPla C t p = -1
    · rw [if_pos q]; have := h a; omega
    · rw [if_neg q]; have := h (a + 1); omega
def zCom (C : zCf) (k : Int) : Nat → Int → Int → Int → Int × Int
  | 0, _, b, l => (b, l)
  | m + 1, t, b, l => if dl (zD (cCome C k t) 23) k = 0 ∧ (b = -1 ∨ zSto (cCome C k t) k 24 0 0 < l) then zCom C k m (t + 1) t (zSto (cCome C k t) k 24 0 0) else zCom C k m (t + 1) b l
def aCome (S : zAb) (k x : Int) : Int := if (0 ≤ k ∧ k < cn (aC S)) ∧ 0 ≤ x ∧ x ≤ 1 then zAlw (zCom (aC S) k 24 0 (-1) 0) x else -2
set_option maxHeartbeats 4000000 in
set_option maxRecDepth 100000 in
/-- comeOf -/
theorem c_M_comeOf {k x : Int} {S : zAb} {σ : zSt} {post : Option VV → zSt → Prop} (hR : RM σ S) (ho : aOk S) (k0 : 0 ≤ k) (k1 : k < cn (aC S)) (hx : zr x) (hp : ∀ σ', mKeep σ σ' → post (some (vZ (zAlw (zCom (aC S) k 24 0 (-1) 0) x))) σ') : Mc 7 MX7_comeOf [vR 6 44, vZ k, vZ x] σ post := by
  have hok := aC_ok ho
  have hcn := hok.1
  obtain ⟨v, hv⟩ : ∃ v : Int, v = zAlw (zCom (aC S) k 24 0 (-1) 0) x := ⟨_, rfl⟩
  rw [← hv] at hp
  show V 7 MX7_comeOf 0 [some (vR 6 44), some (vZ k), some (vZ x), none, none, none, none, none, none] [] σ post
  refine V_run kX7_comeOf 1 [] (show V 7 MX7_comeOf 1 [some (vR 6 44), some (vZ k), some (vZ x), none, none, none, none, none, none] [vR 6 44] σ post from ?_)
  refine V_callV (a := []) (rest := []) kX7_comeOf rfl oX7_asTold iX7_asTold lk_7_213 rfl rfl rfl (Nat.le_of_ble_eq_true rfl) (Nat.le_of_ble_eq_true rfl) (Nat.le_of_ble_eq_true rfl) (post' := fun zv zσ => V 7 MX7_comeOf 4 [some (vR 6 44), some (vZ k), some (vZ x), none, none, none, none, none, none] (zv.toList ++ []) zσ post) (c_M_asTold hR ho (fun σ1 hk1 hc1 hn1 => (show V 7 MX7_comeOf 4 [some (vR 6 44), some (vZ k), some (vZ x), none, none, none, none, none, none] [] σ1 post from ?_))) (fun _ _ h => h)
  have hc9 := hok.2.2.1 k k0 k1
  have ht9 := (hc1.2.2.1 k k0 k1).1
  refine V_run kX7_comeOf 4 [] (show (0 ≤ k ∧ k < 13) ∧ V 7 MX7_comeOf 10 [some (vR 6 44), some (vZ k), some (vZ x), none, none, none, none, none, none] [vZ (σ1.1 47 k)] σ1 post from ⟨(by omega), ?_⟩)
  refine V_top (ht9) ?_
  have loop : ∀ (m : Nat) (i a l : Int), 0 ≤ i → i + m = 24 → (-1 ≤ a ∧ a ≤ 23) → (0 ≤ l ∧ l ≤ 24) → zAlw (zCom (aC S) k m i a l) x = v → ∀ (C2 : zCf) (σ2 : zSt), mKeep σ σ2 → zMc σ2 C2 → (∀ y, cCome C2 k y = cCome (aC S) k y) → V 7 MX7_comeOf 20 [some (vR 6 44), some (vZ k), some (vZ x), some (vZ (cCm (aC S) k)), some (vZ a), some (vZ l), some (vZ i), none, none] [] σ2 post := by
    intro m
    induction m with
    | zero =>
      intro i a l i0 i1 ha hl he C2 σ2 hk hc hC2
      unfold zCom zAlw at he
      refine V_run kX7_comeOf 10 [1] (show (zr i ∧ zr 24 ∧ 24 ≤ i) ∧ (0 ≤ k ∧ k < 13) ∧ V 7 MX7_comeOf 120 [some (vR 6 44), some (vZ k), some (vZ x), some (vZ (cCm (aC S) k)), some (vZ a), some (vZ l), some (vZ i), none, none] [vZ (-1), vZ a] (uI σ2 47 k (cCm (aC S) k)) post from ⟨(by omega), (by omega), ?_⟩)
      have hp := hp _ (hk.u (k := 47) (j := k) (v := cCm (aC S) k) (by decide))
      by_cases h1 : a = -1
      · skip
        rw [if_pos (Or.inl h1)] at he
        rw [← he] at hp
        refine V_run kX7_comeOf 3 [1] (show (zr a ∧ zr (-1) ∧ a = (-1)) ∧ V 7 MX7_comeOf 134 [some (vR 6 44), some (vZ k), some (vZ x), some (vZ (cCm (aC S) k)), some (vZ a), some (vZ l), some (vZ i), none, none] [vZ a] (uI σ2 47 k (cCm (aC S) k)) post from ⟨(by omega), ?_⟩)
        exact V_iret kX7_comeOf rfl rfl (hp)
      · skip
        refine V_run kX7_comeOf 2 [0] (show (zr a ∧ zr (-1) ∧ ¬ a = (-1)) ∧ V 7 MX7_comeOf 124 [some (vR 6 44), some (vZ k), some (vZ x), some (vZ (cCm (aC S) k)), some (vZ a), some (vZ l), some (vZ i), none, none] [vZ x] (uI σ2 47 k (cCm (aC S) k)) post from ⟨(by omega), ?_⟩)
        by_cases h2 : x = 0
        · skip
          rw [if_pos (Or.inr h2)] at he
          rw [← he] at hp
          refine V_run kX7_comeOf 3 [0] (show (zr x ∧ x = 0) ∧ V 7 MX7_comeOf 134 [some (vR 6 44), some (vZ k), some (vZ x), some (vZ (cCm (aC S) k)), some (vZ a), some (vZ l), some (vZ i), none, none] [vZ a] (uI σ2 47 k (cCm (aC S) k)) post from ⟨(by omega), ?_⟩)
          exact V_iret kX7_comeOf rfl rfl (hp)
        · skip
          rw [if_neg (fun q => q.elim h1 h2)] at he
          rw [← he] at hp
          refine V_run kX7_comeOf 2 [1] (show (zr x ∧ ¬ x = 0) ∧ V 7 MX7_comeOf 134 [some (vR 6 44), some (vZ k), some (vZ x), some (vZ (cCm (aC S) k)), some (vZ a), some (vZ l), some (vZ i), none, none] [vZ l] (uI σ2 47 k (cCm (aC S) k)) post from ⟨(by omega), ?_⟩)
          exact V_iret kX7_comeOf rfl rfl (hp)
    | succ m ih =>
      intro i a l i0 i1 ha hl he C2 σ2 hk hc hC2
      unfold zCom at he
      have hc3 := zMc_come (k := k) (t := i) hc i0 (by omega)
      rw [hC2] at hc3
      have hk3 := hk.u (k := 47) (j := k) (v := i) (by decide)
      have hv3 := zMc_C hc3
      have hsb := zSto_b (C := cCome (aC S) k i) (p := k) 24 0 0
      obtain ⟨n9, hn9⟩ : ∃ n : Int, n = zSto (cCome (aC S) k i) k 24 0 0 := ⟨_, rfl⟩
      rw [← hn9] at he hsb
      refine V_run kX7_comeOf 9 [0] (show (zr i ∧ zr 24 ∧ i < 24) ∧ (0 ≤ k ∧ k < 13) ∧ V 7 MX7_comeOf 36 [some (vR 6 44), some (vZ k), some (vZ x), some (vZ (cCm (aC S) k)), some (vZ a), some (vZ l), some (vZ i), none, none] [vR 6 44] (uI σ2 47 k i) post from ⟨(by omega), (by omega), ?_⟩)
      refine V_callV (a := []) (rest := []) kX7_comeOf rfl oX7_runs iX7_runs lk_7_216 rfl rfl rfl (Nat.le_of_ble_eq_true rfl) (Nat.le_of_ble_eq_true rfl) (Nat.le_of_ble_eq_true rfl) (post' := fun zv zσ => V 7 MX7_comeOf 39 [some (vR 6 44), some (vZ k), some (vZ x), some (vZ (cCm (aC S) k)), some (vZ a), some (vZ l), some (vZ i), none, none] (zv.toList ++ []) zσ post) (c_M_runs hc3 (fun σ4 hf4 hm4 hr4 => (show V 7 MX7_comeOf 39 [some (vR 6 44), some (vZ k), some (vZ x), some (vZ (cCm (aC S) k)), some (vZ a), some (vZ l), some (vZ i), none, none] [] σ4 post from ?_))) (fun _ _ h => h)
      have hJ := zJ_D hv3 23
      have hds := hJ.2.2.2.2.2.1 k k0 k1
      have hdr := hJ.2.2.2.2.2.2.1 k
      refine V_run kX7_comeOf 2 [] (show V 7 MX7_comeOf 41 [some (vR 6 44), some (vZ k), some (vZ x), some (vZ (cCm (aC S) k)), some (vZ a), some (vZ l), some (vZ i), none, none] [vZ k, vR 6 44] σ4 post from ?_)
      refine V_callV (a := [vZ k]) (rest := []) kX7_comeOf rfl oX7_stoodNow iX7_stoodNow lk_7_237 rfl rfl rfl (Nat.le_of_ble_eq_true rfl) (Nat.le_of_ble_eq_true rfl) (Nat.le_of_ble_eq_true rfl) (post' := fun zv zσ => V 7 MX7_comeOf 44 [some (vR 6 44), some (vZ k), some (vZ x), some (vZ (cCm (aC S) k)), some (vZ a), some (vZ l), some (vZ i), none, none] (zv.toList ++ []) zσ post) (c_M_stoodNow hv3 hr4 k0 k1 ((show V 7 MX7_comeOf 44 [some (vR 6 44), some (vZ k), some (vZ x), some (vZ (cCm (aC S) k)), some (vZ a), some (vZ l), some (vZ i), none, none] [vZ (zSto (cCome (aC S) k i) k 24 0 0)] σ4 post from ?_))) (fun _ _ h => h)
      rw [← hn9]
      refine V_run kX7_comeOf 5 [] (show (0 ≤ k ∧ k < 12) ∧ V 7 MX7_comeOf 52 [some (vR 6 44), some (vZ k), some (vZ x), some (vZ (cCm (aC S) k)), some (vZ a), some (vZ l), some (vZ i), some (vZ n9), none] [vZ (σ4.1 58 k)] σ4 post from ⟨(by omega), ?_⟩)
      refine V_top ((hm4.2.2 k k0 (by omega)).1) ?_
      refine V_run kX7_comeOf 1 [] (show V 7 MX7_comeOf 53 [some (vR 6 44), some (vZ k), some (vZ x), some (vZ (cCm (aC S) k)), some (vZ a), some (vZ l), some (vZ i), some (vZ n9), none] [vZ 2, vZ (ds (zD (cCome (aC S) k i) 23) k)] σ4 post from ?_)
      have go := fun a2 l2 ha2 hl2 h2 => ih (i + 1) a2 l2 (by omega) (by omega) ha2 hl2 h2 _ σ4 (hk3.tr hf4.k) (zMc_nf hf4 hc3) (fun y => (show cCome (cCome (aC S) k i) k y = cCome (aC S) k y by unfold cCome; rw [fPut_fPut]))
      by_cases h1 : dl (zD (cCome (aC S) k i) 23) k = 0
      rotate_left
      · skip
        rw [if_neg (fun q => h1 q.1)] at he
        have h8 : ¬ ds (zD (cCome (aC S) k i) 23) k = 2 := fun q => h1 (hds.mp q)
        refine V_run kX7_comeOf 13 [1, 1, 1] (show (zr (ds (zD (cCome (aC S) k i) 23) k) ∧ zr 2 ∧ ¬ (ds (zD (cCome (aC S) k i) 23) k) = 2) ∧ (zr 0 ∧ 0 = 0) ∧ (zr 0 ∧ 0 = 0) ∧ V 7 MX7_comeOf 20 [some (vR 6 44), some (vZ k), some (vZ x), some (vZ (cCm (aC S) k)), some (vZ a), some (vZ l), some (vZ (i + 1)), some (vZ n9), some (vZ 0)] [] σ4 post from ⟨(by omega), (by omega), (by omega), ?_⟩)
        refine V_drop (L := [some (vR 6 44), some (vZ k), some (vZ x), some (vZ (cCm (aC S) k)), some (vZ a), some (vZ l), some (vZ (i + 1)), none, none]) ⟨rfl, ⟨rfl, ⟨rfl, ⟨rfl, ⟨rfl, ⟨rfl, ⟨rfl, trivial⟩⟩⟩⟩⟩⟩⟩ ?_
        exact go _ _ ha hl he
      have h8 := hds.mpr h1
      refine V_run kX7_comeOf 3 [0] (show (zr (ds (zD (cCome (aC S) k i) 23) k) ∧ zr 2 ∧ (ds (zD (cCome (aC S) k i) 23) k) = 2) ∧ V 7 MX7_comeOf 59 [some (vR 6 44), some (vZ k), some (vZ x), some (vZ (cCm (aC S) k)), some (vZ a), some (vZ l), some (vZ i), some (vZ n9), none] [vZ (-1), vZ a] σ4 post from ⟨(by omega), ?_⟩)
      by_cases h2 : a = -1
      · skip
        rw [if_pos ⟨h1, Or.inl h2⟩] at he
        refine V_run kX7_comeOf 16 [1, 0, 0] (show (zr a ∧ zr (-1) ∧ a = (-1)) ∧ (zr 1 ∧ ¬ 1 = 0) ∧ (zr 1 ∧ ¬ 1 = 0) ∧ V 7 MX7_comeOf 20 [some (vR 6 44), some (vZ k), some (vZ x), some (vZ (cCm (aC S) k)), some (vZ i), some (vZ n9), some (vZ (i + 1)), some (vZ n9), some (vZ 1)] [] σ4 post from ⟨(by omega), (by omega), (by omega), ?_⟩)
        refine V_drop (L := [some (vR 6 44), some (vZ k), some (vZ x), some (vZ (cCm (aC S) k)), some (vZ i), some (vZ n9), some (vZ (i + 1)), none, none]) ⟨rfl, ⟨rfl, ⟨rfl, ⟨rfl, ⟨rfl, ⟨rfl, ⟨rfl, trivial⟩⟩⟩⟩⟩⟩⟩ ?_
        exact go _ _ (by omega) (by omega) he
      · skip
        refine V_run kX7_comeOf 3 [0] (show (zr a ∧ zr (-1) ∧ ¬ a = (-1)) ∧ V 7 MX7_comeOf 66 [some (vR 6 44), some (vZ k), some (vZ x), some (vZ (cCm (aC S) k)), some (vZ a), some (vZ l), some (vZ i), some (vZ n9), none] [vZ l, vZ n9] σ4 post from ⟨(by omega), ?_⟩)
        rcases Int.lt_or_le n9 l with h3 | h3
        · skip
          rw [if_pos ⟨h1, Or.inr h3⟩] at he
          refine V_run kX7_comeOf 16 [0, 0, 0] (show (zr n9 ∧ zr l ∧ n9 < l) ∧ (zr 1 ∧ ¬ 1 = 0) ∧ (zr 1 ∧ ¬ 1 = 0) ∧ V 7 MX7_comeOf 20 [some (vR 6 44), some (vZ k), some (vZ x), some (vZ (cCm (aC S) k)), some (vZ i), some (vZ n9), some (vZ (i + 1)), some (vZ n9), some (vZ 1)] [] σ4 post from ⟨(by omega), (by omega), (by omega), ?_⟩)
          refine V_drop (L := [some (vR 6 44), some (vZ k), some (vZ x), some (vZ (cCm (aC S) k)), some (vZ i), some (vZ n9), some (vZ (i + 1)), none, none]) ⟨rfl, ⟨rfl, ⟨rfl, ⟨rfl, ⟨rfl, ⟨rfl, ⟨rfl, trivial⟩⟩⟩⟩⟩⟩⟩ ?_
          exact go _ _ (by omega) (by omega) he
        · skip
          rw [if_neg (fun q => q.2.elim h2 (by omega))] at he
          refine V_run kX7_comeOf 13 [1, 1, 1] (show (zr n9 ∧ zr l ∧ l ≤ n9) ∧ (zr 0 ∧ 0 = 0) ∧ (zr 0 ∧ 0 = 0) ∧ V 7 MX7_comeOf 20 [some (vR 6 44), some (vZ k), some (vZ x), some (vZ (cCm (aC S) k)), some (vZ a), some (vZ l), some (vZ (i + 1)), some (vZ n9), some (vZ 0)] [] σ4 post from ⟨(by omega), (by omega), (by omega), ?_⟩)
          refine V_drop (L := [some (vR 6 44), some (vZ k), some (vZ x), some (vZ (cCm (aC S) k)), some (vZ a), some (vZ l), some (vZ (i + 1)), none, none]) ⟨rfl, ⟨rfl, ⟨rfl, ⟨rfl, ⟨rfl, ⟨rfl, ⟨rfl, trivial⟩⟩⟩⟩⟩⟩⟩ ?_
          exact go _ _ ha hl he
  refine V_run kX7_comeOf 7 [] (show V 7 MX7_comeOf 20 [some (vR 6 44), some (vZ k), some (vZ x), some (vZ (cCm (aC S) k)), some (vZ (-1)), some (vZ 0), some (vZ 0), none, none] [] σ1 post from ?_)
  exact loop 24 0 (-1) 0 (by omega) (by omega) (by omega) (by omega) hv.symm (aC S) σ1 hk1 hc1 (fun _ => rfl)
set_option maxHeartbeats 4000000 in
set_option maxRecDepth 100000 in
/-- come -/
theorem c_M_come {k x : Int} {S : zAb} {σ : zSt} {post : Option VV → zSt → Prop} (hR : RM σ S) (ho : aOk S) (hq : zr k) (hx : zr x) (hp : ∀ σ', mKeep σ σ' → post (some (vZ (aCome S k x))) σ') : Mc 8 MX7_come [vR 6 44, vZ k, vZ x] σ post := by
  show V 8 MX7_come 0 [some (vR 6 44), some (vZ k), some (vZ x)] [] σ post
  refine V_run kX7_come 2 [] (show V 8 MX7_come 2 [some (vR 6 44), some (vZ k), some (vZ x)] [vZ k, vR 6 44] σ post from ?_)
  refine V_callV (a := [vZ k]) (rest := []) kX7_come rfl oX7_isPerson iX7_isPerson lk_7_146 rfl rfl rfl (Nat.le_of_ble_eq_true rfl) (Nat.le_of_ble_eq_true rfl) (Nat.le_of_ble_eq_true rfl) (post' := fun zv zσ => V 8 MX7_come 5 [some (vR 6 44), some (vZ k), some (vZ x)] (zv.toList ++ []) zσ post) (c_M_isPerson hR ho (by omega) (fun σp1 hkp1 htd1 => (show V 8 MX7_come 5 [some (vR 6 44), some (vZ k), some (vZ x)] [vZ (if 0 ≤ k ∧ k < cn (aC S) then 1 else 0)] σp1 post from ?_))) (fun _ _ h => h)
  have hRp1 := RM_k hkp1 hR
  by_cases h1 : 0 ≤ k ∧ k < cn (aC S)
  rotate_left
  · skip
    refine V_top (if_neg h1) ?_
    refine V_run kX7_come 2 [1] (show (zr 0 ∧ 0 = 0) ∧ V 8 MX7_come 26 [some (vR 6 44), some (vZ k), some (vZ x)] [vZ (-2)] σp1 post from ⟨(by omega), ?_⟩)
    have e9 : aCome S k x = -2 := if_neg (by omega)
    rw [e9] at hp
    exact V_iret kX7_come rfl rfl (hp _ hkp1)
  refine V_top (if_pos h1) ?_
  refine V_run kX7_come 2 [0] (show (zr 1 ∧ ¬ 1 = 0) ∧ V 8 MX7_come 9 [some (vR 6 44), some (vZ k), some (vZ x)] [vZ x] σp1 post from ⟨(by omega), ?_⟩)
  refine V_callS (a := [vZ x]) (rest := []) kX7_come rfl oX7_isTwo iX7_isTwo lk_7_246 rfl rfl (Nat.le_of_ble_eq_true rfl) (Nat.le_of_ble_eq_true rfl) (Nat.le_of_ble_eq_true rfl) (post' := fun zv zσ => V 8 MX7_come 12 [some (vR 6 44), some (vZ k), some (vZ x)] (zv.toList ++ []) zσ post) (c_M_isTwo (by omega) ((show V 8 MX7_come 12 [some (vR 6 44), some (vZ k), some (vZ x)] [vZ (if 0 ≤ x ∧ x ≤ 1 then 1 else 0)] σp1 post from ?_))) (fun _ _ h => h)
  by_cases h2 : 0 ≤ x ∧ x ≤ 1
  rotate_left
  · skip
    refine V_top (if_neg h2) ?_
    refine V_run kX7_come 2 [1] (show (zr 0 ∧ 0 = 0) ∧ V 8 MX7_come 26 [some (vR 6 44), some (vZ k), some (vZ x)] [vZ (-2)] σp1 post from ⟨(by omega), ?_⟩)
    have e9 : aCome S k x = -2 := if_neg (by omega)
    rw [e9] at hp
    exact V_iret kX7_come rfl rfl (hp _ hkp1)
  refine V_top (if_pos h2) ?_
  refine V_run kX7_come 4 [0] (show (zr 1 ∧ ¬ 1 = 0) ∧ V 8 MX7_come 18 [some (vR 6 44), some (vZ k), some (vZ x)] [vZ x, vZ k, vR 6 44] σp1 post from ⟨(by omega), ?_⟩)
  refine V_callV (a := [vZ k, vZ x]) (rest := []) kX7_come rfl oX7_comeOf iX7_comeOf lk_7_255 rfl rfl rfl (Nat.le_of_ble_eq_true rfl) (Nat.le_of_ble_eq_true rfl) (Nat.le_of_ble_eq_true rfl) (post' := fun zv zσ => V 8 MX7_come 21 [some (vR 6 44), some (vZ k), some (vZ x)] (zv.toList ++ []) zσ post) (c_M_comeOf hRp1 ho h1.1 h1.2 (by omega) (fun σ9 hk9 => (show V 8 MX7_come 21 [some (vR 6 44), some (vZ k), some (vZ x)] [vZ (zAlw (zCom (aC S) k 24 0 (-1) 0) x)] σ9 post from ?_))) (fun _ _ h => h)
  have e9 : aCome S k x = zAlw (zCom (aC S) k 24 0 (-1) 0) x := if_pos ⟨h1, h2⟩
  rw [e9] at hp
  refine V_run kX7_come 1 [] (show V 8 MX7_come 26 [some (vR 6 44), some (vZ k), some (vZ x)] [vZ (zAlw (zCom (aC S) k 24 0 (-1) 0) x)] σ9 post from ?_)
  exact V_iret kX7_come rfl rfl (hp _ (hkp1.tr hk9))
