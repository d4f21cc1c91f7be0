def tType (S : zAb) (x v : Int) : zAb × Int := if (0 ≤ x ∧ x ≤ 1) ∧ 0 ≤ v ∧ v ≤ 255 then (if aTyp S x = (if x = 0 then 47 else 24) then (S, -4) else (aTypS S x v, aTyp S x + 1)) else (S, -2)
def tWipe (S : zAb) (x : Int) : zAb × Int := if 0 ≤ x ∧ x ≤ 1 then (aSzS S x 0, aTyp S x) else (S, -2)
def tUndo (S : zAb) (x : Int) : zAb × Int := if 0 ≤ x ∧ x ≤ 1 then (if aTyp S x = 0 then (S, -3) else (aSzS S x (aTyp S x - 1), aTyp S x - 1)) else (S, -2)
def tEvent (S : zAb) (k t p : Int) : zAb × Int := if (0 ≤ k ∧ k ≤ 2) ∧ (0 ≤ t ∧ t ≤ 23) ∧ 0 ≤ p ∧ p ≤ 11 then (if a_eN S = 8 then (S, -4) else (aEventS S k t p, a_eN S + 1)) else (S, -2)
def tBack (S : zAb) : zAb × Int := if a_eN S = 0 then (S, -3) else (aBackS S, a_eN S - 1)
def tSeen (S : zAb) (t p k : Int) : zAb × Int := if (0 ≤ t ∧ t ≤ 23) ∧ (0 ≤ p ∧ p ≤ 11) ∧ 0 ≤ k ∧ k ≤ 12 then (if a_sN S = 8 then (S, -4) else (aSeenS S t p k, a_sN S + 1)) else (S, -2)
def tForget (S : zAb) : zAb × Int := (aForgetS S, a_sN S)
theorem dK.u {σ σ' : zSt} (h : dK σ σ') {k : Nat} {j v : Int} (hk : k < 44) : dK σ (uI σ' k j v) := fun a x => ⟨by rw [uI_ne (by omega)]; exact (h a x).1, (h a x).2⟩
theorem aOk_type {S : zAb} {x v : Int} (ho : aOk S) (hx : 0 ≤ x ∧ x ≤ 1) (hv : 0 ≤ v ∧ v ≤ 255) (hl : aTyp S x < if x = 0 then 47 else 24) : aOk (aTypS S x v) := by
  obtain ⟨⟨p1, p2, p3⟩, ⟨w1, w2, w3⟩, h3⟩ := ho
  unfold aTyp at hl
  unfold aTypS
  by_cases h : x = 0
  · rw [if_pos h, if_pos h] at hl
    rw [if_pos h]
    refine ⟨⟨by show 0 ≤ a_pN S + 1; omega, by show a_pN S + 1 ≤ 47; omega, fun i a b => ?_⟩, ⟨w1, w2, w3⟩, h3⟩
    have b : i < a_pN S + 1 := b
    show 0 ≤ fPut (a_pF S) (a_pN S) v i ∧ fPut (a_pF S) (a_pN S) v i ≤ 255
    rw [fPut_at]
    split
    · exact hv
    · exact p3 i a (by omega)
  · rw [if_neg h, if_neg h] at hl
    rw [if_neg h]
    refine ⟨⟨p1, p2, p3⟩, ⟨by show 0 ≤ a_wN S + 1; omega, by show a_wN S + 1 ≤ 24; omega, fun i a b => ?_⟩, h3⟩
    have b : i < a_wN S + 1 := b
    show 0 ≤ fPut (a_wF S) (a_wN S) v i ∧ fPut (a_wF S) (a_wN S) v i ≤ 255
    rw [fPut_at]
    split
    · exact hv
    · exact w3 i a (by omega)
theorem aOk_sz {S : zAb} {x n : Int} (ho : aOk S) (h0 : 0 ≤ n) (hn : n ≤ aTyp S x) : aOk (aSzS S x n) := by
  obtain ⟨⟨p1, p2, p3⟩, ⟨w1, w2, w3⟩, h3⟩ := ho
  unfold aTyp at hn
  unfold aSzS
  by_cases h : x = 0
  · rw [if_pos h] at hn ⊢
    exact ⟨⟨h0, by show n ≤ 47; omega, fun i a b => p3 i a (by have b : i < n := b; omega)⟩, ⟨w1, w2, w3⟩, h3⟩
  · rw [if_neg h] at hn ⊢
    exact ⟨⟨p1, p2, p3⟩, ⟨h0, by show n ≤ 24; omega, fun i a b => w3 i a (by have b : i < n := b; omega)⟩, h3⟩
theorem aOk_back {S : zAb} (ho : aOk S) (h : 0 < a_eN S) : aOk (aBackS S) := by
  obtain ⟨h1, h2, ⟨e1, e2, e3⟩, h4⟩ := ho
  exact ⟨h1, h2, ⟨by show 0 ≤ a_eN S - 1; omega, by show a_eN S - 1 ≤ 8; omega, fun e a b => e3 e a (by have b : e < a_eN S - 1 := b; omega)⟩, h4⟩
theorem aOk_seen {S : zAb} {t p k : Int} (ho : aOk S) (h : (0 ≤ t ∧ t ≤ 23) ∧ (0 ≤ p ∧ p ≤ 11) ∧ 0 ≤ k ∧ k ≤ 12) (h8 : a_sN S < 8) : aOk (aSeenS S t p k) := by
  obtain ⟨h1, h2, h3, ⟨e1, e2, e3⟩, h5⟩ := ho
  refine ⟨h1, h2, h3, ⟨by show 0 ≤ a_sN S + 1; omega, by show a_sN S + 1 ≤ 8; omega, fun e a b => ?_⟩, h5⟩
  have b : e < a_sN S + 1 := b
  show (0 ≤ fPut (a_sM S) (a_sN S) t e ∧ fPut (a_sM S) (a_sN S) t e ≤ 23) ∧ (0 ≤ fPut (a_sP S) (a_sN S) p e ∧ fPut (a_sP S) (a_sN S) p e ≤ 11) ∧ 0 ≤ fPut (a_sW S) (a_sN S) k e ∧ fPut (a_sW S) (a_sN S) k e ≤ 12
  rw [fPut_at, fPut_at, fPut_at]
  by_cases q : e = a_sN S
  · rw [if_pos q, if_pos q, if_pos q]; exact h
  · rw [if_neg q, if_neg q, if_neg q]; exact e3 e a (by omega)
theorem aOk_forget {S : zAb} (ho : aOk S) : aOk (aForgetS S) := ⟨ho.1, ho.2.1, ho.2.2.1, ⟨Int.le_refl _, show (0 : Int) ≤ 8 by decide, fun i a b => absurd b (by show ¬ i < 0; omega)⟩, ho.2.2.2.2⟩
theorem aOk_fnd {S : zAb} {f : Int} (ho : aOk S) : aOk (aFndS S f) := ho
def sameRest (S S' : zAb) : Prop := (a_eN S' = a_eN S ∧ a_eK S' = a_eK S ∧ a_eM S' = a_eM S ∧ a_eP S' = a_eP S) ∧ (a_sN S' = a_sN S ∧ a_sM S' = a_sM S ∧ a_sP S' = a_sP S ∧ a_sW S' = a_sW S) ∧ (a_hF S' = a_hF S ∧ a_hN S' = a_hN S ∧ a_hI S' = a_hI S) ∧ a_fnd S' = a_fnd S
theorem RE_of {σ : zSt} {S : zAb} (h : zPl σ 5 (aC S)) : RE σ S := ⟨h.2.1, fun e a b => h.2.2.2.2.2.1 e a b, fun t a b => h.2.2.2.2.2.2.2.1 t a b⟩
theorem RE_c {σ σ' : zSt} {S : zAb} (h0 : σ'.1 5 5 = σ.1 5 5) (h1 : σ'.1 9 = σ.1 9) (h2 : σ'.1 10 = σ.1 10) (h3 : σ'.1 11 = σ.1 11) (h4 : σ'.1 13 = σ.1 13) (h : RE σ S) : RE σ' S := by unfold RE at h ⊢; rw [h0, h1, h2, h3, h4]; exact h
theorem RE_s {σ : zSt} {S S' : zAb} (h : sameRest S S') (hE : RE σ S) : RE σ S' := by
  obtain ⟨⟨e1, e2, e3, e4⟩, -⟩ := h
  unfold RE at hE ⊢; rw [e1, e2, e3, e4]; exact hE
theorem aW_s {S S' : zAb} (e : a_sW S' = a_sW S) : aW S' = aW S := by unfold aW; rw [e]
theorem RG_s {σ : zSt} {S S' : zAb} (h : sameRest S S') (hE : RG σ S) : RG σ S' := by
  obtain ⟨-, ⟨e1, e2, e3, e4⟩, -⟩ := h
  unfold RG at hE ⊢; rw [e1, e2, e3, aW_s e4]; exact hE
theorem RS_s {σ : zSt} {S S' : zAb} (h : sameRest S S') (hE : RS σ S) : RS σ S' := by
  obtain ⟨-, -, ⟨e1, e2, e3⟩, -⟩ := h
  unfold RS at hE ⊢; rw [e1, e2, e3]; exact hE
theorem c_N_reset {S S' : zAb} {σ σ1 : zSt} {post : Option VV → zSt → Prop} (hs : sameRest S S') (hR : RC σ S) (hfr : ∀ a : Nat, ¬ (1 ≤ a ∧ a ≤ 4) → σ1.1 a = σ.1 a ∧ σ1.2 a = σ.2 a) (hT : RT σ1 S') (ho : aOk S') (hp : ∀ σ', dK σ1 σ' → RC σ' S' → post none σ') : Mc 5 MX6_settle [vR 5 0] σ1 post := by
  obtain ⟨h1, h2, h3, h4, h5, h6, h7⟩ := hR
  refine c_N_settle hT (RE_c (by rw [(hfr 5 (by omega)).1]) (hfr 9 (by omega)).1 (hfr 10 (by omega)).1 (hfr 11 (by omega)).1 (hfr 13 (by omega)).1 (RE_s hs (RE_of h2.1))) (fun k a b => by rw [(hfr 6 (by omega)).1]; exact h2.2 k a b) ho (fun σ' hf hx hco => hp σ' (fun a x => ⟨hf.1 a (by omega) (by omega) (by omega) (by omega) (by omega) (by omega) (by omega), hf.2.2.2 a (by omega) (by omega) (by omega) (by omega)⟩) ⟨?_, hx, hco, ?_, ?_, RK_0 hf.2.2.1, ?_⟩)
  · exact RT_c (hf.1 1 (by decide) (by decide) (by decide) (by decide) (by decide) (by decide) (by decide)) (hf.1 2 (by decide) (by decide) (by decide) (by decide) (by decide) (by decide) (by decide)) (hf.1 3 (by decide) (by decide) (by decide) (by decide) (by decide) (by decide) (by decide)) (hf.1 4 (by decide) (by decide) (by decide) (by decide) (by decide) (by decide) (by decide)) hT
  · have e : ∀ a : Nat, 29 ≤ a → σ'.1 a = σ.1 a := fun a x => by rw [hf.1 a (by omega) (by omega) (by omega) (by omega) (by omega) (by omega) (by omega), (hfr a (by omega)).1]
    exact RG_s hs (RG_c (e 29 (by omega)) (e 30 (by omega)) (e 31 (by omega)) (e 32 (by omega)) h4)
  · exact RS_s hs (RS_c (fun a x y => by rw [hf.1 a (by omega) (by omega) (by omega) (by omega) (by omega) (by omega) (by omega), (hfr a (by omega)).1]) h5)
  · rw [hf.2.1 11 (by decide), (hfr 0 (by omega)).1, h7]; exact hs.2.2.2.symm
set_option maxHeartbeats 8000000 in
set_option maxRecDepth 100000 in
/-- type -/
theorem c_N_type {x v : Int} {S : zAb} {σ : zSt} {post : Option VV → zSt → Prop} (hR : RC σ S) (ho : aOk S) (hx : zr x) (hv : zr v) (hp : ∀ σ', dK σ σ' → RC σ' (tType S x v).1 → post (some (vZ (tType S x v).2)) σ') : Mc 6 MX6_type [vR 5 0, vZ x, vZ v] σ post := by
  have hok := aC_ok ho
  have hcn := hok.1
  obtain ⟨hT, hPx, hCo, hG, hS, hK, hF⟩ := id hR
  unfold tType at hp
  show V 6 MX6_type 0 [some (vR 5 0), some (vZ x), some (vZ v), none] [] σ post
  refine V_run kX6_type 2 [] (show V 6 MX6_type 2 [some (vR 5 0), some (vZ x), some (vZ v), none] [vZ x, vR 5 0] σ post from ?_)
  by_cases hx0 : 0 ≤ x ∧ x ≤ 1
  rotate_left
  · skip
    refine V_callV (a := [vZ x]) (rest := []) kX6_type rfl oX6_textOf iX6_textOf lk_6_66 rfl rfl rfl (Nat.le_of_ble_eq_true rfl) (Nat.le_of_ble_eq_true rfl) (Nat.le_of_ble_eq_true rfl) (post' := fun zv zσ => V 6 MX6_type 5 [some (vR 5 0), some (vZ x), some (vZ v), none] (zv.toList ++ []) zσ post) (c_N_textOfN ⟨hx, hx0⟩ ((show V 6 MX6_type 5 [some (vR 5 0), some (vZ x), some (vZ v), none] [vN] σ post from ?_))) (fun _ _ h => h)
    refine V_run kX6_type 4 [] (show V 6 MX6_type 23 [some (vR 5 0), some (vZ x), some (vZ v), some (vN)] [vZ (-2)] σ post from ?_)
    rw [if_neg (fun q => hx0 q.1)] at hp
    exact V_iret kX6_type rfl rfl (hp σ dK.rf hR)
  have hx01 : x = 0 ∨ x = 1 := by omega
  rcases hx01 with hx1 | hx1
  · skip
    subst hx1
    refine V_callV (a := [vZ 0]) (rest := []) kX6_type rfl oX6_textOf iX6_textOf lk_6_66 rfl rfl rfl (Nat.le_of_ble_eq_true rfl) (Nat.le_of_ble_eq_true rfl) (Nat.le_of_ble_eq_true rfl) (post' := fun zv zσ => V 6 MX6_type 5 [some (vR 5 0), some (vZ 0), some (vZ v), none] (zv.toList ++ []) zσ post) (c_N_textOf0 rfl ((show V 6 MX6_type 5 [some (vR 5 0), some (vZ 0), some (vZ v), none] [vR 4 1] σ post from ?_))) (fun _ _ h => h)
    refine V_run kX6_type 4 [] (show V 6 MX6_type 11 [some (vR 5 0), some (vZ 0), some (vZ v), some (vR 4 1)] [vZ v] σ post from ?_)
    rw [show aTyp S 0 = a_pN S from if_pos rfl, show (if (0 : Int) = 0 then (47 : Int) else 24) = 47 from if_pos rfl] at hp
    rcases Int.lt_or_le v 0 with h1 | h1
    · skip
      rw [if_neg (by omega)] at hp
      refine V_run kX6_type 2 [1] (show (zr v ∧ v < 0) ∧ V 6 MX6_type 23 [some (vR 5 0), some (vZ 0), some (vZ v), some (vR 4 1)] [vZ (-2)] σ post from ⟨(by omega), ?_⟩)
      exact V_iret kX6_type rfl rfl (hp σ dK.rf hR)
    · skip
      refine V_run kX6_type 3 [0] (show (zr v ∧ 0 ≤ v) ∧ V 6 MX6_type 18 [some (vR 5 0), some (vZ 0), some (vZ v), some (vR 4 1)] [vZ 255, vZ v] σ post from ⟨(by omega), ?_⟩)
      rcases Int.lt_or_le 255 v with h2 | h2
      · skip
        rw [if_neg (by omega)] at hp
        refine V_run kX6_type 2 [0] (show (zr v ∧ zr 255 ∧ 255 < v) ∧ V 6 MX6_type 23 [some (vR 5 0), some (vZ 0), some (vZ v), some (vR 4 1)] [vZ (-2)] σ post from ⟨(by omega), ?_⟩)
        exact V_iret kX6_type rfl rfl (hp σ dK.rf hR)
      · skip
        rw [if_pos ⟨by omega, h1, h2⟩] at hp
        have hsz : σ.1 1 2 = a_pN S := hT.1.2.1
        have hnb : a_pN S ≤ 47 := ho.1.2.1
        have hn0 : 0 ≤ a_pN S := ho.1.1
        refine V_run kX6_type 3 [1] (show (zr v ∧ zr 255 ∧ v ≤ 255) ∧ V 6 MX6_type 26 [some (vR 5 0), some (vZ 0), some (vZ v), some (vR 4 1)] [vZ v, vR 4 1] σ post from ⟨(by omega), ?_⟩)
        by_cases h3 : a_pN S = 47
        · skip
          rw [if_pos h3] at hp
          refine V_callV (a := [vZ v]) (rest := []) kX6_type rfl oX5_append iX5_append lk_6_70 rfl rfl rfl (Nat.le_of_ble_eq_true rfl) (Nat.le_of_ble_eq_true rfl) (Nat.le_of_ble_eq_true rfl) (post' := fun zv zσ => V 6 MX6_type 29 [some (vR 5 0), some (vZ 0), some (vZ v), some (vR 4 1)] (zv.toList ++ []) zσ post) (c_T_append (b := 1) (hp1 := fun q => absurd (show σ.1 1 2 < 47 from q) (by omega)) (RT_1 hT ho) (fun _ =>  ((show V 6 MX6_type 29 [some (vR 5 0), some (vZ 0), some (vZ v), some (vR 4 1)] [vZ 0] σ post from ?_)))) (fun _ _ h => h)
          refine V_run kX6_type 2 [0] (show (zr 0 ∧ 0 = 0) ∧ V 6 MX6_type 34 [some (vR 5 0), some (vZ 0), some (vZ v), some (vR 4 1)] [vZ (-4)] σ post from ⟨(by omega), ?_⟩)
          exact V_iret kX6_type rfl rfl (hp σ dK.rf hR)
        · skip
          rw [if_neg h3] at hp
          refine V_callV (a := [vZ v]) (rest := []) kX6_type rfl oX5_append iX5_append lk_6_70 rfl rfl rfl (Nat.le_of_ble_eq_true rfl) (Nat.le_of_ble_eq_true rfl) (Nat.le_of_ble_eq_true rfl) (post' := fun zv zσ => V 6 MX6_type 29 [some (vR 5 0), some (vZ 0), some (vZ v), some (vR 4 1)] (zv.toList ++ []) zσ post) (c_T_append (b := 1) (hp0 := fun q => absurd (show σ.1 1 2 = 47 from q) (by omega)) (RT_1 hT ho) (fun _ => (show V 6 MX6_type 29 [some (vR 5 0), some (vZ 0), some (vZ v), some (vR 4 1)] [vZ 1] (uI (uI σ (1 + 1) (σ.1 1 2) v) 1 2 ((uI σ (1 + 1) (σ.1 1 2) v).1 1 2 + 1)) post from ?_))) (fun _ _ h => h)
          have e1 : uI (uI σ (1 + 1) (σ.1 1 2) v) 1 2 ((uI σ (1 + 1) (σ.1 1 2) v).1 1 2 + 1) = uI (uI σ 2 (a_pN S) v) 1 2 (a_pN S + 1) := by rw [uI_ne (by decide), hsz]
          rw [e1]
          have eS : aTypS S 0 v = (a_pN S + 1, fPut (a_pF S) (a_pN S) v, a_wN S, a_wF S, a_eN S, a_eK S, a_eM S, a_eP S, a_sN S, a_sM S, a_sP S, a_sW S, a_hF S, a_hN S, a_hI S, a_fnd S) := if_pos rfl
          have ho2 : aOk (aTypS S 0 v) := aOk_type ho (by omega) ⟨h1, h2⟩ (by rw [show aTyp S 0 = a_pN S from if_pos rfl]; show a_pN S < (if (0 : Int) = 0 then 47 else 24); rw [if_pos rfl]; omega)
          have hT2 : RT (uI (uI σ 2 (a_pN S) v) 1 2 (a_pN S + 1)) (aTypS S 0 v) := by
            rw [eS]
            exact ⟨⟨by rw [uI_at, if_neg (by decide), uI_ne (by decide)]; exact hT.1.1, uI_get, fun i a b => by
              have b : i < a_pN S + 1 := b
              rw [uI_ne (by decide), uI_at]
              show _ = fPut (a_pF S) (a_pN S) v i
              rw [fPut_at]
              by_cases z : i = a_pN S
              · rw [if_pos z, if_pos z]
              · rw [if_neg z, if_neg z]; exact hT.1.2.2 i a (by omega)⟩, ⟨by rw [uI_ne (by decide), uI_ne (by decide)]; exact hT.2.1, by rw [uI_ne (by decide), uI_ne (by decide)]; exact hT.2.2.1, fun i a b => by rw [uI_ne (by decide), uI_ne (by decide)]; exact hT.2.2.2 i a b⟩⟩
          refine V_run kX6_type 2 [1] (show (zr 1 ∧ ¬ 1 = 0) ∧ V 6 MX6_type 36 [some (vR 5 0), some (vZ 0), some (vZ v), some (vR 4 1)] [vR 5 0] (uI (uI σ 2 (a_pN S) v) 1 2 (a_pN S + 1)) post from ⟨(by omega), ?_⟩)
          refine V_callV (a := []) (rest := []) kX6_type rfl oX6_settle iX6_settle lk_6_63 rfl rfl rfl (Nat.le_of_ble_eq_true rfl) (Nat.le_of_ble_eq_true rfl) (Nat.le_of_ble_eq_true rfl) (post' := fun zv zσ => V 6 MX6_type 39 [some (vR 5 0), some (vZ 0), some (vZ v), some (vR 4 1)] (zv.toList ++ []) zσ post) (c_N_reset (S := S) (by rw [eS]; exact ⟨⟨rfl, rfl, rfl, rfl⟩, ⟨rfl, rfl, rfl, rfl⟩, ⟨rfl, rfl, rfl⟩, rfl⟩) hR (fun a x => ⟨by rw [uI_ne (by omega), uI_ne (by omega)], rfl⟩) hT2 ho2 (fun σ9 hk9 hR9 => (show V 6 MX6_type 39 [some (vR 5 0), some (vZ 0), some (vZ v), some (vR 4 1)] [] σ9 post from ?_))) (fun _ _ h => h)
          refine V_run kX6_type 1 [] (show V 6 MX6_type 40 [some (vR 5 0), some (vZ 0), some (vZ v), some (vR 4 1)] [vR 4 1] σ9 post from ?_)
          refine V_callV (a := []) (rest := []) kX6_type rfl oX5_size iX5_size lk_6_74 rfl rfl rfl (Nat.le_of_ble_eq_true rfl) (Nat.le_of_ble_eq_true rfl) (Nat.le_of_ble_eq_true rfl) (post' := fun zv zσ => V 6 MX6_type 43 [some (vR 5 0), some (vZ 0), some (vZ v), some (vR 4 1)] (zv.toList ++ []) zσ post) (c_T_size (b := 1) ((show V 6 MX6_type 43 [some (vR 5 0), some (vZ 0), some (vZ v), some (vR 4 1)] [vZ (σ9.1 1 2)] σ9 post from ?_))) (fun _ _ h => h)
          refine V_top ((hR9.1.1.2.1).trans (by rw [eS])) ?_
          exact V_iret kX6_type rfl rfl (hp σ9 (((dK.rf.u (by decide)).u (by decide)).tr hk9) hR9)
  · skip
    subst hx1
    refine V_callV (a := [vZ 1]) (rest := []) kX6_type rfl oX6_textOf iX6_textOf lk_6_66 rfl rfl rfl (Nat.le_of_ble_eq_true rfl) (Nat.le_of_ble_eq_true rfl) (Nat.le_of_ble_eq_true rfl) (post' := fun zv zσ => V 6 MX6_type 5 [some (vR 5 0), some (vZ 1), some (vZ v), none] (zv.toList ++ []) zσ post) (c_N_textOf1 rfl ((show V 6 MX6_type 5 [some (vR 5 0), some (vZ 1), some (vZ v), none] [vR 4 3] σ post from ?_))) (fun _ _ h => h)
    refine V_run kX6_type 4 [] (show V 6 MX6_type 11 [some (vR 5 0), some (vZ 1), some (vZ v), some (vR 4 3)] [vZ v] σ post from ?_)
    rw [show aTyp S 1 = a_wN S from if_neg (by decide), show (if (1 : Int) = 0 then (47 : Int) else 24) = 24 from if_neg (by decide)] at hp
    rcases Int.lt_or_le v 0 with h1 | h1
    · skip
      rw [if_neg (by omega)] at hp
      refine V_run kX6_type 2 [1] (show (zr v ∧ v < 0) ∧ V 6 MX6_type 23 [some (vR 5 0), some (vZ 1), some (vZ v), some (vR 4 3)] [vZ (-2)] σ post from ⟨(by omega), ?_⟩)
      exact V_iret kX6_type rfl rfl (hp σ dK.rf hR)
    · skip
      refine V_run kX6_type 3 [0] (show (zr v ∧ 0 ≤ v) ∧ V 6 MX6_type 18 [some (vR 5 0), some (vZ 1), some (vZ v), some (vR 4 3)] [vZ 255, vZ v] σ post from ⟨(by omega), ?_⟩)
      rcases Int.lt_or_le 255 v with h2 | h2
      · skip
        rw [if_neg (by omega)] at hp
        refine V_run kX6_type 2 [0] (show (zr v ∧ zr 255 ∧ 255 < v) ∧ V 6 MX6_type 23 [some (vR 5 0), some (vZ 1), some (vZ v), some (vR 4 3)] [vZ (-2)] σ post from ⟨(by omega), ?_⟩)
        exact V_iret kX6_type rfl rfl (hp σ dK.rf hR)
      · skip
        rw [if_pos ⟨by omega, h1, h2⟩] at hp
        have hsz : σ.1 3 2 = a_wN S := hT.2.2.1
        have hnb : a_wN S ≤ 24 := ho.2.1.2.1
        have hn0 : 0 ≤ a_wN S := ho.2.1.1
        refine V_run kX6_type 3 [1] (show (zr v ∧ zr 255 ∧ v ≤ 255) ∧ V 6 MX6_type 26 [some (vR 5 0), some (vZ 1), some (vZ v), some (vR 4 3)] [vZ v, vR 4 3] σ post from ⟨(by omega), ?_⟩)
        by_cases h3 : a_wN S = 24
        · skip
          rw [if_pos h3] at hp
          refine V_callV (a := [vZ v]) (rest := []) kX6_type rfl oX5_append iX5_append lk_6_70 rfl rfl rfl (Nat.le_of_ble_eq_true rfl) (Nat.le_of_ble_eq_true rfl) (Nat.le_of_ble_eq_true rfl) (post' := fun zv zσ => V 6 MX6_type 29 [some (vR 5 0), some (vZ 1), some (vZ v), some (vR 4 3)] (zv.toList ++ []) zσ post) (c_T_append (b := 3) (hp1 := fun q => absurd (show σ.1 3 2 < 24 from q) (by omega)) (RT_3 hT ho) (fun _ =>  ((show V 6 MX6_type 29 [some (vR 5 0), some (vZ 1), some (vZ v), some (vR 4 3)] [vZ 0] σ post from ?_)))) (fun _ _ h => h)
          refine V_run kX6_type 2 [0] (show (zr 0 ∧ 0 = 0) ∧ V 6 MX6_type 34 [some (vR 5 0), some (vZ 1), some (vZ v), some (vR 4 3)] [vZ (-4)] σ post from ⟨(by omega), ?_⟩)
          exact V_iret kX6_type rfl rfl (hp σ dK.rf hR)
        · skip
          rw [if_neg h3] at hp
          refine V_callV (a := [vZ v]) (rest := []) kX6_type rfl oX5_append iX5_append lk_6_70 rfl rfl rfl (Nat.le_of_ble_eq_true rfl) (Nat.le_of_ble_eq_true rfl) (Nat.le_of_ble_eq_true rfl) (post' := fun zv zσ => V 6 MX6_type 29 [some (vR 5 0), some (vZ 1), some (vZ v), some (vR 4 3)] (zv.toList ++ []) zσ post) (c_T_append (b := 3) (hp0 := fun q => absurd (show σ.1 3 2 = 24 from q) (by omega)) (RT_3 hT ho) (fun _ => (show V 6 MX6_type 29 [some (vR 5 0), some (vZ 1), some (vZ v), some (vR 4 3)] [vZ 1] (uI (uI σ (3 + 1) (σ.1 3 2) v) 3 2 ((uI σ (3 + 1) (σ.1 3 2) v).1 3 2 + 1)) post from ?_))) (fun _ _ h => h)
          have e1 : uI (uI σ (3 + 1) (σ.1 3 2) v) 3 2 ((uI σ (3 + 1) (σ.1 3 2) v).1 3 2 + 1) = uI (uI σ 4 (a_wN S) v) 3 2 (a_wN S + 1) := by rw [uI_ne (by decide), hsz]
          rw [e1]
          have eS : aTypS S 1 v = (a_pN S, a_pF S, a_wN S + 1, fPut (a_wF S) (a_wN S) v, a_eN S, a_eK S, a_eM S, a_eP S, a_sN S, a_sM S, a_sP S, a_sW S, a_hF S, a_hN S, a_hI S, a_fnd S) := if_neg (by decide)
          have ho2 : aOk (aTypS S 1 v) := aOk_type ho (by omega) ⟨h1, h2⟩ (by rw [show aTyp S 1 = a_wN S from if_neg (by decide)]; show a_wN S < (if (1 : Int) = 0 then 47 else 24); rw [if_neg (by decide)]; omega)
          have hT2 : RT (uI (uI σ 4 (a_wN S) v) 3 2 (a_wN S + 1)) (aTypS S 1 v) := by
            rw [eS]
            exact ⟨⟨by rw [uI_ne (by decide), uI_ne (by decide)]; exact hT.1.1, by rw [uI_ne (by decide), uI_ne (by decide)]; exact hT.1.2.1, fun i a b => by rw [uI_ne (by decide), uI_ne (by decide)]; exact hT.1.2.2 i a b⟩, ⟨by rw [uI_at, if_neg (by decide), uI_ne (by decide)]; exact hT.2.1, uI_get, fun i a b => by
              have b : i < a_wN S + 1 := b
              rw [uI_ne (by decide), uI_at]
              show _ = fPut (a_wF S) (a_wN S) v i
              rw [fPut_at]
              by_cases z : i = a_wN S
              · rw [if_pos z, if_pos z]
              · rw [if_neg z, if_neg z]; exact hT.2.2.2 i a (by omega)⟩⟩
          refine V_run kX6_type 2 [1] (show (zr 1 ∧ ¬ 1 = 0) ∧ V 6 MX6_type 36 [some (vR 5 0), some (vZ 1), some (vZ v), some (vR 4 3)] [vR 5 0] (uI (uI σ 4 (a_wN S) v) 3 2 (a_wN S + 1)) post from ⟨(by omega), ?_⟩)
          refine V_callV (a := []) (rest := []) kX6_type rfl oX6_settle iX6_settle lk_6_63 rfl rfl rfl (Nat.le_of_ble_eq_true rfl) (Nat.le_of_ble_eq_true rfl) (Nat.le_of_ble_eq_true rfl) (post' := fun zv zσ => V 6 MX6_type 39 [some (vR 5 0), some (vZ 1), some (vZ v), some (vR 4 3)] (zv.toList ++ []) zσ post) (c_N_reset (S := S) (by rw [eS]; exact ⟨⟨rfl, rfl, rfl, rfl⟩, ⟨rfl, rfl, rfl, rfl⟩, ⟨rfl, rfl, rfl⟩, rfl⟩) hR (fun a x => ⟨by rw [uI_ne (by omega), uI_ne (by omega)], rfl⟩) hT2 ho2 (fun σ9 hk9 hR9 => (show V 6 MX6_type 39 [some (vR 5 0), some (vZ 1), some (vZ v), some (vR 4 3)] [] σ9 post from ?_))) (fun _ _ h => h)
          refine V_run kX6_type 1 [] (show V 6 MX6_type 40 [some (vR 5 0), some (vZ 1), some (vZ v), some (vR 4 3)] [vR 4 3] σ9 post from ?_)
          refine V_callV (a := []) (rest := []) kX6_type rfl oX5_size iX5_size lk_6_74 rfl rfl rfl (Nat.le_of_ble_eq_true rfl) (Nat.le_of_ble_eq_true rfl) (Nat.le_of_ble_eq_true rfl) (post' := fun zv zσ => V 6 MX6_type 43 [some (vR 5 0), some (vZ 1), some (vZ v), some (vR 4 3)] (zv.toList ++ []) zσ post) (c_T_size (b := 3) ((show V 6 MX6_type 43 [some (vR 5 0), some (vZ 1), some (vZ v), some (vR 4 3)] [vZ (σ9.1 3 2)] σ9 post from ?_))) (fun _ _ h => h)
          refine V_top ((hR9.1.2.2.1).trans (by rw [eS])) ?_
          exact V_iret kX6_type rfl rfl (hp σ9 (((dK.rf.u (by decide)).u (by decide)).tr hk9) hR9)
set_option maxHeartbeats 8000000 in
set_option maxRecDepth 100000 in
/-- wipe -/
theorem c_N_wipe {x : Int} {S : zAb} {σ : zSt} {post : Option VV → zSt → Prop} (hR : RC σ S) (ho : aOk S) (hx : zr x) (hp : ∀ σ', dK σ σ' → RC σ' (tWipe S x).1 → post (some (vZ (tWipe S x).2)) σ') : Mc 6 MX6_wipe [vR 5 0, vZ x] σ post := by
  have hok := aC_ok ho
  have hcn := hok.1
  obtain ⟨hT, hPx, hCo, hG, hS, hK, hF⟩ := id hR
  unfold tWipe at hp
  show V 6 MX6_wipe 0 [some (vR 5 0), some (vZ x), none, none] [] σ post
  refine V_run kX6_wipe 2 [] (show V 6 MX6_wipe 2 [some (vR 5 0), some (vZ x), none, none] [vZ x, vR 5 0] σ post from ?_)
  by_cases hx0 : 0 ≤ x ∧ x ≤ 1
  rotate_left
  · skip
    refine V_callV (a := [vZ x]) (rest := []) kX6_wipe rfl oX6_textOf iX6_textOf lk_6_66 rfl rfl rfl (Nat.le_of_ble_eq_true rfl) (Nat.le_of_ble_eq_true rfl) (Nat.le_of_ble_eq_true rfl) (post' := fun zv zσ => V 6 MX6_wipe 5 [some (vR 5 0), some (vZ x), none, none] (zv.toList ++ []) zσ post) (c_N_textOfN ⟨hx, hx0⟩ ((show V 6 MX6_wipe 5 [some (vR 5 0), some (vZ x), none, none] [vN] σ post from ?_))) (fun _ _ h => h)
    refine V_run kX6_wipe 4 [] (show V 6 MX6_wipe 12 [some (vR 5 0), some (vZ x), some (vN), none] [vZ (-2)] σ post from ?_)
    rw [if_neg (hx0)] at hp
    exact V_iret kX6_wipe rfl rfl (hp σ dK.rf hR)
  have hx01 : x = 0 ∨ x = 1 := by omega
  rcases hx01 with hx1 | hx1
  · skip
    subst hx1
    refine V_callV (a := [vZ 0]) (rest := []) kX6_wipe rfl oX6_textOf iX6_textOf lk_6_66 rfl rfl rfl (Nat.le_of_ble_eq_true rfl) (Nat.le_of_ble_eq_true rfl) (Nat.le_of_ble_eq_true rfl) (post' := fun zv zσ => V 6 MX6_wipe 5 [some (vR 5 0), some (vZ 0), none, none] (zv.toList ++ []) zσ post) (c_N_textOf0 rfl ((show V 6 MX6_wipe 5 [some (vR 5 0), some (vZ 0), none, none] [vR 4 1] σ post from ?_))) (fun _ _ h => h)
    have eT : aTyp S 0 = a_pN S := if_pos rfl
    rw [if_pos (by omega), eT] at hp
    have hsz : σ.1 1 2 = a_pN S := hT.1.2.1
    have hn0 : 0 ≤ a_pN S := ho.1.1
    refine V_run kX6_wipe 4 [] (show V 6 MX6_wipe 14 [some (vR 5 0), some (vZ 0), some (vR 4 1), none] [vR 4 1] σ post from ?_)
    refine V_callV (a := []) (rest := []) kX6_wipe rfl oX5_size iX5_size lk_6_74 rfl rfl rfl (Nat.le_of_ble_eq_true rfl) (Nat.le_of_ble_eq_true rfl) (Nat.le_of_ble_eq_true rfl) (post' := fun zv zσ => V 6 MX6_wipe 17 [some (vR 5 0), some (vZ 0), some (vR 4 1), none] (zv.toList ++ []) zσ post) (c_T_size (b := 1) ((show V 6 MX6_wipe 17 [some (vR 5 0), some (vZ 0), some (vR 4 1), none] [vZ (σ.1 1 2)] σ post from ?_))) (fun _ _ h => h)
    refine V_top (hsz) ?_
    refine V_run kX6_wipe 2 [] (show V 6 MX6_wipe 19 [some (vR 5 0), some (vZ 0), some (vR 4 1), some (vZ (a_pN S))] [vR 4 1] σ post from ?_)
    refine V_callV (a := []) (rest := []) kX6_wipe rfl oX5_clear iX5_clear lk_6_78 rfl rfl rfl (Nat.le_of_ble_eq_true rfl) (Nat.le_of_ble_eq_true rfl) (Nat.le_of_ble_eq_true rfl) (post' := fun zv zσ => V 6 MX6_wipe 22 [some (vR 5 0), some (vZ 0), some (vR 4 1), some (vZ (a_pN S))] (zv.toList ++ []) zσ post) (c_T_clear (b := 1) ((show V 6 MX6_wipe 22 [some (vR 5 0), some (vZ 0), some (vR 4 1), some (vZ (a_pN S))] [] (uI σ 1 2 0) post from ?_))) (fun _ _ h => h)
    have eS : aSzS S 0 (0) = (0, a_pF S, a_wN S, a_wF S, a_eN S, a_eK S, a_eM S, a_eP S, a_sN S, a_sM S, a_sP S, a_sW S, a_hF S, a_hN S, a_hI S, a_fnd S) := if_pos rfl
    have ho2 : aOk (aSzS S 0 (0)) := aOk_sz ho (by omega) (by rw [eT]; omega)
    have hT2 : RT (uI σ 1 2 0) (aSzS S 0 (0)) := by
      rw [eS]
      exact ⟨⟨by rw [uI_at, if_neg (by decide)]; exact hT.1.1, uI_get, fun i a b => by
        have b : i < 0 := b
        rw [uI_ne (by decide)]; exact hT.1.2.2 i a (by omega)⟩, ⟨by rw [uI_ne (by decide)]; exact hT.2.1, by rw [uI_ne (by decide)]; exact hT.2.2.1, fun i a b => by rw [uI_ne (by decide)]; exact hT.2.2.2 i a b⟩⟩
    refine V_run kX6_wipe 1 [] (show V 6 MX6_wipe 23 [some (vR 5 0), some (vZ 0), some (vR 4 1), some (vZ (a_pN S))] [vR 5 0] (uI σ 1 2 0) post from ?_)
    refine V_callV (a := []) (rest := []) kX6_wipe rfl oX6_settle iX6_settle lk_6_63 rfl rfl rfl (Nat.le_of_ble_eq_true rfl) (Nat.le_of_ble_eq_true rfl) (Nat.le_of_ble_eq_true rfl) (post' := fun zv zσ => V 6 MX6_wipe 26 [some (vR 5 0), some (vZ 0), some (vR 4 1), some (vZ (a_pN S))] (zv.toList ++ []) zσ post) (c_N_reset (S := S) (by rw [eS]; exact ⟨⟨rfl, rfl, rfl, rfl⟩, ⟨rfl, rfl, rfl, rfl⟩, ⟨rfl, rfl, rfl⟩, rfl⟩) hR (fun a x => ⟨by rw [uI_ne (by omega)], rfl⟩) hT2 ho2 (fun σ9 hk9 hR9 => (show V 6 MX6_wipe 26 [some (vR 5 0), some (vZ 0), some (vR 4 1), some (vZ (a_pN S))] [] σ9 post from ?_))) (fun _ _ h => h)
    refine V_run kX6_wipe 1 [] (show V 6 MX6_wipe 27 [some (vR 5 0), some (vZ 0), some (vR 4 1), some (vZ (a_pN S))] [vZ (a_pN S)] σ9 post from ?_)
    exact V_iret kX6_wipe rfl rfl (hp σ9 ((dK.rf.u (by decide)).tr hk9) hR9)
  · skip
    subst hx1
    refine V_callV (a := [vZ 1]) (rest := []) kX6_wipe rfl oX6_textOf iX6_textOf lk_6_66 rfl rfl rfl (Nat.le_of_ble_eq_true rfl) (Nat.le_of_ble_eq_true rfl) (Nat.le_of_ble_eq_true rfl) (post' := fun zv zσ => V 6 MX6_wipe 5 [some (vR 5 0), some (vZ 1), none, none] (zv.toList ++ []) zσ post) (c_N_textOf1 rfl ((show V 6 MX6_wipe 5 [some (vR 5 0), some (vZ 1), none, none] [vR 4 3] σ post from ?_))) (fun _ _ h => h)
    have eT : aTyp S 1 = a_wN S := if_neg (by decide)
    rw [if_pos (by omega), eT] at hp
    have hsz : σ.1 3 2 = a_wN S := hT.2.2.1
    have hn0 : 0 ≤ a_wN S := ho.2.1.1
    refine V_run kX6_wipe 4 [] (show V 6 MX6_wipe 14 [some (vR 5 0), some (vZ 1), some (vR 4 3), none] [vR 4 3] σ post from ?_)
    refine V_callV (a := []) (rest := []) kX6_wipe rfl oX5_size iX5_size lk_6_74 rfl rfl rfl (Nat.le_of_ble_eq_true rfl) (Nat.le_of_ble_eq_true rfl) (Nat.le_of_ble_eq_true rfl) (post' := fun zv zσ => V 6 MX6_wipe 17 [some (vR 5 0), some (vZ 1), some (vR 4 3), none] (zv.toList ++ []) zσ post) (c_T_size (b := 3) ((show V 6 MX6_wipe 17 [some (vR 5 0), some (vZ 1), some (vR 4 3), none] [vZ (σ.1 3 2)] σ post from ?_))) (fun _ _ h => h)
    refine V_top (hsz) ?_
    refine V_run kX6_wipe 2 [] (show V 6 MX6_wipe 19 [some (vR 5 0), some (vZ 1), some (vR 4 3), some (vZ (a_wN S))] [vR 4 3] σ post from ?_)
    refine V_callV (a := []) (rest := []) kX6_wipe rfl oX5_clear iX5_clear lk_6_78 rfl rfl rfl (Nat.le_of_ble_eq_true rfl) (Nat.le_of_ble_eq_true rfl) (Nat.le_of_ble_eq_true rfl) (post' := fun zv zσ => V 6 MX6_wipe 22 [some (vR 5 0), some (vZ 1), some (vR 4 3), some (vZ (a_wN S))] (zv.toList ++ []) zσ post) (c_T_clear (b := 3) ((show V 6 MX6_wipe 22 [some (vR 5 0), some (vZ 1), some (vR 4 3), some (vZ (a_wN S))] [] (uI σ 3 2 0) post from ?_))) (fun _ _ h => h)
    have eS : aSzS S 1 (0) = (a_pN S, a_pF S, 0, a_wF S, a_eN S, a_eK S, a_eM S, a_eP S, a_sN S, a_sM S, a_sP S, a_sW S, a_hF S, a_hN S, a_hI S, a_fnd S) := if_neg (by decide)
    have ho2 : aOk (aSzS S 1 (0)) := aOk_sz ho (by omega) (by rw [eT]; omega)
    have hT2 : RT (uI σ 3 2 0) (aSzS S 1 (0)) := by
      rw [eS]
      exact ⟨⟨by rw [uI_ne (by decide)]; exact hT.1.1, by rw [uI_ne (by decide)]; exact hT.1.2.1, fun i a b => by rw [uI_ne (by decide)]; exact hT.1.2.2 i a b⟩, ⟨by rw [uI_at, if_neg (by decide)]; exact hT.2.1, uI_get, fun i a b => by
        have b : i < 0 := b
        rw [uI_ne (by decide)]; exact hT.2.2.2 i a (by omega)⟩⟩
    refine V_run kX6_wipe 1 [] (show V 6 MX6_wipe 23 [some (vR 5 0), some (vZ 1), some (vR 4 3), some (vZ (a_wN S))] [vR 5 0] (uI σ 3 2 0) post from ?_)
    refine V_callV (a := []) (rest := []) kX6_wipe rfl oX6_settle iX6_settle lk_6_63 rfl rfl rfl (Nat.le_of_ble_eq_true rfl) (Nat.le_of_ble_eq_true rfl) (Nat.le_of_ble_eq_true rfl) (post' := fun zv zσ => V 6 MX6_wipe 26 [some (vR 5 0), some (vZ 1), some (vR 4 3), some (vZ (a_wN S))] (zv.toList ++ []) zσ post) (c_N_reset (S := S) (by rw [eS]; exact ⟨⟨rfl, rfl, rfl, rfl⟩, ⟨rfl, rfl, rfl, rfl⟩, ⟨rfl, rfl, rfl⟩, rfl⟩) hR (fun a x => ⟨by rw [uI_ne (by omega)], rfl⟩) hT2 ho2 (fun σ9 hk9 hR9 => (show V 6 MX6_wipe 26 [some (vR 5 0), some (vZ 1), some (vR 4 3), some (vZ (a_wN S))] [] σ9 post from ?_))) (fun _ _ h => h)
    refine V_run kX6_wipe 1 [] (show V 6 MX6_wipe 27 [some (vR 5 0), some (vZ 1), some (vR 4 3), some (vZ (a_wN S))] [vZ (a_wN S)] σ9 post from ?_)
    exact V_iret kX6_wipe rfl rfl (hp σ9 ((dK.rf.u (by decide)).tr hk9) hR9)
set_option maxHeartbeats 8000000 in
set_option maxRecDepth 100000 in
/-- undo -/
theorem c_N_undo {x : Int} {S : zAb} {σ : zSt} {post : Option VV → zSt → Prop} (hR : RC σ S) (ho : aOk S) (hx : zr x) (hp : ∀ σ', dK σ σ' → RC σ' (tUndo S x).1 → post (some (vZ (tUndo S x).2)) σ') : Mc 6 MX6_undo [vR 5 0, vZ x] σ post := by
  have hok := aC_ok ho
  have hcn := hok.1
  obtain ⟨hT, hPx, hCo, hG, hS, hK, hF⟩ := id hR
  unfold tUndo at hp
  show V 6 MX6_undo 0 [some (vR 5 0), some (vZ x), none] [] σ post
  refine V_run kX6_undo 2 [] (show V 6 MX6_undo 2 [some (vR 5 0), some (vZ x), none] [vZ x, vR 5 0] σ post from ?_)
  by_cases hx0 : 0 ≤ x ∧ x ≤ 1
  rotate_left
  · skip
    refine V_callV (a := [vZ x]) (rest := []) kX6_undo rfl oX6_textOf iX6_textOf lk_6_66 rfl rfl rfl (Nat.le_of_ble_eq_true rfl) (Nat.le_of_ble_eq_true rfl) (Nat.le_of_ble_eq_true rfl) (post' := fun zv zσ => V 6 MX6_undo 5 [some (vR 5 0), some (vZ x), none] (zv.toList ++ []) zσ post) (c_N_textOfN ⟨hx, hx0⟩ ((show V 6 MX6_undo 5 [some (vR 5 0), some (vZ x), none] [vN] σ post from ?_))) (fun _ _ h => h)
    refine V_run kX6_undo 4 [] (show V 6 MX6_undo 12 [some (vR 5 0), some (vZ x), some (vN)] [vZ (-2)] σ post from ?_)
    rw [if_neg (hx0)] at hp
    exact V_iret kX6_undo rfl rfl (hp σ dK.rf hR)
  have hx01 : x = 0 ∨ x = 1 := by omega
  rcases hx01 with hx1 | hx1
  · skip
    subst hx1
    refine V_callV (a := [vZ 0]) (rest := []) kX6_undo rfl oX6_textOf iX6_textOf lk_6_66 rfl rfl rfl (Nat.le_of_ble_eq_true rfl) (Nat.le_of_ble_eq_true rfl) (Nat.le_of_ble_eq_true rfl) (post' := fun zv zσ => V 6 MX6_undo 5 [some (vR 5 0), some (vZ 0), none] (zv.toList ++ []) zσ post) (c_N_textOf0 rfl ((show V 6 MX6_undo 5 [some (vR 5 0), some (vZ 0), none] [vR 4 1] σ post from ?_))) (fun _ _ h => h)
    have eT : aTyp S 0 = a_pN S := if_pos rfl
    rw [if_pos (by omega), eT] at hp
    have hsz : σ.1 1 2 = a_pN S := hT.1.2.1
    have hn0 : 0 ≤ a_pN S := ho.1.1
    refine V_run kX6_undo 4 [] (show V 6 MX6_undo 14 [some (vR 5 0), some (vZ 0), some (vR 4 1)] [vR 4 1] σ post from ?_)
    by_cases h3 : a_pN S = 0
    · skip
      rw [if_pos h3] at hp
      refine V_callV (a := []) (rest := []) kX6_undo rfl oX5_dropLast iX5_dropLast lk_6_81 rfl rfl rfl (Nat.le_of_ble_eq_true rfl) (Nat.le_of_ble_eq_true rfl) (Nat.le_of_ble_eq_true rfl) (post' := fun zv zσ => V 6 MX6_undo 17 [some (vR 5 0), some (vZ 0), some (vR 4 1)] (zv.toList ++ []) zσ post) (c_T_drop (b := 1) (hp1 := fun q => absurd q (by omega)) (RT_1 hT ho) (fun _ =>  ((show V 6 MX6_undo 17 [some (vR 5 0), some (vZ 0), some (vR 4 1)] [vZ 0] σ post from ?_)))) (fun _ _ h => h)
      refine V_run kX6_undo 2 [0] (show (zr 0 ∧ 0 = 0) ∧ V 6 MX6_undo 22 [some (vR 5 0), some (vZ 0), some (vR 4 1)] [vZ (-3)] σ post from ⟨(by omega), ?_⟩)
      exact V_iret kX6_undo rfl rfl (hp σ dK.rf hR)
    · skip
      rw [if_neg h3] at hp
      refine V_callV (a := []) (rest := []) kX6_undo rfl oX5_dropLast iX5_dropLast lk_6_81 rfl rfl rfl (Nat.le_of_ble_eq_true rfl) (Nat.le_of_ble_eq_true rfl) (Nat.le_of_ble_eq_true rfl) (post' := fun zv zσ => V 6 MX6_undo 17 [some (vR 5 0), some (vZ 0), some (vR 4 1)] (zv.toList ++ []) zσ post) (c_T_drop (b := 1) (hp0 := fun q => absurd q (by omega)) (RT_1 hT ho) (fun _ => (show V 6 MX6_undo 17 [some (vR 5 0), some (vZ 0), some (vR 4 1)] [vZ 1] (uI σ 1 2 (σ.1 1 2 - 1)) post from ?_))) (fun _ _ h => h)
      rw [hsz]
      have eS : aSzS S 0 (a_pN S - 1) = (a_pN S - 1, a_pF S, a_wN S, a_wF S, a_eN S, a_eK S, a_eM S, a_eP S, a_sN S, a_sM S, a_sP S, a_sW S, a_hF S, a_hN S, a_hI S, a_fnd S) := if_pos rfl
      have ho2 : aOk (aSzS S 0 (a_pN S - 1)) := aOk_sz ho (by omega) (by rw [eT]; omega)
      have hT2 : RT (uI σ 1 2 (a_pN S - 1)) (aSzS S 0 (a_pN S - 1)) := by
        rw [eS]
        exact ⟨⟨by rw [uI_at, if_neg (by decide)]; exact hT.1.1, uI_get, fun i a b => by
          have b : i < a_pN S - 1 := b
          rw [uI_ne (by decide)]; exact hT.1.2.2 i a (by omega)⟩, ⟨by rw [uI_ne (by decide)]; exact hT.2.1, by rw [uI_ne (by decide)]; exact hT.2.2.1, fun i a b => by rw [uI_ne (by decide)]; exact hT.2.2.2 i a b⟩⟩
      refine V_run kX6_undo 2 [1] (show (zr 1 ∧ ¬ 1 = 0) ∧ V 6 MX6_undo 24 [some (vR 5 0), some (vZ 0), some (vR 4 1)] [vR 5 0] (uI σ 1 2 (a_pN S - 1)) post from ⟨(by omega), ?_⟩)
      refine V_callV (a := []) (rest := []) kX6_undo rfl oX6_settle iX6_settle lk_6_63 rfl rfl rfl (Nat.le_of_ble_eq_true rfl) (Nat.le_of_ble_eq_true rfl) (Nat.le_of_ble_eq_true rfl) (post' := fun zv zσ => V 6 MX6_undo 27 [some (vR 5 0), some (vZ 0), some (vR 4 1)] (zv.toList ++ []) zσ post) (c_N_reset (S := S) (by rw [eS]; exact ⟨⟨rfl, rfl, rfl, rfl⟩, ⟨rfl, rfl, rfl, rfl⟩, ⟨rfl, rfl, rfl⟩, rfl⟩) hR (fun a x => ⟨by rw [uI_ne (by omega)], rfl⟩) hT2 ho2 (fun σ9 hk9 hR9 => (show V 6 MX6_undo 27 [some (vR 5 0), some (vZ 0), some (vR 4 1)] [] σ9 post from ?_))) (fun _ _ h => h)
      refine V_run kX6_undo 1 [] (show V 6 MX6_undo 28 [some (vR 5 0), some (vZ 0), some (vR 4 1)] [vR 4 1] σ9 post from ?_)
      refine V_callV (a := []) (rest := []) kX6_undo rfl oX5_size iX5_size lk_6_74 rfl rfl rfl (Nat.le_of_ble_eq_true rfl) (Nat.le_of_ble_eq_true rfl) (Nat.le_of_ble_eq_true rfl) (post' := fun zv zσ => V 6 MX6_undo 31 [some (vR 5 0), some (vZ 0), some (vR 4 1)] (zv.toList ++ []) zσ post) (c_T_size (b := 1) ((show V 6 MX6_undo 31 [some (vR 5 0), some (vZ 0), some (vR 4 1)] [vZ (σ9.1 1 2)] σ9 post from ?_))) (fun _ _ h => h)
      refine V_top ((hR9.1.1.2.1).trans (by rw [eS])) ?_
      exact V_iret kX6_undo rfl rfl (hp σ9 ((dK.rf.u (by decide)).tr hk9) hR9)
  · skip
    subst hx1
    refine V_callV (a := [vZ 1]) (rest := []) kX6_undo rfl oX6_textOf iX6_textOf lk_6_66 rfl rfl rfl (Nat.le_of_ble_eq_true rfl) (Nat.le_of_ble_eq_true rfl) (Nat.le_of_ble_eq_true rfl) (post' := fun zv zσ => V 6 MX6_undo 5 [some (vR 5 0), some (vZ 1), none] (zv.toList ++ []) zσ post) (c_N_textOf1 rfl ((show V 6 MX6_undo 5 [some (vR 5 0), some (vZ 1), none] [vR 4 3] σ post from ?_))) (fun _ _ h => h)
    have eT : aTyp S 1 = a_wN S := if_neg (by decide)
    rw [if_pos (by omega), eT] at hp
    have hsz : σ.1 3 2 = a_wN S := hT.2.2.1
    have hn0 : 0 ≤ a_wN S := ho.2.1.1
    refine V_run kX6_undo 4 [] (show V 6 MX6_undo 14 [some (vR 5 0), some (vZ 1), some (vR 4 3)] [vR 4 3] σ post from ?_)
    by_cases h3 : a_wN S = 0
    · skip
      rw [if_pos h3] at hp
      refine V_callV (a := []) (rest := []) kX6_undo rfl oX5_dropLast iX5_dropLast lk_6_81 rfl rfl rfl (Nat.le_of_ble_eq_true rfl) (Nat.le_of_ble_eq_true rfl) (Nat.le_of_ble_eq_true rfl) (post' := fun zv zσ => V 6 MX6_undo 17 [some (vR 5 0), some (vZ 1), some (vR 4 3)] (zv.toList ++ []) zσ post) (c_T_drop (b := 3) (hp1 := fun q => absurd q (by omega)) (RT_3 hT ho) (fun _ =>  ((show V 6 MX6_undo 17 [some (vR 5 0), some (vZ 1), some (vR 4 3)] [vZ 0] σ post from ?_)))) (fun _ _ h => h)
      refine V_run kX6_undo 2 [0] (show (zr 0 ∧ 0 = 0) ∧ V 6 MX6_undo 22 [some (vR 5 0), some (vZ 1), some (vR 4 3)] [vZ (-3)] σ post from ⟨(by omega), ?_⟩)
      exact V_iret kX6_undo rfl rfl (hp σ dK.rf hR)
    · skip
      rw [if_neg h3] at hp
      refine V_callV (a := []) (rest := []) kX6_undo rfl oX5_dropLast iX5_dropLast lk_6_81 rfl rfl rfl (Nat.le_of_ble_eq_true rfl) (Nat.le_of_ble_eq_true rfl) (Nat.le_of_ble_eq_true rfl) (post' := fun zv zσ => V 6 MX6_undo 17 [some (vR 5 0), some (vZ 1), some (vR 4 3)] (zv.toList ++ []) zσ post) (c_T_drop (b := 3) (hp0 := fun q => absurd q (by omega)) (RT_3 hT ho) (fun _ => (show V 6 MX6_undo 17 [some (vR 5 0), some (vZ 1), some (vR 4 3)] [vZ 1] (uI σ 3 2 (σ.1 3 2 - 1)) post from ?_))) (fun _ _ h => h)
      rw [hsz]
      have eS : aSzS S 1 (a_wN S - 1) = (a_pN S, a_pF S, a_wN S - 1, a_wF S, a_eN S, a_eK S, a_eM S, a_eP S, a_sN S, a_sM S, a_sP S, a_sW S, a_hF S, a_hN S, a_hI S, a_fnd S) := if_neg (by decide)
      have ho2 : aOk (aSzS S 1 (a_wN S - 1)) := aOk_sz ho (by omega) (by rw [eT]; omega)
      have hT2 : RT (uI σ 3 2 (a_wN S - 1)) (aSzS S 1 (a_wN S - 1)) := by
        rw [eS]
        exact ⟨⟨by rw [uI_ne (by decide)]; exact hT.1.1, by rw [uI_ne (by decide)]; exact hT.1.2.1, fun i a b => by rw [uI_ne (by decide)]; exact hT.1.2.2 i a b⟩, ⟨by rw [uI_at, if_neg (by decide)]; exact hT.2.1, uI_get, fun i a b => by
          have b : i < a_wN S - 1 := b
          rw [uI_ne (by decide)]; exact hT.2.2.2 i a (by omega)⟩⟩
      refine V_run kX6_undo 2 [1] (show (zr 1 ∧ ¬ 1 = 0) ∧ V 6 MX6_undo 24 [some (vR 5 0), some (vZ 1), some (vR 4 3)] [vR 5 0] (uI σ 3 2 (a_wN S - 1)) post from ⟨(by omega), ?_⟩)
      refine V_callV (a := []) (rest := []) kX6_undo rfl oX6_settle iX6_settle lk_6_63 rfl rfl rfl (Nat.le_of_ble_eq_true rfl) (Nat.le_of_ble_eq_true rfl) (Nat.le_of_ble_eq_true rfl) (post' := fun zv zσ => V 6 MX6_undo 27 [some (vR 5 0), some (vZ 1), some (vR 4 3)] (zv.toList ++ []) zσ post) (c_N_reset (S := S) (by rw [eS]; exact ⟨⟨rfl, rfl, rfl, rfl⟩, ⟨rfl, rfl, rfl, rfl⟩, ⟨rfl, rfl, rfl⟩, rfl⟩) hR (fun a x => ⟨by rw [uI_ne (by omega)], rfl⟩) hT2 ho2 (fun σ9 hk9 hR9 => (show V 6 MX6_undo 27 [some (vR 5 0), some (vZ 1), some (vR 4 3)] [] σ9 post from ?_))) (fun _ _ h => h)
      refine V_run kX6_undo 1 [] (show V 6 MX6_undo 28 [some (vR 5 0), some (vZ 1), some (vR 4 3)] [vR 4 3] σ9 post from ?_)
      refine V_callV (a := []) (rest := []) kX6_undo rfl oX5_size iX5_size lk_6_74 rfl rfl rfl (Nat.le_of_ble_eq_true rfl) (Nat.le_of_ble_eq_true rfl) (Nat.le_of_ble_eq_true rfl) (post' := fun zv zσ => V 6 MX6_undo 31 [some (vR 5 0), some (vZ 1), some (vR 4 3)] (zv.toList ++ []) zσ post) (c_T_size (b := 3) ((show V 6 MX6_undo 31 [some (vR 5 0), some (vZ 1), some (vR 4 3)] [vZ (σ9.1 3 2)] σ9 post from ?_))) (fun _ _ h => h)
      refine V_top ((hR9.1.2.2.1).trans (by rw [eS])) ?_
      exact V_iret kX6_undo rfl rfl (hp σ9 ((dK.rf.u (by decide)).tr hk9) hR9)
