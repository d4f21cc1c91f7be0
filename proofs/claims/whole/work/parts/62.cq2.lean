/-- what a run of the day on the second course may change -/
def rTr (σ σ' : zSt) : Prop := ∀ k : Nat, ¬ (26 ≤ k ∧ k ≤ 28) → σ'.1 k = σ.1 k ∧ σ'.2 k = σ.2 k
theorem rTr.d {σ σ' : zSt} (h : rTr σ σ') : dTr σ σ' := fun a x => h a (by omega)
theorem rTr.px {σ σ' : zSt} {b : Nat} {C : zCf} (h : rTr σ σ') (hb : b + 8 < 26) (hp : zPx σ b C) : zPx σ' b C := zPx_cong (fun k x y => (h k (by omega)).1) (h b (by omega)).2 hp
theorem dTr_take {σ : zSt} : dTr σ (sTake σ 14 5) := fun a x => sTake_ne (by omega)
theorem dTr_com {σ : zSt} {p m : Int} : dTr σ (sCom σ 14 p m) := fun a x => ⟨sCom_ne (by omega) (by omega), rfl⟩
theorem dTr_u {σ : zSt} {k : Nat} {j v : Int} (h : (14 ≤ k ∧ k ≤ 22) ∨ (26 ≤ k ∧ k ≤ 28) ∨ k = 42) : dTr σ (uI σ k j v) := fun a x => ⟨uI_ne (by omega), rfl⟩
theorem dTr_l {σ : zSt} {k : Nat} {j : Int} {v : Int64} (h : (14 ≤ k ∧ k ≤ 22) ∨ (26 ≤ k ∧ k ≤ 28) ∨ k = 42) : dTr σ (uL σ k j v) := fun a x => ⟨rfl, uL_ne (by omega)⟩
theorem dTr_add {σ : zSt} {e v t p : Int} : dTr σ (sAdd σ 14 e v t p) := fun a x => ⟨by unfold sAdd; rw [uI_ne (by omega), uI_ne (by omega), uI_ne (by omega), uI_ne (by omega), uI_ne (by omega)], rfl⟩
theorem dTr_drop {σ : zSt} {e : Int} : dTr σ (sDrop σ 14 e) := fun a x => ⟨by unfold sDrop; rw [uI_ne (by omega), uI_ne (by omega)], rfl⟩
theorem on_m1 {C : zCf} (hE : cE C ≤ 9) (hon : ∀ e : Int, cOn C e = true) : ∀ e : Int, 0 ≤ e → e < cE C → zbt (-1) e = cOn C e := fun e a b => by rw [hon e]; exact zbt_m1 (by omega) a
theorem c_X_run {a : Nat} {C : zCf} {v : Int} {σ : zSt} {post : Option VV → zSt → Prop} (ha : zPz a) (ha2 : a + 8 < 26) (hpl : zPl σ a C) (hvb : ∀ e : Int, 0 ≤ e → e < cE C → zbt v e = cOn C e) (hp : ∀ σ1 : zSt, rTr σ σ1 → zCo σ1 26 C 24 → post none σ1) : Mc 2 MX0_run [vR 0 26, vR 1 a, vZ v] σ post :=
  c_C_run (b := 26) ha ha2 rfl rfl hpl hvb (fun σ1 hco e1 e2 => hp σ1 (fun k x => ⟨by rw [e1, uI_ne (by omega)], e2 k (by omega) (by omega) (by omega)⟩) hco)
set_option maxHeartbeats 8000000 in
set_option maxRecDepth 100000 in
/-- come -/
theorem c_N_come {k x : Int} {S : zAb} {σ : zSt} {post : Option VV → zSt → Prop} (hR : RC σ S) (ho : aOk S) (hk : zr k) (hx : zr x) (hp : ∀ σ', dK σ σ' → RC σ' S → post (some (vZ (aCome S k x))) σ') : Mc 3 MX6_come [vR 5 0, vZ k, vZ x] σ post := by
  have hok := aC_ok ho
  have hcn := hok.1
  obtain ⟨hT, hPx, hCo, hG, hS, hK, hF⟩ := id hR
  show V 3 MX6_come 0 [some (vR 5 0), some (vZ k), some (vZ x), none, none, none, none] [] σ post
  refine V_run kX6_come 2 [] (show V 3 MX6_come 2 [some (vR 5 0), some (vZ k), some (vZ x), none, none, none, none] [vZ k, vR 5 0] σ post from ?_)
  refine V_callV (a := [vZ k]) (rest := []) kX6_come rfl oX6_isPerson iX6_isPerson lk_6_88 rfl rfl rfl (Nat.le_of_ble_eq_true rfl) (Nat.le_of_ble_eq_true rfl) (Nat.le_of_ble_eq_true rfl) (post' := fun zv zσ => V 3 MX6_come 5 [some (vR 5 0), some (vZ k), some (vZ x), none, none, none, none] (zv.toList ++ []) zσ post) (c_N_isPerson hok hPx.1.1 (by omega) ((show V 3 MX6_come 5 [some (vR 5 0), some (vZ k), some (vZ x), none, none, none, none] [vZ (if 0 ≤ k ∧ k < cn (aC S) then 1 else 0)] σ post from ?_))) (fun _ _ h => h)
  by_cases h1 : 0 ≤ k ∧ k < cn (aC S)
  rotate_left
  · skip
    refine V_top (if_neg h1) ?_
    refine V_run kX6_come 2 [1] (show (zr 0 ∧ 0 = 0) ∧ V 3 MX6_come 18 [some (vR 5 0), some (vZ k), some (vZ x), none, none, none, none] [vZ (-2)] σ post from ⟨(by omega), ?_⟩)
    have e9 : aCome S k x = -2 := if_neg (by omega)
    rw [e9] at hp
    exact V_iret kX6_come rfl rfl (hp σ dK.rf hR)
  refine V_top (if_pos h1) ?_
  refine V_run kX6_come 3 [0] (show (zr 1 ∧ ¬ 1 = 0) ∧ V 3 MX6_come 10 [some (vR 5 0), some (vZ k), some (vZ x), none, none, none, none] [vZ 1, vZ x] σ post from ⟨(by omega), ?_⟩)
  refine V_callS (a := [vZ x, vZ 1]) (rest := []) kX6_come rfl oX6_isFrom0To iX6_isFrom0To lk_6_91 rfl rfl (Nat.le_of_ble_eq_true rfl) (Nat.le_of_ble_eq_true rfl) (Nat.le_of_ble_eq_true rfl) (post' := fun zv zσ => V 3 MX6_come 13 [some (vR 5 0), some (vZ k), some (vZ x), none, none, none, none] (zv.toList ++ []) zσ post) (c_N_from (by omega) (by omega) ((show V 3 MX6_come 13 [some (vR 5 0), some (vZ k), some (vZ x), none, none, none, none] [vZ (if 0 ≤ x ∧ x ≤ 1 then 1 else 0)] σ post from ?_))) (fun _ _ h => h)
  by_cases h2 : 0 ≤ x ∧ x ≤ 1
  rotate_left
  · skip
    refine V_top (if_neg h2) ?_
    refine V_run kX6_come 2 [0] (show (zr 0 ∧ 0 = 0) ∧ V 3 MX6_come 18 [some (vR 5 0), some (vZ k), some (vZ x), none, none, none, none] [vZ (-2)] σ post from ⟨(by omega), ?_⟩)
    have e9 : aCome S k x = -2 := if_neg (by omega)
    rw [e9] at hp
    exact V_iret kX6_come rfl rfl (hp σ dK.rf hR)
  refine V_top (if_pos h2) ?_
  refine V_run kX6_come 9 [1] (show (zr 1 ∧ ¬ 1 = 0) ∧ V 3 MX6_come 32 [some (vR 5 0), some (vZ k), some (vZ x), some (vZ (-1)), some (vZ (-1)), none, none] [vR 1 5, vR 1 14] σ post from ⟨(by omega), ?_⟩)
  have e9 : aCome S k x = zAlw (zCom (aC S) k 24 0 (-1) 0) x := if_pos ⟨h1, h2⟩
  rw [e9] at hp
  obtain ⟨v, hv⟩ : ∃ v : Int, v = zAlw (zCom (aC S) k 24 0 (-1) 0) x := ⟨_, rfl⟩
  rw [← hv] at hp
  have hE : cE (aC S) ≤ 9 := hok.2.1.2
  refine V_callV (a := [vR 1 5]) (rest := []) kX6_come rfl oX2_take iX2_take lk_6_174 rfl rfl rfl (Nat.le_of_ble_eq_true rfl) (Nat.le_of_ble_eq_true rfl) (Nat.le_of_ble_eq_true rfl) (post' := fun zv zσ => V 3 MX6_come 35 [some (vR 5 0), some (vZ k), some (vZ x), some (vZ (-1)), some (vZ (-1)), none, none] (zv.toList ++ []) zσ post) (c_P_take (b := 14) (a := 5) zPz14 zPz5 ((show V 3 MX6_come 35 [some (vR 5 0), some (vZ k), some (vZ x), some (vZ (-1)), some (vZ (-1)), none, none] [] (sTake σ 14 5) post from ?_))) (fun _ _ h => h)
  refine V_run kX6_come 2 [] (show V 3 MX6_come 38 [some (vR 5 0), some (vZ k), some (vZ x), some (vZ (-1)), some (vZ (-1)), some (vZ 0), none] [] (sTake σ 14 5) post from ?_)
  have loop : ∀ (m : Nat) (i a l lr : Int), 0 ≤ i → i + m = 24 → (-1 ≤ a ∧ a ≤ 23) → (-1 ≤ l ∧ l ≤ 24) → ((a = -1 ∧ l = -1 ∧ lr = 0) ∨ (0 ≤ a ∧ l = lr)) → zAlw (zCom (aC S) k m i a lr) x = v → ∀ (C2 : zCf) (σ2 : zSt), dTr σ σ2 → zPx σ2 14 C2 → cn C2 = cn (aC S) → (∀ y, cCome C2 k y = cCome (aC S) k y) → V 3 MX6_come 38 [some (vR 5 0), some (vZ k), some (vZ x), some (vZ a), some (vZ l), some (vZ i), none] [] σ2 post := by
    intro m
    induction m with
    | zero =>
      intro i a l lr i0 i1 ha hl hrel he C2 σ2 hk hc hcn2 hC2
      unfold zCom zAlw at he
      have hp := hp σ2 hk.k (RC_tr hk hR)
      refine V_run kX6_come 4 [1] (show (zr i ∧ zr 24 ∧ 24 ≤ i) ∧ V 3 MX6_come 114 [some (vR 5 0), some (vZ k), some (vZ x), some (vZ a), some (vZ l), some (vZ i), none] [vZ x] σ2 post from ⟨(by omega), ?_⟩)
      by_cases h3 : x = 0
      · skip
        rw [if_pos (Or.inr h3)] at he
        rw [← he] at hp
        refine V_run kX6_come 3 [0] (show (zr x ∧ x = 0) ∧ V 3 MX6_come 123 [some (vR 5 0), some (vZ k), some (vZ x), some (vZ a), some (vZ l), some (vZ i), none] [vZ a] σ2 post from ⟨(by omega), ?_⟩)
        exact V_iret kX6_come rfl rfl (hp)
      · skip
        have e8 : l = v := by
          rw [← he]
          by_cases z : a = -1
          · rw [if_pos (Or.inl z)]; show l = a; omega
          · rw [if_neg (fun q => q.elim z h3)]; show l = lr; omega
        rw [← e8] at hp
        refine V_run kX6_come 2 [1] (show (zr x ∧ ¬ x = 0) ∧ V 3 MX6_come 123 [some (vR 5 0), some (vZ k), some (vZ x), some (vZ a), some (vZ l), some (vZ i), none] [vZ l] σ2 post from ⟨(by omega), ?_⟩)
        exact V_iret kX6_come rfl rfl (hp)
    | succ m ih =>
      intro i a l lr i0 i1 ha hl hrel he C2 σ2 hk hc hcn2 hC2
      unfold zCom at he
      have hc3 := zPx_come (t := i) hc h1.1 (by omega) i0 (by omega)
      rw [hC2] at hc3
      have hx3 := hc.2 k h1.1 (by omega)
      have hv3 := zPl_u3 hc3.1
      have hsb := zSto_b (C := cCome (aC S) k i) (p := k) 24 0 0
      obtain ⟨n9, hn9⟩ : ∃ n : Int, n = zSto (cCome (aC S) k i) k 24 0 0 := ⟨_, rfl⟩
      rw [← hn9] at he hsb
      have hdl := (zJ_D hv3 23).2.2.2.2.1 k
      refine V_run kX6_come 7 [0] (show (zr i ∧ zr 24 ∧ i < 24) ∧ V 3 MX6_come 52 [some (vR 5 0), some (vZ k), some (vZ x), some (vZ a), some (vZ l), some (vZ i), none] [vZ i, vZ k, vR 1 14] σ2 post from ⟨(by omega), ?_⟩)
      refine V_callV (a := [vZ k, vZ i]) (rest := []) kX6_come rfl oX2_setComing iX2_setComing lk_6_178 rfl rfl rfl (Nat.le_of_ble_eq_true rfl) (Nat.le_of_ble_eq_true rfl) (Nat.le_of_ble_eq_true rfl) (post' := fun zv zσ => V 3 MX6_come 55 [some (vR 5 0), some (vZ k), some (vZ x), some (vZ a), some (vZ l), some (vZ i), none] (zv.toList ++ []) zσ post) (c_P_setComing (b := 14) zPz14 h1.1 (by omega) i0 (by omega) hx3.1 (Int.lt_of_le_of_lt hx3.2 (by decide)) ((show V 3 MX6_come 55 [some (vR 5 0), some (vZ k), some (vZ x), some (vZ a), some (vZ l), some (vZ i), none] [] (sCom σ2 14 k i) post from ?_))) (fun _ _ h => h)
      refine V_run kX6_come 5 [] (show V 3 MX6_come 64 [some (vR 5 0), some (vZ k), some (vZ x), some (vZ a), some (vZ l), some (vZ i), none] [vZ (-1), vR 1 14, vR 0 26] (sCom σ2 14 k i) post from ?_)
      refine V_callV (a := [vR 1 14, vZ (-1)]) (rest := []) kX6_come rfl oX0_run iX0_run lk_6_182 rfl rfl rfl (Nat.le_of_ble_eq_true rfl) (Nat.le_of_ble_eq_true rfl) (Nat.le_of_ble_eq_true rfl) (post' := fun zv zσ => V 3 MX6_come 67 [some (vR 5 0), some (vZ k), some (vZ x), some (vZ a), some (vZ l), some (vZ i), none] (zv.toList ++ []) zσ post) (c_X_run zPz14 (by decide) hc3.1 (on_m1 hE (fun _ => rfl)) (fun σ4 hf4 hco4 => (show V 3 MX6_come 67 [some (vR 5 0), some (vZ k), some (vZ x), some (vZ a), some (vZ l), some (vZ i), none] [] σ4 post from ?_))) (fun _ _ h => h)
      refine V_run kX6_come 3 [] (show V 3 MX6_come 72 [some (vR 5 0), some (vZ k), some (vZ x), some (vZ a), some (vZ l), some (vZ i), none] [vZ k, vR 0 26] σ4 post from ?_)
      have hk4 := (hk.tr dTr_com).tr hf4.d
      have hx4 := hf4.px (by decide) hc3
      refine V_callV (a := [vZ k]) (rest := []) kX6_come rfl oX0_isServed iX0_isServed lk_6_186 rfl rfl rfl (Nat.le_of_ble_eq_true rfl) (Nat.le_of_ble_eq_true rfl) (Nat.le_of_ble_eq_true rfl) (post' := fun zv zσ => V 3 MX6_come 75 [some (vR 5 0), some (vZ k), some (vZ x), some (vZ a), some (vZ l), some (vZ i), none] (zv.toList ++ []) zσ post) (c_C_isServed (b := 26) hv3 rfl rfl hco4 h1.1 (by omega) ((show V 3 MX6_come 75 [some (vR 5 0), some (vZ k), some (vZ x), some (vZ a), some (vZ l), some (vZ i), none] [vZ (if dl (zD (cCome (aC S) k i) 23) k = 0 then 1 else 0)] σ4 post from ?_))) (fun _ _ h => h)
      have go := fun a2 l2 lr2 ha2 hl2 hrel2 h2 => ih (i + 1) a2 l2 lr2 (by omega) (by omega) ha2 hl2 hrel2 h2 _ σ4 hk4 hx4 rfl (fun y => (show cCome (cCome (aC S) k i) k y = cCome (aC S) k y by unfold cCome; rw [fPut_fPut]))
      by_cases h3 : dl (zD (cCome (aC S) k i) 23) k = 0
      rotate_left
      · skip
        rw [if_neg (fun q => h3 q.1)] at he
        refine V_top (if_neg h3) ?_
        refine V_run kX6_come 3 [1] (show (zr 0 ∧ 0 = 0) ∧ V 3 MX6_come 38 [some (vR 5 0), some (vZ k), some (vZ x), some (vZ a), some (vZ l), some (vZ (i + 1)), none] [] σ4 post from ⟨(by omega), ?_⟩)
        refine V_drop (L := [some (vR 5 0), some (vZ k), some (vZ x), some (vZ a), some (vZ l), some (vZ (i + 1)), none]) ⟨rfl, ⟨rfl, ⟨rfl, ⟨rfl, ⟨rfl, ⟨rfl, trivial⟩⟩⟩⟩⟩⟩ ?_
        exact go _ _ _ ha hl hrel he
      refine V_top (if_pos h3) ?_
      refine V_run kX6_come 4 [0] (show (zr 1 ∧ ¬ 1 = 0) ∧ V 3 MX6_come 83 [some (vR 5 0), some (vZ k), some (vZ x), some (vZ a), some (vZ l), some (vZ i), none] [vZ k, vR 0 26] σ4 post from ⟨(by omega), ?_⟩)
      refine V_callV (a := [vZ k]) (rest := []) kX6_come rfl oX0_stood iX0_stood lk_6_162 rfl rfl rfl (Nat.le_of_ble_eq_true rfl) (Nat.le_of_ble_eq_true rfl) (Nat.le_of_ble_eq_true rfl) (post' := fun zv zσ => V 3 MX6_come 86 [some (vR 5 0), some (vZ k), some (vZ x), some (vZ a), some (vZ l), some (vZ i), none] (zv.toList ++ []) zσ post) (c_C_stood (b := 26) hv3 rfl rfl hco4 h1.1 (by omega) ((show V 3 MX6_come 86 [some (vR 5 0), some (vZ k), some (vZ x), some (vZ a), some (vZ l), some (vZ i), none] [vZ (zSto (cCome (aC S) k i) k 24 0 0)] σ4 post from ?_))) (fun _ _ h => h)
      rw [← hn9]
      refine V_run kX6_come 3 [] (show V 3 MX6_come 90 [some (vR 5 0), some (vZ k), some (vZ x), some (vZ a), some (vZ l), some (vZ i), some (vZ n9)] [vZ (-1), vZ a] σ4 post from ?_)
      by_cases h4 : a = -1
      · skip
        rw [if_pos ⟨h3, Or.inl h4⟩] at he
        refine V_run kX6_come 7 [1] (show (zr a ∧ zr (-1) ∧ a = (-1)) ∧ V 3 MX6_come 38 [some (vR 5 0), some (vZ k), some (vZ x), some (vZ i), some (vZ n9), some (vZ (i + 1)), some (vZ n9)] [] σ4 post from ⟨(by omega), ?_⟩)
        refine V_drop (L := [some (vR 5 0), some (vZ k), some (vZ x), some (vZ i), some (vZ n9), some (vZ (i + 1)), none]) ⟨rfl, ⟨rfl, ⟨rfl, ⟨rfl, ⟨rfl, ⟨rfl, trivial⟩⟩⟩⟩⟩⟩ ?_
        exact go _ _ _ (by omega) (by omega) (Or.inr ⟨i0, rfl⟩) he
      · skip
        refine V_run kX6_come 3 [0] (show (zr a ∧ zr (-1) ∧ ¬ a = (-1)) ∧ V 3 MX6_come 97 [some (vR 5 0), some (vZ k), some (vZ x), some (vZ a), some (vZ l), some (vZ i), some (vZ n9)] [vZ l, vZ n9] σ4 post from ⟨(by omega), ?_⟩)
        have hll : l = lr := by omega
        rcases Int.lt_or_le n9 l with h5 | h5
        · skip
          rw [if_pos ⟨h3, Or.inr (by omega)⟩] at he
          refine V_run kX6_come 7 [0] (show (zr n9 ∧ zr l ∧ n9 < l) ∧ V 3 MX6_come 38 [some (vR 5 0), some (vZ k), some (vZ x), some (vZ i), some (vZ n9), some (vZ (i + 1)), some (vZ n9)] [] σ4 post from ⟨(by omega), ?_⟩)
          refine V_drop (L := [some (vR 5 0), some (vZ k), some (vZ x), some (vZ i), some (vZ n9), some (vZ (i + 1)), none]) ⟨rfl, ⟨rfl, ⟨rfl, ⟨rfl, ⟨rfl, ⟨rfl, trivial⟩⟩⟩⟩⟩⟩ ?_
          exact go _ _ _ (by omega) (by omega) (Or.inr ⟨i0, rfl⟩) he
        · skip
          rw [if_neg (fun q => q.2.elim h4 (by omega))] at he
          refine V_run kX6_come 3 [1] (show (zr n9 ∧ zr l ∧ l ≤ n9) ∧ V 3 MX6_come 38 [some (vR 5 0), some (vZ k), some (vZ x), some (vZ a), some (vZ l), some (vZ (i + 1)), some (vZ n9)] [] σ4 post from ⟨(by omega), ?_⟩)
          refine V_drop (L := [some (vR 5 0), some (vZ k), some (vZ x), some (vZ a), some (vZ l), some (vZ (i + 1)), none]) ⟨rfl, ⟨rfl, ⟨rfl, ⟨rfl, ⟨rfl, ⟨rfl, trivial⟩⟩⟩⟩⟩⟩ ?_
          exact go _ _ _ ha hl hrel he
  exact loop 24 0 (-1) (-1) 0 (by omega) (by omega) (by omega) (by omega) (Or.inl ⟨rfl, rfl, rfl⟩) hv.symm (aC S) _ dTr_take (zPx_take (by decide) hPx) rfl (fun _ => rfl)
set_option maxHeartbeats 8000000 in
set_option maxRecDepth 100000 in
/-- open -/
theorem c_N_open {t x : Int} {S : zAb} {σ : zSt} {post : Option VV → zSt → Prop} (hR : RC σ S) (ho : aOk S) (ht : zr t) (hx : zr x) (hp : ∀ σ', dK σ σ' → RC σ' S → post (some (vZ (aOpen S t x))) σ') : Mc 5 MX6_open [vR 5 0, vZ t, vZ x] σ post := by
  have hok := aC_ok ho
  have hcn := hok.1
  obtain ⟨hT, hPx, hCo, hG, hS, hK, hF⟩ := id hR
  show V 5 MX6_open 0 [some (vR 5 0), some (vZ t), some (vZ x), none, none, none, none] [] σ post
  refine V_run kX6_open 1 [] (show V 5 MX6_open 1 [some (vR 5 0), some (vZ t), some (vZ x), none, none, none, none] [vZ t] σ post from ?_)
  refine V_callS (a := [vZ t]) (rest := []) kX6_open rfl oX6_isMinute iX6_isMinute lk_6_105 rfl rfl (Nat.le_of_ble_eq_true rfl) (Nat.le_of_ble_eq_true rfl) (Nat.le_of_ble_eq_true rfl) (post' := fun zv zσ => V 5 MX6_open 4 [some (vR 5 0), some (vZ t), some (vZ x), none, none, none, none] (zv.toList ++ []) zσ post) (c_N_isMinute (by omega) ((show V 5 MX6_open 4 [some (vR 5 0), some (vZ t), some (vZ x), none, none, none, none] [vZ (if 0 ≤ t ∧ t ≤ 23 then 1 else 0)] σ post from ?_))) (fun _ _ h => h)
  by_cases h1 : 0 ≤ t ∧ t ≤ 23
  rotate_left
  · skip
    refine V_top (if_neg h1) ?_
    refine V_run kX6_open 2 [1] (show (zr 0 ∧ 0 = 0) ∧ V 5 MX6_open 17 [some (vR 5 0), some (vZ t), some (vZ x), none, none, none, none] [vZ (-2)] σ post from ⟨(by omega), ?_⟩)
    have e9 : aOpen S t x = -2 := if_neg (by omega)
    rw [e9] at hp
    exact V_iret kX6_open rfl rfl (hp σ dK.rf hR)
  refine V_top (if_pos h1) ?_
  refine V_run kX6_open 3 [0] (show (zr 1 ∧ ¬ 1 = 0) ∧ V 5 MX6_open 9 [some (vR 5 0), some (vZ t), some (vZ x), none, none, none, none] [vZ 1, vZ x] σ post from ⟨(by omega), ?_⟩)
  refine V_callS (a := [vZ x, vZ 1]) (rest := []) kX6_open rfl oX6_isFrom0To iX6_isFrom0To lk_6_91 rfl rfl (Nat.le_of_ble_eq_true rfl) (Nat.le_of_ble_eq_true rfl) (Nat.le_of_ble_eq_true rfl) (post' := fun zv zσ => V 5 MX6_open 12 [some (vR 5 0), some (vZ t), some (vZ x), none, none, none, none] (zv.toList ++ []) zσ post) (c_N_from (by omega) (by omega) ((show V 5 MX6_open 12 [some (vR 5 0), some (vZ t), some (vZ x), none, none, none, none] [vZ (if 0 ≤ x ∧ x ≤ 1 then 1 else 0)] σ post from ?_))) (fun _ _ h => h)
  by_cases h2 : 0 ≤ x ∧ x ≤ 1
  rotate_left
  · skip
    refine V_top (if_neg h2) ?_
    refine V_run kX6_open 2 [0] (show (zr 0 ∧ 0 = 0) ∧ V 5 MX6_open 17 [some (vR 5 0), some (vZ t), some (vZ x), none, none, none, none] [vZ (-2)] σ post from ⟨(by omega), ?_⟩)
    have e9 : aOpen S t x = -2 := if_neg (by omega)
    rw [e9] at hp
    exact V_iret kX6_open rfl rfl (hp σ dK.rf hR)
  refine V_top (if_pos h2) ?_
  refine V_run kX6_open 9 [1] (show (zr 1 ∧ ¬ 1 = 0) ∧ V 5 MX6_open 31 [some (vR 5 0), some (vZ t), some (vZ x), some (vZ (-1)), some (vZ (-1)), none, none] [vR 1 5, vR 1 14] σ post from ⟨(by omega), ?_⟩)
  have e9 : aOpen S t x = zPick (zOpn (aC S) t 4 0 (-1) (-1)) x := if_pos ⟨h1, h2⟩
  rw [e9] at hp
  obtain ⟨v, hv⟩ : ∃ v : Int, v = zPick (zOpn (aC S) t 4 0 (-1) (-1)) x := ⟨_, rfl⟩
  rw [← hv] at hp
  have hE : cE (aC S) ≤ 9 := hok.2.1.2
  refine V_callV (a := [vR 1 5]) (rest := []) kX6_open rfl oX2_take iX2_take lk_6_174 rfl rfl rfl (Nat.le_of_ble_eq_true rfl) (Nat.le_of_ble_eq_true rfl) (Nat.le_of_ble_eq_true rfl) (post' := fun zv zσ => V 5 MX6_open 34 [some (vR 5 0), some (vZ t), some (vZ x), some (vZ (-1)), some (vZ (-1)), none, none] (zv.toList ++ []) zσ post) (c_P_take (b := 14) (a := 5) zPz14 zPz5 ((show V 5 MX6_open 34 [some (vR 5 0), some (vZ t), some (vZ x), some (vZ (-1)), some (vZ (-1)), none, none] [] (sTake σ 14 5) post from ?_))) (fun _ _ h => h)
  refine V_run kX6_open 2 [] (show V 5 MX6_open 37 [some (vR 5 0), some (vZ t), some (vZ x), some (vZ (-1)), some (vZ (-1)), some (vZ 0), none] [] (sTake σ 14 5) post from ?_)
  have loop : ∀ (m : Nat) (i a l : Int), 0 ≤ i → i + m = 4 → (-1 ≤ a ∧ a ≤ 23) → (-1 ≤ l ∧ l ≤ 24) → zPick (zOpn (aC S) t m i a l) x = v → ∀ (C2 : zCf) (σ2 : zSt), dTr σ σ2 → zPx σ2 14 C2 → (∀ y, cOpen C2 t y = cOpen (aC S) t y) → V 5 MX6_open 37 [some (vR 5 0), some (vZ t), some (vZ x), some (vZ a), some (vZ l), some (vZ i), none] [] σ2 post := by
    intro m
    induction m with
    | zero =>
      intro i a l i0 i1 ha hl he C2 σ2 hk hc hC2
      unfold zOpn at he
      have hp := hp σ2 hk.k (RC_tr hk hR)
      refine V_run kX6_open 4 [1] (show (zr i ∧ zr 4 ∧ 4 ≤ i) ∧ V 5 MX6_open 95 [some (vR 5 0), some (vZ t), some (vZ x), some (vZ a), some (vZ l), some (vZ i), none] [vZ x] σ2 post from ⟨(by omega), ?_⟩)
      unfold zPick at he
      by_cases h3 : x = 0
      · skip
        rw [if_pos h3] at he
        rw [← he] at hp
        refine V_run kX6_open 3 [0] (show (zr x ∧ x = 0) ∧ V 5 MX6_open 104 [some (vR 5 0), some (vZ t), some (vZ x), some (vZ a), some (vZ l), some (vZ i), none] [vZ a] σ2 post from ⟨(by omega), ?_⟩)
        exact V_iret kX6_open rfl rfl (hp)
      · skip
        rw [if_neg h3] at he
        rw [← he] at hp
        refine V_run kX6_open 2 [1] (show (zr x ∧ ¬ x = 0) ∧ V 5 MX6_open 104 [some (vR 5 0), some (vZ t), some (vZ x), some (vZ a), some (vZ l), some (vZ i), none] [vZ l] σ2 post from ⟨(by omega), ?_⟩)
        exact V_iret kX6_open rfl rfl (hp)
    | succ m ih =>
      intro i a l i0 i1 ha hl he C2 σ2 hk hc hC2
      unfold zOpn at he
      have hc3 := zPx_open (t := t) (v := i) hc i0 (by omega)
      rw [hC2] at hc3
      have hv3 := zPl_u3 hc3.1
      have hsb := zSvc_b (C := cOpen (aC S) t i) (cn (aC S)).toNat 0 0
      obtain ⟨n9, hn9⟩ : ∃ n : Int, n = zSvc (cOpen (aC S) t i) (cn (aC S)).toNat 0 0 := ⟨_, rfl⟩
      rw [← hn9] at he hsb
      refine V_run kX6_open 7 [0] (show (zr i ∧ zr 4 ∧ i < 4) ∧ V 5 MX6_open 50 [some (vR 5 0), some (vZ t), some (vZ x), some (vZ a), some (vZ l), some (vZ i), none] [vZ i, vZ t, vR 1 14] σ2 post from ⟨(by omega), ?_⟩)
      refine V_callV (a := [vZ t, vZ i]) (rest := []) kX6_open rfl oX2_setOpen iX2_setOpen lk_6_189 rfl rfl rfl (Nat.le_of_ble_eq_true rfl) (Nat.le_of_ble_eq_true rfl) (Nat.le_of_ble_eq_true rfl) (post' := fun zv zσ => V 5 MX6_open 53 [some (vR 5 0), some (vZ t), some (vZ x), some (vZ a), some (vZ l), some (vZ i), none] (zv.toList ++ []) zσ post) (c_P_setOpen (b := 14) zPz14 h1.1 (by omega) ((show V 5 MX6_open 53 [some (vR 5 0), some (vZ t), some (vZ x), some (vZ a), some (vZ l), some (vZ i), none] [] (uI σ2 17 t i) post from ?_))) (fun _ _ h => h)
      refine V_run kX6_open 5 [] (show V 5 MX6_open 62 [some (vR 5 0), some (vZ t), some (vZ x), some (vZ a), some (vZ l), some (vZ i), none] [vZ (-1), vR 1 14, vR 0 26] (uI σ2 17 t i) post from ?_)
      refine V_callV (a := [vR 1 14, vZ (-1)]) (rest := []) kX6_open rfl oX0_run iX0_run lk_6_182 rfl rfl rfl (Nat.le_of_ble_eq_true rfl) (Nat.le_of_ble_eq_true rfl) (Nat.le_of_ble_eq_true rfl) (post' := fun zv zσ => V 5 MX6_open 65 [some (vR 5 0), some (vZ t), some (vZ x), some (vZ a), some (vZ l), some (vZ i), none] (zv.toList ++ []) zσ post) (c_X_run zPz14 (by decide) hc3.1 (on_m1 hE (fun _ => rfl)) (fun σ4 hf4 hco4 => (show V 5 MX6_open 65 [some (vR 5 0), some (vZ t), some (vZ x), some (vZ a), some (vZ l), some (vZ i), none] [] σ4 post from ?_))) (fun _ _ h => h)
      refine V_run kX6_open 2 [] (show V 5 MX6_open 69 [some (vR 5 0), some (vZ t), some (vZ x), some (vZ a), some (vZ l), some (vZ i), none] [vR 0 26] σ4 post from ?_)
      have hk4 := (hk.tr (dTr_u (k := 17) (j := t) (v := i) (by decide))).tr hf4.d
      have hx4 := hf4.px (by decide) hc3
      refine V_callV (a := []) (rest := []) kX6_open rfl oX0_howManyServed iX0_howManyServed lk_6_192 rfl rfl rfl (Nat.le_of_ble_eq_true rfl) (Nat.le_of_ble_eq_true rfl) (Nat.le_of_ble_eq_true rfl) (post' := fun zv zσ => V 5 MX6_open 72 [some (vR 5 0), some (vZ t), some (vZ x), some (vZ a), some (vZ l), some (vZ i), none] (zv.toList ++ []) zσ post) (c_C_hms (b := 26) hv3 rfl rfl hco4 ((show V 5 MX6_open 72 [some (vR 5 0), some (vZ t), some (vZ x), some (vZ a), some (vZ l), some (vZ i), none] [vZ (zSvc (cOpen (aC S) t i) (cn (cOpen (aC S) t i)).toNat 0 0)] σ4 post from ?_))) (fun _ _ h => h)
      rw [show zSvc (cOpen (aC S) t i) (cn (cOpen (aC S) t i)).toNat 0 0 = n9 from hn9.symm]
      refine V_run kX6_open 3 [] (show V 5 MX6_open 78 [some (vR 5 0), some (vZ t), some (vZ x), some (vZ a), some (vZ l), some (vZ i), some (vZ n9)] [vZ l, vZ n9] σ4 post from ?_)
      have go := fun a2 l2 ha2 hl2 h2 => ih (i + 1) a2 l2 (by omega) (by omega) ha2 hl2 h2 _ σ4 hk4 hx4 (fun y => (show cOpen (cOpen (aC S) t i) t y = cOpen (aC S) t y by unfold cOpen; rw [fPut_fPut]))
      rcases Int.lt_or_le l n9 with h3 | h3
      · skip
        rw [if_pos h3] at he
        refine V_run kX6_open 7 [0] (show (zr n9 ∧ zr l ∧ l < n9) ∧ V 5 MX6_open 37 [some (vR 5 0), some (vZ t), some (vZ x), some (vZ i), some (vZ n9), some (vZ (i + 1)), some (vZ n9)] [] σ4 post from ⟨(by omega), ?_⟩)
        refine V_drop (L := [some (vR 5 0), some (vZ t), some (vZ x), some (vZ i), some (vZ n9), some (vZ (i + 1)), none]) ⟨rfl, ⟨rfl, ⟨rfl, ⟨rfl, ⟨rfl, ⟨rfl, trivial⟩⟩⟩⟩⟩⟩ ?_
        exact go _ _ (by omega) (by omega) he
      · skip
        rw [if_neg (by omega)] at he
        refine V_run kX6_open 3 [1] (show (zr n9 ∧ zr l ∧ n9 ≤ l) ∧ V 5 MX6_open 37 [some (vR 5 0), some (vZ t), some (vZ x), some (vZ a), some (vZ l), some (vZ (i + 1)), some (vZ n9)] [] σ4 post from ⟨(by omega), ?_⟩)
        refine V_drop (L := [some (vR 5 0), some (vZ t), some (vZ x), some (vZ a), some (vZ l), some (vZ (i + 1)), none]) ⟨rfl, ⟨rfl, ⟨rfl, ⟨rfl, ⟨rfl, ⟨rfl, trivial⟩⟩⟩⟩⟩⟩ ?_
        exact go _ _ (by omega) (by omega) he
  exact loop 4 0 (-1) (-1) (by omega) (by omega) (by omega) (by omega) hv.symm (aC S) _ dTr_take (zPx_take (by decide) hPx) (fun _ => rfl)
set_option maxHeartbeats 8000000 in
set_option maxRecDepth 100000 in
/-- let -/
theorem c_N_let {t x : Int} {S : zAb} {σ : zSt} {post : Option VV → zSt → Prop} (hR : RC σ S) (ho : aOk S) (ht : zr t) (hx : zr x) (hp : ∀ σ', dK σ σ' → RC σ' S → post (some (vZ (aLet S t x))) σ') : Mc 5 MX6_let [vR 5 0, vZ t, vZ x] σ post := by
  have hok := aC_ok ho
  have hcn := hok.1
  obtain ⟨hT, hPx, hCo, hG, hS, hK, hF⟩ := id hR
  show V 5 MX6_let 0 [some (vR 5 0), some (vZ t), some (vZ x), none, none, none, none] [] σ post
  refine V_run kX6_let 1 [] (show V 5 MX6_let 1 [some (vR 5 0), some (vZ t), some (vZ x), none, none, none, none] [vZ t] σ post from ?_)
  refine V_callS (a := [vZ t]) (rest := []) kX6_let rfl oX6_isMinute iX6_isMinute lk_6_105 rfl rfl (Nat.le_of_ble_eq_true rfl) (Nat.le_of_ble_eq_true rfl) (Nat.le_of_ble_eq_true rfl) (post' := fun zv zσ => V 5 MX6_let 4 [some (vR 5 0), some (vZ t), some (vZ x), none, none, none, none] (zv.toList ++ []) zσ post) (c_N_isMinute (by omega) ((show V 5 MX6_let 4 [some (vR 5 0), some (vZ t), some (vZ x), none, none, none, none] [vZ (if 0 ≤ t ∧ t ≤ 23 then 1 else 0)] σ post from ?_))) (fun _ _ h => h)
  by_cases h1 : 0 ≤ t ∧ t ≤ 23
  rotate_left
  · skip
    refine V_top (if_neg h1) ?_
    refine V_run kX6_let 2 [1] (show (zr 0 ∧ 0 = 0) ∧ V 5 MX6_let 17 [some (vR 5 0), some (vZ t), some (vZ x), none, none, none, none] [vZ (-2)] σ post from ⟨(by omega), ?_⟩)
    have e9 : aLet S t x = -2 := if_neg (by omega)
    rw [e9] at hp
    exact V_iret kX6_let rfl rfl (hp σ dK.rf hR)
  refine V_top (if_pos h1) ?_
  refine V_run kX6_let 3 [0] (show (zr 1 ∧ ¬ 1 = 0) ∧ V 5 MX6_let 9 [some (vR 5 0), some (vZ t), some (vZ x), none, none, none, none] [vZ 1, vZ x] σ post from ⟨(by omega), ?_⟩)
  refine V_callS (a := [vZ x, vZ 1]) (rest := []) kX6_let rfl oX6_isFrom0To iX6_isFrom0To lk_6_91 rfl rfl (Nat.le_of_ble_eq_true rfl) (Nat.le_of_ble_eq_true rfl) (Nat.le_of_ble_eq_true rfl) (post' := fun zv zσ => V 5 MX6_let 12 [some (vR 5 0), some (vZ t), some (vZ x), none, none, none, none] (zv.toList ++ []) zσ post) (c_N_from (by omega) (by omega) ((show V 5 MX6_let 12 [some (vR 5 0), some (vZ t), some (vZ x), none, none, none, none] [vZ (if 0 ≤ x ∧ x ≤ 1 then 1 else 0)] σ post from ?_))) (fun _ _ h => h)
  by_cases h2 : 0 ≤ x ∧ x ≤ 1
  rotate_left
  · skip
    refine V_top (if_neg h2) ?_
    refine V_run kX6_let 2 [0] (show (zr 0 ∧ 0 = 0) ∧ V 5 MX6_let 17 [some (vR 5 0), some (vZ t), some (vZ x), none, none, none, none] [vZ (-2)] σ post from ⟨(by omega), ?_⟩)
    have e9 : aLet S t x = -2 := if_neg (by omega)
    rw [e9] at hp
    exact V_iret kX6_let rfl rfl (hp σ dK.rf hR)
  refine V_top (if_pos h2) ?_
  refine V_run kX6_let 9 [1] (show (zr 1 ∧ ¬ 1 = 0) ∧ V 5 MX6_let 31 [some (vR 5 0), some (vZ t), some (vZ x), some (vZ (-1)), some (vZ (-1)), none, none] [vR 1 5, vR 1 14] σ post from ⟨(by omega), ?_⟩)
  have e9 : aLet S t x = zPick (zLet (aC S) t (cn (aC S)).toNat 0 (-1) (-1)) x := if_pos ⟨h1, h2⟩
  rw [e9] at hp
  obtain ⟨v, hv⟩ : ∃ v : Int, v = zPick (zLet (aC S) t (cn (aC S)).toNat 0 (-1) (-1)) x := ⟨_, rfl⟩
  rw [← hv] at hp
  have hE8 : cE (aC S) ≤ 8 := ho.2.2.1.2.1
  have hE0 : 0 ≤ cE (aC S) := ho.2.2.1.1
  refine V_callV (a := [vR 1 5]) (rest := []) kX6_let rfl oX2_take iX2_take lk_6_174 rfl rfl rfl (Nat.le_of_ble_eq_true rfl) (Nat.le_of_ble_eq_true rfl) (Nat.le_of_ble_eq_true rfl) (post' := fun zv zσ => V 5 MX6_let 34 [some (vR 5 0), some (vZ t), some (vZ x), some (vZ (-1)), some (vZ (-1)), none, none] (zv.toList ++ []) zσ post) (c_P_take (b := 14) (a := 5) zPz14 zPz5 ((show V 5 MX6_let 34 [some (vR 5 0), some (vZ t), some (vZ x), some (vZ (-1)), some (vZ (-1)), none, none] [] (sTake σ 14 5) post from ?_))) (fun _ _ h => h)
  refine V_run kX6_let 2 [] (show V 5 MX6_let 37 [some (vR 5 0), some (vZ t), some (vZ x), some (vZ (-1)), some (vZ (-1)), some (vZ 0), none] [] (sTake σ 14 5) post from ?_)
  have loop : ∀ (m : Nat) (i a l : Int), 0 ≤ i → i + m = cn (aC S) → (-1 ≤ a ∧ a ≤ 23) → (-1 ≤ l ∧ l ≤ 24) → zPick (zLet (aC S) t m i a l) x = v → ∀ (σ2 : zSt), dTr σ σ2 → zPx σ2 14 (aC S) → V 5 MX6_let 37 [some (vR 5 0), some (vZ t), some (vZ x), some (vZ a), some (vZ l), some (vZ i), none] [] σ2 post := by
    intro m
    induction m with
    | zero =>
      intro i a l i0 i1 ha hl he σ2 hk hc
      unfold zLet at he
      have hp := hp σ2 hk.k (RC_tr hk hR)
      refine V_run kX6_let 3 [] (show V 5 MX6_let 43 [some (vR 5 0), some (vZ t), some (vZ x), some (vZ a), some (vZ l), some (vZ i), none] [vR 1 5, vZ i] σ2 post from ?_)
      refine V_callV (a := []) (rest := [vZ i]) kX6_let rfl oX2_people iX2_people lk_6_168 rfl rfl rfl (Nat.le_of_ble_eq_true rfl) (Nat.le_of_ble_eq_true rfl) (Nat.le_of_ble_eq_true rfl) (post' := fun zv zσ => V 5 MX6_let 46 [some (vR 5 0), some (vZ t), some (vZ x), some (vZ a), some (vZ l), some (vZ i), none] (zv.toList ++ [vZ i]) zσ post) (c_P_people (b := 5) ((show V 5 MX6_let 46 [some (vR 5 0), some (vZ t), some (vZ x), some (vZ a), some (vZ l), some (vZ i), none] [vZ (σ2.1 5 0), vZ i] σ2 post from ?_))) (fun _ _ h => h)
      refine V_top ((show σ2.1 5 0 = σ.1 5 0 by rw [(hk 5 (by omega)).1]).trans hPx.1.1) ?_
      refine V_run kX6_let 2 [1] (show (zr i ∧ zr (cn (aC S)) ∧ (cn (aC S)) ≤ i) ∧ V 5 MX6_let 110 [some (vR 5 0), some (vZ t), some (vZ x), some (vZ a), some (vZ l), some (vZ i), none] [vZ x] σ2 post from ⟨(by omega), ?_⟩)
      unfold zPick at he
      by_cases h3 : x = 0
      · skip
        rw [if_pos h3] at he
        rw [← he] at hp
        refine V_run kX6_let 3 [0] (show (zr x ∧ x = 0) ∧ V 5 MX6_let 119 [some (vR 5 0), some (vZ t), some (vZ x), some (vZ a), some (vZ l), some (vZ i), none] [vZ a] σ2 post from ⟨(by omega), ?_⟩)
        exact V_iret kX6_let rfl rfl (hp)
      · skip
        rw [if_neg h3] at he
        rw [← he] at hp
        refine V_run kX6_let 2 [1] (show (zr x ∧ ¬ x = 0) ∧ V 5 MX6_let 119 [some (vR 5 0), some (vZ t), some (vZ x), some (vZ a), some (vZ l), some (vZ i), none] [vZ l] σ2 post from ⟨(by omega), ?_⟩)
        exact V_iret kX6_let rfl rfl (hp)
    | succ m ih =>
      intro i a l i0 i1 ha hl he σ2 hk hc
      unfold zLet at he
      have hc3 : zPx (sAdd σ2 14 (cE (aC S)) 1 t i) 14 (cLet (aC S) t i) := zPx_add (v := 1) (t := t) (p := i) hc hE8 (by decide) (by decide) h1.1 (by omega) i0 (by omega)
      have hv3 := zPl_u3 hc3.1
      have hsb := zSvc_b (C := cLet (aC S) t i) (cn (aC S)).toNat 0 0
      obtain ⟨n9, hn9⟩ : ∃ n : Int, n = zSvc (cLet (aC S) t i) (cn (aC S)).toNat 0 0 := ⟨_, rfl⟩
      rw [← hn9] at he hsb
      refine V_run kX6_let 3 [] (show V 5 MX6_let 43 [some (vR 5 0), some (vZ t), some (vZ x), some (vZ a), some (vZ l), some (vZ i), none] [vR 1 5, vZ i] σ2 post from ?_)
      refine V_callV (a := []) (rest := [vZ i]) kX6_let rfl oX2_people iX2_people lk_6_168 rfl rfl rfl (Nat.le_of_ble_eq_true rfl) (Nat.le_of_ble_eq_true rfl) (Nat.le_of_ble_eq_true rfl) (post' := fun zv zσ => V 5 MX6_let 46 [some (vR 5 0), some (vZ t), some (vZ x), some (vZ a), some (vZ l), some (vZ i), none] (zv.toList ++ [vZ i]) zσ post) (c_P_people (b := 5) ((show V 5 MX6_let 46 [some (vR 5 0), some (vZ t), some (vZ x), some (vZ a), some (vZ l), some (vZ i), none] [vZ (σ2.1 5 0), vZ i] σ2 post from ?_))) (fun _ _ h => h)
      refine V_top ((show σ2.1 5 0 = σ.1 5 0 by rw [(hk 5 (by omega)).1]).trans hPx.1.1) ?_
      refine V_run kX6_let 6 [0] (show (zr i ∧ zr (cn (aC S)) ∧ i < (cn (aC S))) ∧ V 5 MX6_let 57 [some (vR 5 0), some (vZ t), some (vZ x), some (vZ a), some (vZ l), some (vZ i), none] [vZ i, vZ t, vZ 1, vR 1 14] σ2 post from ⟨(by omega), ?_⟩)
      refine V_callV (a := [vZ 1, vZ t, vZ i]) (rest := []) kX6_let rfl oX2_addEvent iX2_addEvent lk_6_195 rfl rfl rfl (Nat.le_of_ble_eq_true rfl) (Nat.le_of_ble_eq_true rfl) (Nat.le_of_ble_eq_true rfl) (post' := fun zv zσ => V 5 MX6_let 60 [some (vR 5 0), some (vZ t), some (vZ x), some (vZ a), some (vZ l), some (vZ i), none] (zv.toList ++ []) zσ post) (c_P_addEvent (b := 14) zPz14 hc.1.2.1 hE0 (by omega) h1.1 (by omega) ((show V 5 MX6_let 60 [some (vR 5 0), some (vZ t), some (vZ x), some (vZ a), some (vZ l), some (vZ i), none] [] (sAdd σ2 14 (cE (aC S)) 1 t i) post from ?_))) (fun _ _ h => h)
      refine V_run kX6_let 5 [] (show V 5 MX6_let 69 [some (vR 5 0), some (vZ t), some (vZ x), some (vZ a), some (vZ l), some (vZ i), none] [vZ (-1), vR 1 14, vR 0 26] (sAdd σ2 14 (cE (aC S)) 1 t i) post from ?_)
      refine V_callV (a := [vR 1 14, vZ (-1)]) (rest := []) kX6_let rfl oX0_run iX0_run lk_6_182 rfl rfl rfl (Nat.le_of_ble_eq_true rfl) (Nat.le_of_ble_eq_true rfl) (Nat.le_of_ble_eq_true rfl) (post' := fun zv zσ => V 5 MX6_let 72 [some (vR 5 0), some (vZ t), some (vZ x), some (vZ a), some (vZ l), some (vZ i), none] (zv.toList ++ []) zσ post) (c_X_run zPz14 (by decide) hc3.1 (on_m1 (show cE (aC S) + 1 ≤ 9 by omega) (fun _ => rfl)) (fun σ4 hf4 hco4 => (show V 5 MX6_let 72 [some (vR 5 0), some (vZ t), some (vZ x), some (vZ a), some (vZ l), some (vZ i), none] [] σ4 post from ?_))) (fun _ _ h => h)
      refine V_run kX6_let 2 [] (show V 5 MX6_let 76 [some (vR 5 0), some (vZ t), some (vZ x), some (vZ a), some (vZ l), some (vZ i), none] [vR 1 14] σ4 post from ?_)
      have hk4 := (hk.tr (dTr_add (e := cE (aC S)) (v := 1) (t := t) (p := i))).tr hf4.d
      have hx4 := hf4.px (by decide) hc3
      have hx5 := zPx_drop hx4 (show 0 < cE (aC S) + 1 by omega)
      have e5 : cE (cLet (aC S) t i) - 1 = cE (aC S) := by show cE (aC S) + 1 - 1 = _; omega
      rw [e5] at hx5
      have hmi : σ4.1 (14 + 5) (cE (aC S)) = t := ((hx4.1.2.2.2.2.2.1 (cE (aC S)) hE0 (show cE (aC S) < cE (aC S) + 1 by omega)).2.1).trans (by show fPut (cMi (aC S)) (cE (aC S)) t (cE (aC S)) = t; rw [fPut_at, if_pos rfl])
      have hx6 : zPx (sDrop σ4 14 (cE (aC S))) 14 (aC S) := ⟨zPl_ext hx5.1 rfl e5.symm (fun k a b => ⟨rfl, rfl, rfl⟩) (fun t a b => rfl) (fun e a b => by
        have b : e < cE (cLet (aC S) t i) - 1 := b
        rw [e5] at b
        show cKi (aC S) e = fPut (cKi (aC S)) (cE (aC S)) 1 e ∧ cMi (aC S) e = fPut (cMi (aC S)) (cE (aC S)) t e ∧ cPe (aC S) e = fPut (cPe (aC S)) (cE (aC S)) i e
        rw [fPut_at, fPut_at, fPut_at, if_neg (by omega), if_neg (by omega), if_neg (by omega)]
        exact ⟨rfl, rfl, rfl⟩), hx5.2⟩
      have hco5 : zCo (sDrop σ4 14 (cE (aC S))) 26 (cLet (aC S) t i) 24 := zCo_cong (by unfold sDrop; rw [uI_ne (by decide), uI_ne (by decide)]) rfl rfl rfl hco4
      refine V_callV (a := []) (rest := []) kX6_let rfl oX2_dropEvent iX2_dropEvent lk_6_118 rfl rfl rfl (Nat.le_of_ble_eq_true rfl) (Nat.le_of_ble_eq_true rfl) (Nat.le_of_ble_eq_true rfl) (post' := fun zv zσ => V 5 MX6_let 79 [some (vR 5 0), some (vZ t), some (vZ x), some (vZ a), some (vZ l), some (vZ i), none] (zv.toList ++ []) zσ post) (c_P_dropEvent (b := 14) zPz14 (show σ4.1 14 5 = cE (aC S) + 1 from hx4.1.2.1) hE0 (by omega) (by rw [hmi]; exact h1.1) (by rw [hmi]; omega) ((show V 5 MX6_let 79 [some (vR 5 0), some (vZ t), some (vZ x), some (vZ a), some (vZ l), some (vZ i), none] [vZ 1] (sDrop σ4 14 (cE (aC S))) post from ?_))) (fun _ _ h => h)
      refine V_run kX6_let 3 [] (show V 5 MX6_let 84 [some (vR 5 0), some (vZ t), some (vZ x), some (vZ a), some (vZ l), some (vZ i), none] [vR 0 26] (sDrop σ4 14 (cE (aC S))) post from ?_)
      refine V_callV (a := []) (rest := []) kX6_let rfl oX0_howManyServed iX0_howManyServed lk_6_192 rfl rfl rfl (Nat.le_of_ble_eq_true rfl) (Nat.le_of_ble_eq_true rfl) (Nat.le_of_ble_eq_true rfl) (post' := fun zv zσ => V 5 MX6_let 87 [some (vR 5 0), some (vZ t), some (vZ x), some (vZ a), some (vZ l), some (vZ i), none] (zv.toList ++ []) zσ post) (c_C_hms (b := 26) hv3 rfl rfl hco5 ((show V 5 MX6_let 87 [some (vR 5 0), some (vZ t), some (vZ x), some (vZ a), some (vZ l), some (vZ i), none] [vZ (zSvc (cLet (aC S) t i) (cn (cLet (aC S) t i)).toNat 0 0)] (sDrop σ4 14 (cE (aC S))) post from ?_))) (fun _ _ h => h)
      rw [show zSvc (cLet (aC S) t i) (cn (cLet (aC S) t i)).toNat 0 0 = n9 from hn9.symm]
      refine V_run kX6_let 3 [] (show V 5 MX6_let 93 [some (vR 5 0), some (vZ t), some (vZ x), some (vZ a), some (vZ l), some (vZ i), some (vZ n9)] [vZ l, vZ n9] (sDrop σ4 14 (cE (aC S))) post from ?_)
      have go := fun a2 l2 ha2 hl2 h2 => ih (i + 1) a2 l2 (by omega) (by omega) ha2 hl2 h2 _ (hk4.tr dTr_drop) hx6
      rcases Int.lt_or_le l n9 with h3 | h3
      · skip
        rw [if_pos h3] at he
        refine V_run kX6_let 7 [0] (show (zr n9 ∧ zr l ∧ l < n9) ∧ V 5 MX6_let 37 [some (vR 5 0), some (vZ t), some (vZ x), some (vZ i), some (vZ n9), some (vZ (i + 1)), some (vZ n9)] [] (sDrop σ4 14 (cE (aC S))) post from ⟨(by omega), ?_⟩)
        refine V_drop (L := [some (vR 5 0), some (vZ t), some (vZ x), some (vZ i), some (vZ n9), some (vZ (i + 1)), none]) ⟨rfl, ⟨rfl, ⟨rfl, ⟨rfl, ⟨rfl, ⟨rfl, trivial⟩⟩⟩⟩⟩⟩ ?_
        exact go _ _ (by omega) (by omega) he
      · skip
        rw [if_neg (by omega)] at he
        refine V_run kX6_let 3 [1] (show (zr n9 ∧ zr l ∧ n9 ≤ l) ∧ V 5 MX6_let 37 [some (vR 5 0), some (vZ t), some (vZ x), some (vZ a), some (vZ l), some (vZ (i + 1)), some (vZ n9)] [] (sDrop σ4 14 (cE (aC S))) post from ⟨(by omega), ?_⟩)
        refine V_drop (L := [some (vR 5 0), some (vZ t), some (vZ x), some (vZ a), some (vZ l), some (vZ (i + 1)), none]) ⟨rfl, ⟨rfl, ⟨rfl, ⟨rfl, ⟨rfl, ⟨rfl, trivial⟩⟩⟩⟩⟩⟩ ?_
        exact go _ _ (by omega) (by omega) he
  exact loop (cn (aC S)).toNat 0 (-1) (-1) (by omega) (by omega) (by omega) (by omega) hv.symm _ dTr_take (zPx_take (by decide) hPx)
