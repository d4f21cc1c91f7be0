theorem fPut_self {f : Int → Int} {k v : Int} (h : v = f k) : fPut f k v = f := by
  funext j; rw [fPut_at]; by_cases z : j = k
  · rw [if_pos z, z, h]
  · rw [if_neg z]
/-- the day of the first n events drawn -/
def cDk (C : zCf) (s : Int) (n : Nat) : zCf := (cn C, (n : Int), cCm C, cSo C, cPa C, cWi C, fun e => zushr (zSee s (3 * e.toNat + 1)) 16 % 3, fun e => zushr (zSee s (3 * e.toNat + 2)) 16 % 24, fun e => zushr (zSee s (3 * e.toNat + 3)) 16 % cn C, cOn C)
theorem cDk_s {C : zCf} {s : Int} {n : Nat} : cAdd (cDk C s n) (zushr (zSee s (3 * n + 1)) 16 % 3) (zushr (zSee s (3 * n + 2)) 16 % 24) (zushr (zSee s (3 * n + 3)) 16 % cn C) = cDk C s (n + 1) := by
  show (cn C, ((n : Int) + 1), cCm C, cSo C, cPa C, cWi C, fPut (fun e => zushr (zSee s (3 * e.toNat + 1)) 16 % 3) (n : Int) _, fPut (fun e => zushr (zSee s (3 * e.toNat + 2)) 16 % 24) (n : Int) _, fPut (fun e => zushr (zSee s (3 * e.toNat + 3)) 16 % cn C) (n : Int) _, cOn C) = _
  rw [fPut_self (by show _ = zushr (zSee s (3 * ((n : Int)).toNat + 1)) 16 % 3; rw [Int.toNat_natCast]), fPut_self (by show _ = zushr (zSee s (3 * ((n : Int)).toNat + 2)) 16 % 24; rw [Int.toNat_natCast]), fPut_self (by show _ = zushr (zSee s (3 * ((n : Int)).toNat + 3)) 16 % cn C; rw [Int.toNat_natCast])]
  rfl
theorem dTr_none {σ : zSt} : dTr σ (uI (fZero σ (14 + 8) 24) 14 5 0) := fun a x => ⟨by rw [uI_ne (by omega), fZero_ne (by omega)], rfl⟩
set_option maxHeartbeats 4000000 in
set_option maxRecDepth 100000 in
/-- nextSeed -/
theorem c_N_seed {s : Int} {σ : zSt} {post : Option VV → zSt → Prop} (hp : post (some (vZ (1103515245 * s + 12345))) σ) : Mc 0 MX6_nextSeed [vZ s] σ post := by
  show V 0 MX6_nextSeed 0 [some (vZ s)] [] σ post
  refine V_run kX6_nextSeed 5 [] (show V 0 MX6_nextSeed 9 [some (vZ s)] [vZ ((1103515245 * s) + 12345)] σ post from ?_)
  exact V_iret kX6_nextSeed rfl rfl (hp)
set_option maxHeartbeats 4000000 in
set_option maxRecDepth 100000 in
/-- lot -/
theorem c_N_lot {s m : Int} {σ : zSt} {post : Option VV → zSt → Prop} (h0 : 0 < m) (h1 : m < 2147483648) (hp : post (some (vZ (zushr s 16 % m))) σ) : Mc 0 MX6_lot [vZ s, vZ m] σ post := by
  have h9 := zush16 s
  show V 0 MX6_lot 0 [some (vZ s), some (vZ m)] [] σ post
  refine V_run kX6_lot 8 [0] (show (zr m ∧ 0 < m) ∧ (0 ≤ (zushr s 16) ∧ (zushr s 16) < 2147483648 ∧ 0 < m ∧ m < 2147483648) ∧ V 0 MX6_lot 14 [some (vZ s), some (vZ m)] [vZ ((zushr s 16) % m)] σ post from ⟨(by omega), (by omega), ?_⟩)
  exact V_iret kX6_lot rfl rfl (hp)
set_option maxHeartbeats 8000000 in
set_option maxRecDepth 100000 in
/-- decades -/
theorem c_N_decades {s n x : Int} {S : zAb} {σ : zSt} {post : Option VV → zSt → Prop} (hR : RC σ S) (ho : aOk S) (hn : zr n) (hx : zr x) (hp : ∀ σ', dK σ σ' → RC σ' S → post (some (vZ (aDec S s n x))) σ') : Mc 5 MX6_decades [vR 5 0, vZ s, vZ n, vZ x] σ post := by
  have hok := aC_ok ho
  have hcn := hok.1
  obtain ⟨hT, hPx, hCo, hG, hS, hK, hF⟩ := id hR
  show V 5 MX6_decades 0 [some (vR 5 0), some (vZ s), some (vZ n), some (vZ x), none, none, none, none, none] [] σ post
  refine V_run kX6_decades 2 [] (show V 5 MX6_decades 3 [some (vR 5 0), some (vZ s), some (vZ n), some (vZ x), none, none, none, none, none] [vZ 8, vZ n] σ post from ?_)
  refine V_callS (a := [vZ n, vZ 8]) (rest := []) kX6_decades rfl oX6_isFrom0To iX6_isFrom0To lk_6_91 rfl rfl (Nat.le_of_ble_eq_true rfl) (Nat.le_of_ble_eq_true rfl) (Nat.le_of_ble_eq_true rfl) (post' := fun zv zσ => V 5 MX6_decades 6 [some (vR 5 0), some (vZ s), some (vZ n), some (vZ x), none, none, none, none, none] (zv.toList ++ []) zσ post) (c_N_from (by omega) (by omega) ((show V 5 MX6_decades 6 [some (vR 5 0), some (vZ s), some (vZ n), some (vZ x), none, none, none, none, none] [vZ (if 0 ≤ n ∧ n ≤ 8 then 1 else 0)] σ post from ?_))) (fun _ _ h => h)
  by_cases h1 : 0 ≤ n ∧ n ≤ 8
  rotate_left
  · skip
    refine V_top (if_neg h1) ?_
    refine V_run kX6_decades 2 [1] (show (zr 0 ∧ 0 = 0) ∧ V 5 MX6_decades 19 [some (vR 5 0), some (vZ s), some (vZ n), some (vZ x), none, none, none, none, none] [vZ (-2)] σ post from ⟨(by omega), ?_⟩)
    have e9 : aDec S s n x = -2 := if_neg (by omega)
    rw [e9] at hp
    exact V_iret kX6_decades rfl rfl (hp σ dK.rf hR)
  refine V_top (if_pos h1) ?_
  refine V_run kX6_decades 3 [0] (show (zr 1 ∧ ¬ 1 = 0) ∧ V 5 MX6_decades 11 [some (vR 5 0), some (vZ s), some (vZ n), some (vZ x), none, none, none, none, none] [vZ 1, vZ x] σ post from ⟨(by omega), ?_⟩)
  refine V_callS (a := [vZ x, vZ 1]) (rest := []) kX6_decades rfl oX6_isFrom0To iX6_isFrom0To lk_6_91 rfl rfl (Nat.le_of_ble_eq_true rfl) (Nat.le_of_ble_eq_true rfl) (Nat.le_of_ble_eq_true rfl) (post' := fun zv zσ => V 5 MX6_decades 14 [some (vR 5 0), some (vZ s), some (vZ n), some (vZ x), none, none, none, none, none] (zv.toList ++ []) zσ post) (c_N_from (by omega) (by omega) ((show V 5 MX6_decades 14 [some (vR 5 0), some (vZ s), some (vZ n), some (vZ x), none, none, none, none, none] [vZ (if 0 ≤ x ∧ x ≤ 1 then 1 else 0)] σ post from ?_))) (fun _ _ h => h)
  by_cases h2 : 0 ≤ x ∧ x ≤ 1
  rotate_left
  · skip
    refine V_top (if_neg h2) ?_
    refine V_run kX6_decades 2 [0] (show (zr 0 ∧ 0 = 0) ∧ V 5 MX6_decades 19 [some (vR 5 0), some (vZ s), some (vZ n), some (vZ x), none, none, none, none, none] [vZ (-2)] σ post from ⟨(by omega), ?_⟩)
    have e9 : aDec S s n x = -2 := if_neg (by omega)
    rw [e9] at hp
    exact V_iret kX6_decades rfl rfl (hp σ dK.rf hR)
  refine V_top (if_pos h2) ?_
  refine V_run kX6_decades 5 [1] (show (zr 1 ∧ ¬ 1 = 0) ∧ V 5 MX6_decades 28 [some (vR 5 0), some (vZ s), some (vZ n), some (vZ x), none, none, none, none, none] [vR 1 5, vR 1 14] σ post from ⟨(by omega), ?_⟩)
  have e9 : aDec S s n x = if x = 0 then zSvc (cDec (aC S) s n) (cn (aC S)).toNat 0 0 else dn (zD (cDec (aC S) s n) 23) := if_pos ⟨h1, h2⟩
  rw [e9] at hp
  refine V_callV (a := [vR 1 5]) (rest := []) kX6_decades rfl oX2_take iX2_take lk_6_174 rfl rfl rfl (Nat.le_of_ble_eq_true rfl) (Nat.le_of_ble_eq_true rfl) (Nat.le_of_ble_eq_true rfl) (post' := fun zv zσ => V 5 MX6_decades 31 [some (vR 5 0), some (vZ s), some (vZ n), some (vZ x), none, none, none, none, none] (zv.toList ++ []) zσ post) (c_P_take (b := 14) (a := 5) zPz14 zPz5 ((show V 5 MX6_decades 31 [some (vR 5 0), some (vZ s), some (vZ n), some (vZ x), none, none, none, none, none] [] (sTake σ 14 5) post from ?_))) (fun _ _ h => h)
  refine V_run kX6_decades 2 [] (show V 5 MX6_decades 35 [some (vR 5 0), some (vZ s), some (vZ n), some (vZ x), none, none, none, none, none] [vR 1 14] (sTake σ 14 5) post from ?_)
  refine V_callV (a := []) (rest := []) kX6_decades rfl oX2_dropEvents iX2_dropEvents lk_6_242 rfl rfl rfl (Nat.le_of_ble_eq_true rfl) (Nat.le_of_ble_eq_true rfl) (Nat.le_of_ble_eq_true rfl) (post' := fun zv zσ => V 5 MX6_decades 38 [some (vR 5 0), some (vZ s), some (vZ n), some (vZ x), none, none, none, none, none] (zv.toList ++ []) zσ post) (c_P_dropEvents (b := 14) zPz14 ((show V 5 MX6_decades 38 [some (vR 5 0), some (vZ s), some (vZ n), some (vZ x), none, none, none, none, none] [] (uI (fZero (sTake σ 14 5) (14 + 8) 24) 14 5 0) post from ?_))) (fun _ _ h => h)
  obtain ⟨σ2, hσ2⟩ : ∃ q, q = uI (fZero (sTake σ 14 5) (14 + 8) 24) 14 5 0 := ⟨_, rfl⟩
  have hk2 : dTr σ σ2 := by rw [hσ2]; exact dTr_take.tr dTr_none
  have hx2 : zPx σ2 14 (cDk (aC S) s 0) := by
    have z := zPx_none (zPx_take (b := 14) (by decide) hPx)
    rw [hσ2]
    exact ⟨zPl_ext z.1 rfl rfl (fun k a b => ⟨rfl, rfl, rfl⟩) (fun t a b => rfl) (fun e a b => absurd b (by show ¬ e < 0; omega)), z.2⟩
  rw [← hσ2]
  show V 5 MX6_decades 38 [some (vR 5 0), some (vZ s), some (vZ n), some (vZ x), none, none, none, none, none] [] σ2 post
  refine V_run kX6_decades 2 [] (show V 5 MX6_decades 42 [some (vR 5 0), some (vZ s), some (vZ n), some (vZ x), none, none, none, none, none] [vR 1 5] σ2 post from ?_)
  refine V_callV (a := []) (rest := []) kX6_decades rfl oX2_people iX2_people lk_6_168 rfl rfl rfl (Nat.le_of_ble_eq_true rfl) (Nat.le_of_ble_eq_true rfl) (Nat.le_of_ble_eq_true rfl) (post' := fun zv zσ => V 5 MX6_decades 45 [some (vR 5 0), some (vZ s), some (vZ n), some (vZ x), none, none, none, none, none] (zv.toList ++ []) zσ post) (c_P_people (b := 5) ((show V 5 MX6_decades 45 [some (vR 5 0), some (vZ s), some (vZ n), some (vZ x), none, none, none, none, none] [vZ (σ2.1 5 0)] σ2 post from ?_))) (fun _ _ h => h)
  refine V_top ((show σ2.1 5 0 = σ.1 5 0 by rw [(hk2 5 (by omega)).1]).trans hPx.1.1) ?_
  refine V_run kX6_decades 5 [] (show V 5 MX6_decades 53 [some (vR 5 0), some (vZ s), some (vZ n), some (vZ x), some (vZ (cn (aC S))), some (vZ s), some (vZ 0), none, none] [] σ2 post from ?_)
  have last : ∀ (k : Nat) (σ3 : zSt), cDk (aC S) s k = cDec (aC S) s n → k ≤ 8 → dTr σ σ3 → zPx σ3 14 (cDk (aC S) s k) → V 5 MX6_decades 126 [some (vR 5 0), some (vZ s), some (vZ n), some (vZ x), some (vZ (cn (aC S))), some (vZ (zSee s (3 * k))), some (vZ (k : Int)), none, none] [] σ3 post := by
    intro k σ3 ek hk8 hk hx
    rw [ek] at hx
    have hv3 := zPl_u3 hx.1
    have hE3 : cE (cDec (aC S) s n) ≤ 9 := hv3.2.1.2
    refine V_run kX6_decades 5 [] (show V 5 MX6_decades 135 [some (vR 5 0), some (vZ s), some (vZ n), some (vZ x), some (vZ (cn (aC S))), some (vZ (zSee s (3 * k))), some (vZ (k : Int)), none, none] [vZ (-1), vR 1 14, vR 0 26] σ3 post from ?_)
    refine V_callV (a := [vR 1 14, vZ (-1)]) (rest := []) kX6_decades rfl oX0_run iX0_run lk_6_182 rfl rfl rfl (Nat.le_of_ble_eq_true rfl) (Nat.le_of_ble_eq_true rfl) (Nat.le_of_ble_eq_true rfl) (post' := fun zv zσ => V 5 MX6_decades 138 [some (vR 5 0), some (vZ s), some (vZ n), some (vZ x), some (vZ (cn (aC S))), some (vZ (zSee s (3 * k))), some (vZ (k : Int)), none, none] (zv.toList ++ []) zσ post) (c_X_run zPz14 (by decide) hx.1 (on_m1 hE3 (fun _ => rfl)) (fun σ4 hf4 hco4 => (show V 5 MX6_decades 138 [some (vR 5 0), some (vZ s), some (vZ n), some (vZ x), some (vZ (cn (aC S))), some (vZ (zSee s (3 * k))), some (vZ (k : Int)), none, none] [] σ4 post from ?_))) (fun _ _ h => h)
    have hk4 := hk.tr hf4.d
    have hp := hp σ4 hk4.k (RC_tr hk4 hR)
    refine V_run kX6_decades 1 [] (show V 5 MX6_decades 139 [some (vR 5 0), some (vZ s), some (vZ n), some (vZ x), some (vZ (cn (aC S))), some (vZ (zSee s (3 * k))), some (vZ (k : Int)), none, none] [vZ x] σ4 post from ?_)
    by_cases h3 : x = 0
    · skip
      rw [if_pos h3] at hp
      refine V_run kX6_decades 3 [0] (show (zr x ∧ x = 0) ∧ V 5 MX6_decades 146 [some (vR 5 0), some (vZ s), some (vZ n), some (vZ x), some (vZ (cn (aC S))), some (vZ (zSee s (3 * k))), some (vZ (k : Int)), none, none] [vR 0 26] σ4 post from ⟨(by omega), ?_⟩)
      refine V_callV (a := []) (rest := []) kX6_decades rfl oX0_howManyServed iX0_howManyServed lk_6_192 rfl rfl rfl (Nat.le_of_ble_eq_true rfl) (Nat.le_of_ble_eq_true rfl) (Nat.le_of_ble_eq_true rfl) (post' := fun zv zσ => V 5 MX6_decades 149 [some (vR 5 0), some (vZ s), some (vZ n), some (vZ x), some (vZ (cn (aC S))), some (vZ (zSee s (3 * k))), some (vZ (k : Int)), none, none] (zv.toList ++ []) zσ post) (c_C_hms (b := 26) hv3 rfl rfl hco4 ((show V 5 MX6_decades 149 [some (vR 5 0), some (vZ s), some (vZ n), some (vZ x), some (vZ (cn (aC S))), some (vZ (zSee s (3 * k))), some (vZ (k : Int)), none, none] [vZ (zSvc (cDec (aC S) s n) (cn (cDec (aC S) s n)).toNat 0 0)] σ4 post from ?_))) (fun _ _ h => h)
      refine V_run kX6_decades 1 [] (show V 5 MX6_decades 161 [some (vR 5 0), some (vZ s), some (vZ n), some (vZ x), some (vZ (cn (aC S))), some (vZ (zSee s (3 * k))), some (vZ (k : Int)), none, none] [vZ (zSvc (cDec (aC S) s n) (cn (cDec (aC S) s n)).toNat 0 0)] σ4 post from ?_)
      exact V_iret kX6_decades rfl rfl (hp)
    · skip
      rw [if_neg h3] at hp
      refine V_run kX6_decades 4 [1] (show (zr x ∧ ¬ x = 0) ∧ V 5 MX6_decades 158 [some (vR 5 0), some (vZ s), some (vZ n), some (vZ x), some (vZ (cn (aC S))), some (vZ (zSee s (3 * k))), some (vZ (k : Int)), none, none] [vZ 23, vR 0 26] σ4 post from ⟨(by omega), ?_⟩)
      refine V_callV (a := [vZ 23]) (rest := []) kX6_decades rfl oX0_howMany iX0_howMany lk_6_142 rfl rfl rfl (Nat.le_of_ble_eq_true rfl) (Nat.le_of_ble_eq_true rfl) (Nat.le_of_ble_eq_true rfl) (post' := fun zv zσ => V 5 MX6_decades 161 [some (vR 5 0), some (vZ s), some (vZ n), some (vZ x), some (vZ (cn (aC S))), some (vZ (zSee s (3 * k))), some (vZ (k : Int)), none, none] (zv.toList ++ []) zσ post) (c_C_howMany (b := 26) hv3 rfl rfl hco4 (by omega) (by omega) ((show V 5 MX6_decades 161 [some (vR 5 0), some (vZ s), some (vZ n), some (vZ x), some (vZ (cn (aC S))), some (vZ (zSee s (3 * k))), some (vZ (k : Int)), none, none] [vZ (dn (zD (cDec (aC S) s n) 23))] σ4 post from ?_))) (fun _ _ h => h)
      exact V_iret kX6_decades rfl rfl (hp)
  by_cases h0 : cn (aC S) = 0
  · skip
    have ek : cDk (aC S) s 0 = cDec (aC S) s n := by
      unfold cDk cDec
      rw [if_pos h0]; rfl
    rcases Int.lt_or_le 0 n with h3 | h3
    · skip
      refine V_run kX6_decades 5 [0, 1] (show (zr 0 ∧ zr n ∧ 0 < n) ∧ (zr (cn (aC S)) ∧ (cn (aC S)) ≤ 0) ∧ V 5 MX6_decades 126 [some (vR 5 0), some (vZ s), some (vZ n), some (vZ x), some (vZ (cn (aC S))), some (vZ s), some (vZ 0), none, none] [] σ2 post from ⟨(by omega), (by omega), ?_⟩)
      exact last 0 σ2 ek (by omega) hk2 hx2
    · skip
      refine V_run kX6_decades 3 [1] (show (zr 0 ∧ zr n ∧ n ≤ 0) ∧ V 5 MX6_decades 126 [some (vR 5 0), some (vZ s), some (vZ n), some (vZ x), some (vZ (cn (aC S))), some (vZ s), some (vZ 0), none, none] [] σ2 post from ⟨(by omega), ?_⟩)
      exact last 0 σ2 ek (by omega) hk2 hx2
  · skip
    have loop : ∀ (m k : Nat), (k : Int) + m = n → ∀ σ3 : zSt, dTr σ σ3 → zPx σ3 14 (cDk (aC S) s k) → V 5 MX6_decades 53 [some (vR 5 0), some (vZ s), some (vZ n), some (vZ x), some (vZ (cn (aC S))), some (vZ (zSee s (3 * k))), some (vZ (k : Int)), none, none] [] σ3 post := by
      intro m
      induction m with
      | zero =>
        intro k hkn σ3 hk hx
        have ek : cDk (aC S) s k = cDec (aC S) s n := by
          unfold cDk cDec
          rw [if_neg h0, show (k : Int) = n by omega]
        refine V_run kX6_decades 3 [1] (show (zr (k : Int) ∧ zr n ∧ n ≤ (k : Int)) ∧ V 5 MX6_decades 126 [some (vR 5 0), some (vZ s), some (vZ n), some (vZ x), some (vZ (cn (aC S))), some (vZ (zSee s (3 * k))), some (vZ (k : Int)), none, none] [] σ3 post from ⟨(by omega), ?_⟩)
        exact last k σ3 ek (by omega) hk hx
      | succ m ih =>
        intro k hkn σ3 hk hx
        have u1 := zush16 (zSee s (3 * k + 1))
        have u2 := zush16 (zSee s (3 * k + 2))
        have u3 := zush16 (zSee s (3 * k + 3))
        refine V_run kX6_decades 6 [0, 0] (show (zr (k : Int) ∧ zr n ∧ (k : Int) < n) ∧ (zr (cn (aC S)) ∧ 0 < (cn (aC S))) ∧ V 5 MX6_decades 66 [some (vR 5 0), some (vZ s), some (vZ n), some (vZ x), some (vZ (cn (aC S))), some (vZ (zSee s (3 * k))), some (vZ (k : Int)), none, none] [vZ (zSee s (3 * k))] σ3 post from ⟨(by omega), (by omega), ?_⟩)
        refine V_callS (a := [vZ (zSee s (3 * k))]) (rest := []) kX6_decades rfl oX6_nextSeed iX6_nextSeed lk_6_245 rfl rfl (Nat.le_of_ble_eq_true rfl) (Nat.le_of_ble_eq_true rfl) (Nat.le_of_ble_eq_true rfl) (post' := fun zv zσ => V 5 MX6_decades 69 [some (vR 5 0), some (vZ s), some (vZ n), some (vZ x), some (vZ (cn (aC S))), some (vZ (zSee s (3 * k))), some (vZ (k : Int)), none, none] (zv.toList ++ []) zσ post) (c_N_seed ((show V 5 MX6_decades 69 [some (vR 5 0), some (vZ s), some (vZ n), some (vZ x), some (vZ (cn (aC S))), some (vZ (zSee s (3 * k))), some (vZ (k : Int)), none, none] [vZ (1103515245 * zSee s (3 * k) + 12345)] σ3 post from ?_))) (fun _ _ h => h)
        refine V_top (show 1103515245 * zSee s (3 * k) + 12345 = zSee s (3 * k + 1) from rfl) ?_
        refine V_run kX6_decades 3 [] (show V 5 MX6_decades 74 [some (vR 5 0), some (vZ s), some (vZ n), some (vZ x), some (vZ (cn (aC S))), some (vZ (zSee s (3 * k + 1))), some (vZ (k : Int)), none, none] [vZ 3, vZ (zSee s (3 * k + 1))] σ3 post from ?_)
        refine V_callS (a := [vZ (zSee s (3 * k + 1)), vZ 3]) (rest := []) kX6_decades rfl oX6_lot iX6_lot lk_6_248 rfl rfl (Nat.le_of_ble_eq_true rfl) (Nat.le_of_ble_eq_true rfl) (Nat.le_of_ble_eq_true rfl) (post' := fun zv zσ => V 5 MX6_decades 77 [some (vR 5 0), some (vZ s), some (vZ n), some (vZ x), some (vZ (cn (aC S))), some (vZ (zSee s (3 * k + 1))), some (vZ (k : Int)), none, none] (zv.toList ++ []) zσ post) (c_N_lot (by omega) (by omega) ((show V 5 MX6_decades 77 [some (vR 5 0), some (vZ s), some (vZ n), some (vZ x), some (vZ (cn (aC S))), some (vZ (zSee s (3 * k + 1))), some (vZ (k : Int)), none, none] [vZ (zushr (zSee s (3 * k + 1)) 16 % 3)] σ3 post from ?_))) (fun _ _ h => h)
        refine V_run kX6_decades 2 [] (show V 5 MX6_decades 81 [some (vR 5 0), some (vZ s), some (vZ n), some (vZ x), some (vZ (cn (aC S))), some (vZ (zSee s (3 * k + 1))), some (vZ (k : Int)), some (vZ (zushr (zSee s (3 * k + 1)) 16 % 3)), none] [vZ (zSee s (3 * k + 1))] σ3 post from ?_)
        refine V_callS (a := [vZ (zSee s (3 * k + 1))]) (rest := []) kX6_decades rfl oX6_nextSeed iX6_nextSeed lk_6_245 rfl rfl (Nat.le_of_ble_eq_true rfl) (Nat.le_of_ble_eq_true rfl) (Nat.le_of_ble_eq_true rfl) (post' := fun zv zσ => V 5 MX6_decades 84 [some (vR 5 0), some (vZ s), some (vZ n), some (vZ x), some (vZ (cn (aC S))), some (vZ (zSee s (3 * k + 1))), some (vZ (k : Int)), some (vZ (zushr (zSee s (3 * k + 1)) 16 % 3)), none] (zv.toList ++ []) zσ post) (c_N_seed ((show V 5 MX6_decades 84 [some (vR 5 0), some (vZ s), some (vZ n), some (vZ x), some (vZ (cn (aC S))), some (vZ (zSee s (3 * k + 1))), some (vZ (k : Int)), some (vZ (zushr (zSee s (3 * k + 1)) 16 % 3)), none] [vZ (1103515245 * zSee s (3 * k + 1) + 12345)] σ3 post from ?_))) (fun _ _ h => h)
        refine V_top (show 1103515245 * zSee s (3 * k + 1) + 12345 = zSee s (3 * k + 2) from rfl) ?_
        refine V_run kX6_decades 3 [] (show V 5 MX6_decades 90 [some (vR 5 0), some (vZ s), some (vZ n), some (vZ x), some (vZ (cn (aC S))), some (vZ (zSee s (3 * k + 2))), some (vZ (k : Int)), some (vZ (zushr (zSee s (3 * k + 1)) 16 % 3)), none] [vZ 24, vZ (zSee s (3 * k + 2))] σ3 post from ?_)
        refine V_callS (a := [vZ (zSee s (3 * k + 2)), vZ 24]) (rest := []) kX6_decades rfl oX6_lot iX6_lot lk_6_248 rfl rfl (Nat.le_of_ble_eq_true rfl) (Nat.le_of_ble_eq_true rfl) (Nat.le_of_ble_eq_true rfl) (post' := fun zv zσ => V 5 MX6_decades 93 [some (vR 5 0), some (vZ s), some (vZ n), some (vZ x), some (vZ (cn (aC S))), some (vZ (zSee s (3 * k + 2))), some (vZ (k : Int)), some (vZ (zushr (zSee s (3 * k + 1)) 16 % 3)), none] (zv.toList ++ []) zσ post) (c_N_lot (by omega) (by omega) ((show V 5 MX6_decades 93 [some (vR 5 0), some (vZ s), some (vZ n), some (vZ x), some (vZ (cn (aC S))), some (vZ (zSee s (3 * k + 2))), some (vZ (k : Int)), some (vZ (zushr (zSee s (3 * k + 1)) 16 % 3)), none] [vZ (zushr (zSee s (3 * k + 2)) 16 % 24)] σ3 post from ?_))) (fun _ _ h => h)
        refine V_run kX6_decades 2 [] (show V 5 MX6_decades 97 [some (vR 5 0), some (vZ s), some (vZ n), some (vZ x), some (vZ (cn (aC S))), some (vZ (zSee s (3 * k + 2))), some (vZ (k : Int)), some (vZ (zushr (zSee s (3 * k + 1)) 16 % 3)), some (vZ (zushr (zSee s (3 * k + 2)) 16 % 24))] [vZ (zSee s (3 * k + 2))] σ3 post from ?_)
        refine V_callS (a := [vZ (zSee s (3 * k + 2))]) (rest := []) kX6_decades rfl oX6_nextSeed iX6_nextSeed lk_6_245 rfl rfl (Nat.le_of_ble_eq_true rfl) (Nat.le_of_ble_eq_true rfl) (Nat.le_of_ble_eq_true rfl) (post' := fun zv zσ => V 5 MX6_decades 100 [some (vR 5 0), some (vZ s), some (vZ n), some (vZ x), some (vZ (cn (aC S))), some (vZ (zSee s (3 * k + 2))), some (vZ (k : Int)), some (vZ (zushr (zSee s (3 * k + 1)) 16 % 3)), some (vZ (zushr (zSee s (3 * k + 2)) 16 % 24))] (zv.toList ++ []) zσ post) (c_N_seed ((show V 5 MX6_decades 100 [some (vR 5 0), some (vZ s), some (vZ n), some (vZ x), some (vZ (cn (aC S))), some (vZ (zSee s (3 * k + 2))), some (vZ (k : Int)), some (vZ (zushr (zSee s (3 * k + 1)) 16 % 3)), some (vZ (zushr (zSee s (3 * k + 2)) 16 % 24))] [vZ (1103515245 * zSee s (3 * k + 2) + 12345)] σ3 post from ?_))) (fun _ _ h => h)
        refine V_top (show 1103515245 * zSee s (3 * k + 2) + 12345 = zSee s (3 * k + 3) from rfl) ?_
        refine V_run kX6_decades 7 [] (show V 5 MX6_decades 114 [some (vR 5 0), some (vZ s), some (vZ n), some (vZ x), some (vZ (cn (aC S))), some (vZ (zSee s (3 * k + 3))), some (vZ (k : Int)), some (vZ (zushr (zSee s (3 * k + 1)) 16 % 3)), some (vZ (zushr (zSee s (3 * k + 2)) 16 % 24))] [vZ (cn (aC S)), vZ (zSee s (3 * k + 3)), vZ (zushr (zSee s (3 * k + 2)) 16 % 24), vZ (zushr (zSee s (3 * k + 1)) 16 % 3), vR 1 14] σ3 post from ?_)
        refine V_callS (a := [vZ (zSee s (3 * k + 3)), vZ (cn (aC S))]) (rest := [vZ (zushr (zSee s (3 * k + 2)) 16 % 24), vZ (zushr (zSee s (3 * k + 1)) 16 % 3), vR 1 14]) kX6_decades rfl oX6_lot iX6_lot lk_6_248 rfl rfl (Nat.le_of_ble_eq_true rfl) (Nat.le_of_ble_eq_true rfl) (Nat.le_of_ble_eq_true rfl) (post' := fun zv zσ => V 5 MX6_decades 117 [some (vR 5 0), some (vZ s), some (vZ n), some (vZ x), some (vZ (cn (aC S))), some (vZ (zSee s (3 * k + 3))), some (vZ (k : Int)), some (vZ (zushr (zSee s (3 * k + 1)) 16 % 3)), some (vZ (zushr (zSee s (3 * k + 2)) 16 % 24))] (zv.toList ++ [vZ (zushr (zSee s (3 * k + 2)) 16 % 24), vZ (zushr (zSee s (3 * k + 1)) 16 % 3), vR 1 14]) zσ post) (c_N_lot (by omega) (by omega) ((show V 5 MX6_decades 117 [some (vR 5 0), some (vZ s), some (vZ n), some (vZ x), some (vZ (cn (aC S))), some (vZ (zSee s (3 * k + 3))), some (vZ (k : Int)), some (vZ (zushr (zSee s (3 * k + 1)) 16 % 3)), some (vZ (zushr (zSee s (3 * k + 2)) 16 % 24))] [vZ (zushr (zSee s (3 * k + 3)) 16 % cn (aC S)), vZ (zushr (zSee s (3 * k + 2)) 16 % 24), vZ (zushr (zSee s (3 * k + 1)) 16 % 3), vR 1 14] σ3 post from ?_))) (fun _ _ h => h)
        have w1 := Int.emod_nonneg (zushr (zSee s (3 * k + 3)) 16) h0
        have w2 := Int.emod_lt_of_pos (zushr (zSee s (3 * k + 3)) 16) (show 0 < cn (aC S) by omega)
        have hx4 := zPx_add (v := zushr (zSee s (3 * k + 1)) 16 % 3) (t := zushr (zSee s (3 * k + 2)) 16 % 24) (p := zushr (zSee s (3 * k + 3)) 16 % cn (aC S)) hx (show (k : Int) ≤ 8 by omega) (by omega) (by omega) (by omega) (by omega) w1 (by omega)
        rw [cDk_s] at hx4
        refine V_callV (a := [vZ (zushr (zSee s (3 * k + 1)) 16 % 3), vZ (zushr (zSee s (3 * k + 2)) 16 % 24), vZ (zushr (zSee s (3 * k + 3)) 16 % cn (aC S))]) (rest := []) kX6_decades rfl oX2_addEvent iX2_addEvent lk_6_195 rfl rfl rfl (Nat.le_of_ble_eq_true rfl) (Nat.le_of_ble_eq_true rfl) (Nat.le_of_ble_eq_true rfl) (post' := fun zv zσ => V 5 MX6_decades 120 [some (vR 5 0), some (vZ s), some (vZ n), some (vZ x), some (vZ (cn (aC S))), some (vZ (zSee s (3 * k + 3))), some (vZ (k : Int)), some (vZ (zushr (zSee s (3 * k + 1)) 16 % 3)), some (vZ (zushr (zSee s (3 * k + 2)) 16 % 24))] (zv.toList ++ []) zσ post) (c_P_addEvent (b := 14) (e := (k : Int)) zPz14 hx.1.2.1 (by omega) (by omega) (by omega) (by omega) ((show V 5 MX6_decades 120 [some (vR 5 0), some (vZ s), some (vZ n), some (vZ x), some (vZ (cn (aC S))), some (vZ (zSee s (3 * k + 3))), some (vZ (k : Int)), some (vZ (zushr (zSee s (3 * k + 1)) 16 % 3)), some (vZ (zushr (zSee s (3 * k + 2)) 16 % 24))] [] (sAdd σ3 14 (k : Int) (zushr (zSee s (3 * k + 1)) 16 % 3) (zushr (zSee s (3 * k + 2)) 16 % 24) (zushr (zSee s (3 * k + 3)) 16 % cn (aC S))) post from ?_))) (fun _ _ h => h)
        refine V_run kX6_decades 2 [] (show V 5 MX6_decades 53 [some (vR 5 0), some (vZ s), some (vZ n), some (vZ x), some (vZ (cn (aC S))), some (vZ (zSee s (3 * k + 3))), some (vZ ((k : Int) + 1)), some (vZ (zushr (zSee s (3 * k + 1)) 16 % 3)), some (vZ (zushr (zSee s (3 * k + 2)) 16 % 24))] [] (sAdd σ3 14 (k : Int) (zushr (zSee s (3 * k + 1)) 16 % 3) (zushr (zSee s (3 * k + 2)) 16 % 24) (zushr (zSee s (3 * k + 3)) 16 % cn (aC S))) post from ?_)
        refine V_drop (L := [some (vR 5 0), some (vZ s), some (vZ n), some (vZ x), some (vZ (cn (aC S))), some (vZ (zSee s (3 * k + 3))), some (vZ ((k : Int) + 1)), none, none]) ⟨rfl, ⟨rfl, ⟨rfl, ⟨rfl, ⟨rfl, ⟨rfl, ⟨rfl, trivial⟩⟩⟩⟩⟩⟩⟩ ?_
        exact ih (k + 1) (by omega) _ (hk.tr dTr_add) hx4
    exact loop n.toNat 0 (by omega) σ2 hk2 hx2
