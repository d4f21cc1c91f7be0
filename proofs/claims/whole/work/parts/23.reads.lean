def zD (C : zCf) (t : Int) : zDy := dDay C (t.toNat + 1)
def zWho (C : zCf) (t j : Int) : Int := if j < dn (zD C t) then dq (zD C t) j else -1
def zPla (C : zCf) (t p : Int) : Int := if p < cn C ∧ ds (zD C t) p = 1 then dPos (zD C t) p else -1
theorem zJ_D {C : zCf} (hC : zCv C) (t : Int) : zJ C (zD C t) := (zJ_day hC _).1
theorem zCo_at {σ : zSt} {b : Nat} {C : zCf} (h : zCo σ b C 24) {t : Int} (h0 : 0 ≤ t) (h1 : t < 24) : ∃ r y : Nat, σ.2 (b + 1) t = lN r ∧ zRq r (zD C t) ∧ σ.2 (b + 2) t = lN y ∧ zRl y (zD C t) := by
  obtain ⟨n, rfl⟩ := zi_of h0
  exact h.2.1 n h1
theorem zCo_end {σ : zSt} {b : Nat} {C : zCf} (h : zCo σ b C 24) : ∃ y : Nat, σ.2 b 4 = lN y ∧ zRl y (zD C 23) := h.2.2
theorem zPla_rng {C : zCf} (hC : zCv C) (t : Int) {p : Int} (h0 : 0 ≤ p) : -1 ≤ zPla C t p ∧ zPla C t p < 12 ∧ (zPla C t p = -1 ↔ ¬ (p < cn C ∧ ds (zD C t) p = 1)) := by
  unfold zPla
  have hJ := zJ_D hC t
  have := hJ.1
  by_cases h : p < cn C ∧ ds (zD C t) p = 1
  · rw [if_pos h]
    have := dPos_in hJ h0 h.1 h.2
    exact ⟨by omega, by omega, ⟨fun q => by omega, fun q => absurd h q⟩⟩
  · rw [if_neg h]; exact ⟨by omega, by omega, ⟨fun _ => h, fun _ => rfl⟩⟩
theorem zWho_rng {C : zCf} (hC : zCv C) (t : Int) {j : Int} (h0 : 0 ≤ j) : -1 ≤ zWho C t j ∧ zWho C t j < 12 := by
  unfold zWho
  have hJ := zJ_D hC t
  have h12 := hC.1
  split
  · rename_i h
    have := (hJ.2.1 j h0 h).1
    omega
  · omega
set_option maxHeartbeats 4000000 in
set_option maxRecDepth 100000 in
/-- queueBehind -/
theorem c_C_qb {b : Nat} {t : Int} {σ : zSt} {post : Option VV → zSt → Prop} (hz1 : zlen (b + 1) = 24) (h0 : 0 ≤ t) (h : t < 24) (hp : post (some (vL (σ.2 (b + 1) t))) σ) : Mc 0 MX0_queueBehind [vR 0 b, vZ t] σ post := by
  show V 0 MX0_queueBehind 0 [some (vR 0 b), some (vZ t)] [] σ post
  refine V_run kX0_queueBehind 12 [0, 0] (show (zr t ∧ 0 ≤ t) ∧ (zr t ∧ zr (zlen (b + 1)) ∧ t < (zlen (b + 1))) ∧ (0 ≤ t ∧ t < (zlen (b + 1))) ∧ V 0 MX0_queueBehind 23 [some (vR 0 b), some (vZ t)] [vL (σ.2 (b + 1) t)] σ post from ⟨(by omega), (by omega), (by omega), ?_⟩)
  exact V_lret kX0_queueBehind rfl rfl (hp)
theorem e_C_qb {b : Nat} {t : Int} {x : Int64} {σ : zSt} {post : Option VV → zSt → Prop} (hz1 : zlen (b + 1) = 24) (h0 : 0 ≤ t) (h : t < 24) (hx : σ.2 (b + 1) t = x) (hp : post (some (vL x)) σ) : Mc 0 MX0_queueBehind [vR 0 b, vZ t] σ post := c_C_qb hz1 h0 h (hx ▸ hp)
set_option maxHeartbeats 4000000 in
set_option maxRecDepth 100000 in
/-- whoAt -/
theorem c_C_whoAt {b : Nat} {C : zCf} {t j : Int} {σ : zSt} {post : Option VV → zSt → Prop} (hC : zCv C) (hz1 : zlen (b + 1) = 24) (hz2 : zlen (b + 2) = 24) (hco : zCo σ b C 24) (h0 : 0 ≤ t) (h : t < 24) (j0 : 0 ≤ j) (j1 : j < 12) (hp : post (some (vZ (zWho C t j))) σ) : Mc 1 MX0_whoAt [vR 0 b, vZ t, vZ j] σ post := by
  obtain ⟨r, y, e1, e2, e3, e4⟩ := zCo_at hco h0 h
  show V 1 MX0_whoAt 0 [some (vR 0 b), some (vZ t), some (vZ j)] [] σ post
  refine V_run kX0_whoAt 2 [] (show V 1 MX0_whoAt 2 [some (vR 0 b), some (vZ t), some (vZ j)] [vZ t, vR 0 b] σ post from ?_)
  refine V_callV (a := [vZ t]) (rest := []) kX0_whoAt rfl oX0_queueBehind iX0_queueBehind lk_0_102 rfl rfl rfl (Nat.le_of_ble_eq_true rfl) (Nat.le_of_ble_eq_true rfl) (Nat.le_of_ble_eq_true rfl) (post' := fun zv zσ => V 1 MX0_whoAt 5 [some (vR 0 b), some (vZ t), some (vZ j)] (zv.toList ++ []) zσ post) (e_C_qb hz1 h0 h e1 ((show V 1 MX0_whoAt 5 [some (vR 0 b), some (vZ t), some (vZ j)] [vL (lN r)] σ post from ?_))) (fun _ _ h => h)
  refine V_run kX0_whoAt 1 [] (show V 1 MX0_whoAt 6 [some (vR 0 b), some (vZ t), some (vZ j)] [vZ j, vL (lN r)] σ post from ?_)
  refine V_callS (a := [vL (lN r), vZ j]) (rest := []) kX0_whoAt rfl oX1_digit iX1_digit lk_0_96 rfl rfl (Nat.le_of_ble_eq_true rfl) (Nat.le_of_ble_eq_true rfl) (Nat.le_of_ble_eq_true rfl) (post' := fun zv zσ => V 1 MX0_whoAt 9 [some (vR 0 b), some (vZ t), some (vZ j)] (zv.toList ++ []) zσ post) (c_digit e2.1 j0 j1 ((show V 1 MX0_whoAt 9 [some (vR 0 b), some (vZ t), some (vZ j)] [vZ (dgt r j)] σ post from ?_))) (fun _ _ h => h)
  refine V_run kX0_whoAt 2 [] (show V 1 MX0_whoAt 11 [some (vR 0 b), some (vZ t), some (vZ j)] [vZ ((dgt r j) - 1)] σ post from ?_)
  have hj := e2.2 j j0 j1
  refine V_top (show dgt r j - 1 = zWho C t j by unfold zWho; rw [hj]; split <;> omega) ?_
  exact V_iret kX0_whoAt rfl rfl (hp)
set_option maxHeartbeats 4000000 in
set_option maxRecDepth 100000 in
/-- howMany -/
theorem c_C_howMany {b : Nat} {C : zCf} {t : Int} {σ : zSt} {post : Option VV → zSt → Prop} (hC : zCv C) (hz1 : zlen (b + 1) = 24) (hz2 : zlen (b + 2) = 24) (hco : zCo σ b C 24) (h0 : 0 ≤ t) (h : t < 24) (hp : post (some (vZ (dn (zD C t)))) σ) : Mc 1 MX0_howMany [vR 0 b, vZ t] σ post := by
  obtain ⟨r, y, e1, e2, e3, e4⟩ := zCo_at hco h0 h
  have hJ := zJ_D hC t
  obtain ⟨l1, l2⟩ := zRq_len hJ e2
  show V 1 MX0_howMany 0 [some (vR 0 b), some (vZ t)] [] σ post
  refine V_run kX0_howMany 2 [] (show V 1 MX0_howMany 2 [some (vR 0 b), some (vZ t)] [vZ t, vR 0 b] σ post from ?_)
  refine V_callV (a := [vZ t]) (rest := []) kX0_howMany rfl oX0_queueBehind iX0_queueBehind lk_0_102 rfl rfl rfl (Nat.le_of_ble_eq_true rfl) (Nat.le_of_ble_eq_true rfl) (Nat.le_of_ble_eq_true rfl) (post' := fun zv zσ => V 1 MX0_howMany 5 [some (vR 0 b), some (vZ t)] (zv.toList ++ []) zσ post) (e_C_qb hz1 h0 h e1 ((show V 1 MX0_howMany 5 [some (vR 0 b), some (vZ t)] [vL (lN r)] σ post from ?_))) (fun _ _ h => h)
  refine V_callS (a := [vL (lN r)]) (rest := []) kX0_howMany rfl oX1_length iX1_length lk_0_85 rfl rfl (Nat.le_of_ble_eq_true rfl) (Nat.le_of_ble_eq_true rfl) (Nat.le_of_ble_eq_true rfl) (post' := fun zv zσ => V 1 MX0_howMany 8 [some (vR 0 b), some (vZ t)] (zv.toList ++ []) zσ post) (c_length e2.1 hJ.1.1 hJ.1.2 l1 l2 ((show V 1 MX0_howMany 8 [some (vR 0 b), some (vZ t)] [vZ (dn (zD C t))] σ post from ?_))) (fun _ _ h => h)
  exact V_iret kX0_howMany rfl rfl (hp)
set_option maxHeartbeats 4000000 in
set_option maxRecDepth 100000 in
/-- placeOf -/
theorem c_C_placeOf {b : Nat} {C : zCf} {t p : Int} {σ : zSt} {post : Option VV → zSt → Prop} (hC : zCv C) (hz1 : zlen (b + 1) = 24) (hz2 : zlen (b + 2) = 24) (hco : zCo σ b C 24) (h0 : 0 ≤ t) (h : t < 24) (p0 : 0 ≤ p) (p1 : p < 12) (hp : post (some (vZ (zPla C t p))) σ) : Mc 1 MX0_placeOf [vR 0 b, vZ t, vZ p] σ post := by
  obtain ⟨r, y, e1, e2, e3, e4⟩ := zCo_at hco h0 h
  have hJ := zJ_D hC t
  show V 1 MX0_placeOf 0 [some (vR 0 b), some (vZ t), some (vZ p)] [] σ post
  refine V_run kX0_placeOf 2 [] (show V 1 MX0_placeOf 2 [some (vR 0 b), some (vZ t), some (vZ p)] [vZ t, vR 0 b] σ post from ?_)
  refine V_callV (a := [vZ t]) (rest := []) kX0_placeOf rfl oX0_queueBehind iX0_queueBehind lk_0_102 rfl rfl rfl (Nat.le_of_ble_eq_true rfl) (Nat.le_of_ble_eq_true rfl) (Nat.le_of_ble_eq_true rfl) (post' := fun zv zσ => V 1 MX0_placeOf 5 [some (vR 0 b), some (vZ t), some (vZ p)] (zv.toList ++ []) zσ post) (e_C_qb hz1 h0 h e1 ((show V 1 MX0_placeOf 5 [some (vR 0 b), some (vZ t), some (vZ p)] [vL (lN r)] σ post from ?_))) (fun _ _ h => h)
  refine V_run kX0_placeOf 3 [] (show V 1 MX0_placeOf 8 [some (vR 0 b), some (vZ t), some (vZ p)] [vZ (p + 1), vL (lN r)] σ post from ?_)
  refine V_callS (a := [vL (lN r), vZ (p + 1)]) (rest := []) kX0_placeOf rfl oX1_find iX1_find lk_0_68 rfl rfl (Nat.le_of_ble_eq_true rfl) (Nat.le_of_ble_eq_true rfl) (Nat.le_of_ble_eq_true rfl) (post' := fun zv zσ => V 1 MX0_placeOf 11 [some (vR 0 b), some (vZ t), some (vZ p)] (zv.toList ++ []) zσ post) (c_find e2.1 (by omega) (by omega) (zRq_find hC.1.2 hJ e2 p0 p1 rfl) ((show V 1 MX0_placeOf 11 [some (vR 0 b), some (vZ t), some (vZ p)] [vZ (zPla C t p)] σ post from ?_))) (fun _ _ h => h)
  exact V_iret kX0_placeOf rfl rfl (hp)
set_option maxHeartbeats 4000000 in
set_option maxRecDepth 100000 in
/-- leftOf -/
theorem c_C_leftOf {b : Nat} {C : zCf} {t p : Int} {σ : zSt} {post : Option VV → zSt → Prop} (hC : zCv C) (hz1 : zlen (b + 1) = 24) (hz2 : zlen (b + 2) = 24) (hco : zCo σ b C 24) (h0 : 0 ≤ t) (h : t < 24) (p0 : 0 ≤ p) (p1 : p < 12) (hp : post (some (vZ (dl (zD C t) p))) σ) : Mc 1 MX0_leftOf [vR 0 b, vZ t, vZ p] σ post := by
  obtain ⟨r, y, e1, e2, e3, e4⟩ := zCo_at hco h0 h
  show V 1 MX0_leftOf 0 [some (vR 0 b), some (vZ t), some (vZ p)] [] σ post
  refine V_run kX0_leftOf 12 [0, 0] (show (zr t ∧ 0 ≤ t) ∧ (zr t ∧ zr (zlen (b + 2)) ∧ t < (zlen (b + 2))) ∧ (0 ≤ t ∧ t < (zlen (b + 2))) ∧ V 1 MX0_leftOf 20 [some (vR 0 b), some (vZ t), some (vZ p)] [vZ p, vL (σ.2 (b + 2) t)] σ post from ⟨(by omega), (by omega), (by omega), ?_⟩)
  rw [e3]
  show V 1 MX0_leftOf 20 [some (vR 0 b), some (vZ t), some (vZ p)] [vZ p, vL (lN y)] σ post
  refine V_callS (a := [vL (lN y), vZ p]) (rest := []) kX0_leftOf rfl oX1_digit iX1_digit lk_0_96 rfl rfl (Nat.le_of_ble_eq_true rfl) (Nat.le_of_ble_eq_true rfl) (Nat.le_of_ble_eq_true rfl) (post' := fun zv zσ => V 1 MX0_leftOf 23 [some (vR 0 b), some (vZ t), some (vZ p)] (zv.toList ++ []) zσ post) (c_digit e4.1 p0 p1 ((show V 1 MX0_leftOf 23 [some (vR 0 b), some (vZ t), some (vZ p)] [vZ (dgt y p)] σ post from ?_))) (fun _ _ h => h)
  refine V_top (e4.2 p p0 p1) ?_
  refine V_run kX0_leftOf 1 [] (show V 1 MX0_leftOf 27 [some (vR 0 b), some (vZ t), some (vZ p)] [vZ (dl (zD C t) p)] σ post from ?_)
  exact V_iret kX0_leftOf rfl rfl (hp)
set_option maxHeartbeats 4000000 in
set_option maxRecDepth 100000 in
/-- isServed -/
theorem c_C_isServed {b : Nat} {C : zCf} {p : Int} {σ : zSt} {post : Option VV → zSt → Prop} (hC : zCv C) (hz1 : zlen (b + 1) = 24) (hz2 : zlen (b + 2) = 24) (hco : zCo σ b C 24) (p0 : 0 ≤ p) (p1 : p < 12) (hp : post (some (vZ (if dl (zD C 23) p = 0 then 1 else 0))) σ) : Mc 2 MX0_isServed [vR 0 b, vZ p] σ post := by
  have h9 := (zJ_D hC 23).2.2.2.2.1 p
  obtain ⟨y, e3, e4⟩ := zCo_end hco
  show V 2 MX0_isServed 0 [some (vR 0 b), some (vZ p)] [] σ post
  refine V_run kX0_isServed 3 [] (show V 2 MX0_isServed 5 [some (vR 0 b), some (vZ p)] [vZ p, vL (σ.2 b 4)] σ post from ?_)
  rw [e3]
  show V 2 MX0_isServed 5 [some (vR 0 b), some (vZ p)] [vZ p, vL (lN y)] σ post
  refine V_callS (a := [vL (lN y), vZ p]) (rest := []) kX0_isServed rfl oX1_digit iX1_digit lk_0_96 rfl rfl (Nat.le_of_ble_eq_true rfl) (Nat.le_of_ble_eq_true rfl) (Nat.le_of_ble_eq_true rfl) (post' := fun zv zσ => V 2 MX0_isServed 8 [some (vR 0 b), some (vZ p)] (zv.toList ++ []) zσ post) (c_digit e4.1 p0 p1 ((show V 2 MX0_isServed 8 [some (vR 0 b), some (vZ p)] [vZ (dgt y p)] σ post from ?_))) (fun _ _ h => h)
  refine V_top (e4.2 p p0 p1) ?_
  by_cases h1 : (dl (zD C 23) p) = 0
  · skip
    refine V_run kX0_isServed 3 [0] (show (zr (dl (zD C 23) p) ∧ (dl (zD C 23) p) = 0) ∧ V 2 MX0_isServed 16 [some (vR 0 b), some (vZ p)] [vZ 1] σ post from ⟨(by omega), ?_⟩)
    exact V_zret kX0_isServed rfl rfl (Or.inr rfl) (z_eqI (by split <;> omega) hp)
  · skip
    refine V_run kX0_isServed 2 [1] (show (zr (dl (zD C 23) p) ∧ ¬ (dl (zD C 23) p) = 0) ∧ V 2 MX0_isServed 16 [some (vR 0 b), some (vZ p)] [vZ 0] σ post from ⟨(by omega), ?_⟩)
    exact V_zret kX0_isServed rfl rfl (Or.inl rfl) (z_eqI (by split <;> omega) hp)
def zSin (C : zCf) (p : Int) : Nat → Int → Int
  | 0, _ => -1
  | m + 1, t => if dl (zD C t) p = 0 then t else zSin C p m (t + 1)
def zSvb (C : zCf) : Nat → Int → Int → Int
  | 0, _, b => b
  | m + 1, p, b => zSvb C m (p + 1) (if dl (zD C 23) p = 0 then zor b (zshl 1 p) else b)
def zSto (C : zCf) (p : Int) : Nat → Int → Int → Int
  | 0, _, a => a
  | m + 1, t, a => zSto C p m (t + 1) (if zPla C t p = -1 then a else a + 1)
def zMov (C : zCf) (p : Int) : Nat → Int → Int → Int → Int
  | 0, _, _, a => a
  | m + 1, t, b, a => zMov C p m (t + 1) (zPla C t p) (if b = -1 ∨ zPla C t p = -1 ∨ zPla C t p = b then a else a + 1)
def zMf (C : zCf) (p : Int) : Nat → Int → Int → Int
  | 0, _, a => a
  | m + 1, t, a => zMf C p m (t + 1) (if zWho C t 0 = p then a + 1 else a)
set_option maxHeartbeats 4000000 in
set_option maxRecDepth 100000 in
/-- servedIn -/
theorem c_C_servedIn {b : Nat} {C : zCf} {p : Int} {σ : zSt} {post : Option VV → zSt → Prop} (hC : zCv C) (hz1 : zlen (b + 1) = 24) (hz2 : zlen (b + 2) = 24) (hco : zCo σ b C 24) (p0 : 0 ≤ p) (p1 : p < 12) (hp : post (some (vZ (zSin C p 24 0))) σ) : Mc 2 MX0_servedIn [vR 0 b, vZ p] σ post := by
  show V 2 MX0_servedIn 0 [some (vR 0 b), some (vZ p), none] [] σ post
  refine V_run kX0_servedIn 2 [] (show V 2 MX0_servedIn 2 [some (vR 0 b), some (vZ p), some (vZ 0)] [] σ post from ?_)
  have loop : ∀ (m : Nat) (t : Int), 0 ≤ t → t + m = 24 → post (some (vZ (zSin C p m t))) σ → V 2 MX0_servedIn 2 [some (vR 0 b), some (vZ p), some (vZ t)] [] σ post := by
    intro m
    induction m with
    | zero =>
      intro t hi0 hi hp
      refine V_run kX0_servedIn 4 [1] (show (zr t ∧ zr 24 ∧ 24 ≤ t) ∧ V 2 MX0_servedIn 26 [some (vR 0 b), some (vZ p), some (vZ t)] [vZ (-1)] σ post from ⟨(by omega), ?_⟩)
      exact V_iret kX0_servedIn rfl rfl (hp)
    | succ m ih =>
      intro t hi0 hi hp
      refine V_run kX0_servedIn 6 [0] (show (zr t ∧ zr 24 ∧ t < 24) ∧ V 2 MX0_servedIn 11 [some (vR 0 b), some (vZ p), some (vZ t)] [vZ p, vZ t, vR 0 b] σ post from ⟨(by omega), ?_⟩)
      have h9 := (zJ_D hC t).2.2.2.2.1 p
      refine V_callV (a := [vZ t, vZ p]) (rest := []) kX0_servedIn rfl oX0_leftOf iX0_leftOf lk_0_106 rfl rfl rfl (Nat.le_of_ble_eq_true rfl) (Nat.le_of_ble_eq_true rfl) (Nat.le_of_ble_eq_true rfl) (post' := fun zv zσ => V 2 MX0_servedIn 14 [some (vR 0 b), some (vZ p), some (vZ t)] (zv.toList ++ []) zσ post) (c_C_leftOf hC hz1 hz2 hco hi0 (by omega) p0 p1 ((show V 2 MX0_servedIn 14 [some (vR 0 b), some (vZ p), some (vZ t)] [vZ (dl (zD C t) p)] σ post from ?_))) (fun _ _ h => h)
      by_cases hz : dl (zD C t) p = 0
      · skip
        refine V_run kX0_servedIn 2 [0] (show (zr (dl (zD C t) p) ∧ (dl (zD C t) p) = 0) ∧ V 2 MX0_servedIn 18 [some (vR 0 b), some (vZ p), some (vZ t)] [vZ t] σ post from ⟨(by omega), ?_⟩)
        rw [show zSin C p (m + 1) t = t from if_pos hz] at hp
        exact V_iret kX0_servedIn rfl rfl (hp)
      · skip
        refine V_run kX0_servedIn 3 [1] (show (zr (dl (zD C t) p) ∧ ¬ (dl (zD C t) p) = 0) ∧ V 2 MX0_servedIn 2 [some (vR 0 b), some (vZ p), some (vZ (t + 1))] [] σ post from ⟨(by omega), ?_⟩)
        rw [show zSin C p (m + 1) t = zSin C p m (t + 1) from if_neg hz] at hp
        exact ih (t + 1) (by omega) (by omega) hp
  exact loop 24 0 (by omega) (by omega) hp
set_option maxHeartbeats 4000000 in
set_option maxRecDepth 100000 in
/-- servedBits -/
theorem c_C_servedBits {b : Nat} {C : zCf} {σ : zSt} {post : Option VV → zSt → Prop} (hC : zCv C) (hz1 : zlen (b + 1) = 24) (hz2 : zlen (b + 2) = 24) (hco : zCo σ b C 24) (hp : post (some (vZ (zSvb C (cn C).toNat 0 0))) σ) : Mc 3 MX0_servedBits [vR 0 b] σ post := by
  have hn := hC.1
  have hpe := hco.1
  show V 3 MX0_servedBits 0 [some (vR 0 b), none, none] [] σ post
  refine V_run kX0_servedBits 4 [] (show V 3 MX0_servedBits 4 [some (vR 0 b), some (vZ 0), some (vZ 0)] [] σ post from ?_)
  have loop : ∀ (m : Nat) (p x : Int), 0 ≤ p → p + m = cn C → post (some (vZ (zSvb C m p x))) σ → V 3 MX0_servedBits 4 [some (vR 0 b), some (vZ x), some (vZ p)] [] σ post := by
    intro m
    induction m with
    | zero =>
      intro p x hi0 hi hp
      refine V_run kX0_servedBits 3 [] (show V 3 MX0_servedBits 9 [some (vR 0 b), some (vZ x), some (vZ p)] [vZ (σ.1 b 2), vZ p] σ post from ?_)
      rw [hpe]
      show V 3 MX0_servedBits 9 [some (vR 0 b), some (vZ x), some (vZ p)] [vZ (cn C), vZ p] σ post
      refine V_run kX0_servedBits 2 [1] (show (zr p ∧ zr (cn C) ∧ (cn C) ≤ p) ∧ V 3 MX0_servedBits 33 [some (vR 0 b), some (vZ x), some (vZ p)] [vZ x] σ post from ⟨(by omega), ?_⟩)
      exact V_iret kX0_servedBits rfl rfl (hp)
    | succ m ih =>
      intro p x hi0 hi hp
      refine V_run kX0_servedBits 3 [] (show V 3 MX0_servedBits 9 [some (vR 0 b), some (vZ x), some (vZ p)] [vZ (σ.1 b 2), vZ p] σ post from ?_)
      rw [hpe]
      show V 3 MX0_servedBits 9 [some (vR 0 b), some (vZ x), some (vZ p)] [vZ (cn C), vZ p] σ post
      refine V_run kX0_servedBits 3 [0] (show (zr p ∧ zr (cn C) ∧ p < (cn C)) ∧ V 3 MX0_servedBits 14 [some (vR 0 b), some (vZ x), some (vZ p)] [vZ p, vR 0 b] σ post from ⟨(by omega), ?_⟩)
      refine V_callV (a := [vZ p]) (rest := []) kX0_servedBits rfl oX0_isServed iX0_isServed lk_0_109 rfl rfl rfl (Nat.le_of_ble_eq_true rfl) (Nat.le_of_ble_eq_true rfl) (Nat.le_of_ble_eq_true rfl) (post' := fun zv zσ => V 3 MX0_servedBits 17 [some (vR 0 b), some (vZ x), some (vZ p)] (zv.toList ++ []) zσ post) (c_C_isServed hC hz1 hz2 hco hi0 (by omega) ((show V 3 MX0_servedBits 17 [some (vR 0 b), some (vZ x), some (vZ p)] [vZ (if dl (zD C 23) p = 0 then 1 else 0)] σ post from ?_))) (fun _ _ h => h)
      by_cases hz : dl (zD C 23) p = 0
      · skip
        rw [if_pos hz]
        show V 3 MX0_servedBits 17 [some (vR 0 b), some (vZ x), some (vZ p)] [vZ 1] σ post
        refine V_run kX0_servedBits 9 [0] (show (zr 1 ∧ ¬ 1 = 0) ∧ V 3 MX0_servedBits 4 [some (vR 0 b), some (vZ (zor x (zshl 1 p))), some (vZ (p + 1))] [] σ post from ⟨(by omega), ?_⟩)
        rw [show zSvb C (m + 1) p x = zSvb C m (p + 1) (zor x (zshl 1 p)) by show zSvb C m (p + 1) (if dl (zD C 23) p = 0 then zor x (zshl 1 p) else x) = _; rw [if_pos hz]] at hp
        exact ih (p + 1) _ (by omega) (by omega) hp
      · skip
        rw [if_neg hz]
        show V 3 MX0_servedBits 17 [some (vR 0 b), some (vZ x), some (vZ p)] [vZ 0] σ post
        refine V_run kX0_servedBits 3 [1] (show (zr 0 ∧ 0 = 0) ∧ V 3 MX0_servedBits 4 [some (vR 0 b), some (vZ x), some (vZ (p + 1))] [] σ post from ⟨(by omega), ?_⟩)
        rw [show zSvb C (m + 1) p x = zSvb C m (p + 1) x by show zSvb C m (p + 1) (if dl (zD C 23) p = 0 then zor x (zshl 1 p) else x) = _; rw [if_neg hz]] at hp
        exact ih (p + 1) _ (by omega) (by omega) hp
  exact loop (cn C).toNat 0 0 (by omega) (by omega) hp
set_option maxHeartbeats 4000000 in
set_option maxRecDepth 100000 in
/-- stood -/
theorem c_C_stood {b : Nat} {C : zCf} {p : Int} {σ : zSt} {post : Option VV → zSt → Prop} (hC : zCv C) (hz1 : zlen (b + 1) = 24) (hz2 : zlen (b + 2) = 24) (hco : zCo σ b C 24) (p0 : 0 ≤ p) (p1 : p < 12) (hp : post (some (vZ (zSto C p 24 0 0))) σ) : Mc 2 MX0_stood [vR 0 b, vZ p] σ post := by
  show V 2 MX0_stood 0 [some (vR 0 b), some (vZ p), none, none] [] σ post
  refine V_run kX0_stood 4 [] (show V 2 MX0_stood 4 [some (vR 0 b), some (vZ p), some (vZ 0), some (vZ 0)] [] σ post from ?_)
  have loop : ∀ (m : Nat) (t a : Int), 0 ≤ t → t + m = 24 → post (some (vZ (zSto C p m t a))) σ → V 2 MX0_stood 4 [some (vR 0 b), some (vZ p), some (vZ a), some (vZ t)] [] σ post := by
    intro m
    induction m with
    | zero =>
      intro t a hi0 hi hp
      refine V_run kX0_stood 4 [1] (show (zr t ∧ zr 24 ∧ 24 ≤ t) ∧ V 2 MX0_stood 30 [some (vR 0 b), some (vZ p), some (vZ a), some (vZ t)] [vZ a] σ post from ⟨(by omega), ?_⟩)
      exact V_iret kX0_stood rfl rfl (hp)
    | succ m ih =>
      intro t a hi0 hi hp
      refine V_run kX0_stood 6 [0] (show (zr t ∧ zr 24 ∧ t < 24) ∧ V 2 MX0_stood 13 [some (vR 0 b), some (vZ p), some (vZ a), some (vZ t)] [vZ p, vZ t, vR 0 b] σ post from ⟨(by omega), ?_⟩)
      have hr := zPla_rng hC t p0
      refine V_callV (a := [vZ t, vZ p]) (rest := []) kX0_stood rfl oX0_placeOf iX0_placeOf lk_0_121 rfl rfl rfl (Nat.le_of_ble_eq_true rfl) (Nat.le_of_ble_eq_true rfl) (Nat.le_of_ble_eq_true rfl) (post' := fun zv zσ => V 2 MX0_stood 16 [some (vR 0 b), some (vZ p), some (vZ a), some (vZ t)] (zv.toList ++ []) zσ post) (c_C_placeOf hC hz1 hz2 hco hi0 (by omega) p0 p1 ((show V 2 MX0_stood 16 [some (vR 0 b), some (vZ p), some (vZ a), some (vZ t)] [vZ (zPla C t p)] σ post from ?_))) (fun _ _ h => h)
      refine V_run kX0_stood 1 [] (show V 2 MX0_stood 17 [some (vR 0 b), some (vZ p), some (vZ a), some (vZ t)] [vZ (-1), vZ (zPla C t p)] σ post from ?_)
      by_cases hz : zPla C t p = -1
      · skip
        refine V_run kX0_stood 3 [1] (show (zr (zPla C t p) ∧ zr (-1) ∧ (zPla C t p) = (-1)) ∧ V 2 MX0_stood 4 [some (vR 0 b), some (vZ p), some (vZ a), some (vZ (t + 1))] [] σ post from ⟨(by omega), ?_⟩)
        rw [show zSto C p (m + 1) t a = zSto C p m (t + 1) a by show zSto C p m (t + 1) (if zPla C t p = -1 then a else a + 1) = _; rw [if_pos hz]] at hp
        exact ih (t + 1) _ (by omega) (by omega) hp
      · skip
        refine V_run kX0_stood 4 [0] (show (zr (zPla C t p) ∧ zr (-1) ∧ ¬ (zPla C t p) = (-1)) ∧ V 2 MX0_stood 4 [some (vR 0 b), some (vZ p), some (vZ (a + 1)), some (vZ (t + 1))] [] σ post from ⟨(by omega), ?_⟩)
        rw [show zSto C p (m + 1) t a = zSto C p m (t + 1) (a + 1) by show zSto C p m (t + 1) (if zPla C t p = -1 then a else a + 1) = _; rw [if_neg hz]] at hp
        exact ih (t + 1) _ (by omega) (by omega) hp
  exact loop 24 0 0 (by omega) (by omega) hp
set_option maxHeartbeats 4000000 in
set_option maxRecDepth 100000 in
/-- minutesFirst -/
theorem c_C_minutesFirst {b : Nat} {C : zCf} {p : Int} {σ : zSt} {post : Option VV → zSt → Prop} (hC : zCv C) (hz1 : zlen (b + 1) = 24) (hz2 : zlen (b + 2) = 24) (hco : zCo σ b C 24) (p0 : 0 ≤ p) (p1 : p < 12) (hp : post (some (vZ (zMf C p 24 0 0))) σ) : Mc 2 MX0_minutesFirst [vR 0 b, vZ p] σ post := by
  show V 2 MX0_minutesFirst 0 [some (vR 0 b), some (vZ p), none, none] [] σ post
  refine V_run kX0_minutesFirst 4 [] (show V 2 MX0_minutesFirst 4 [some (vR 0 b), some (vZ p), some (vZ 0), some (vZ 0)] [] σ post from ?_)
  have loop : ∀ (m : Nat) (t a : Int), 0 ≤ t → t + m = 24 → post (some (vZ (zMf C p m t a))) σ → V 2 MX0_minutesFirst 4 [some (vR 0 b), some (vZ p), some (vZ a), some (vZ t)] [] σ post := by
    intro m
    induction m with
    | zero =>
      intro t a hi0 hi hp
      refine V_run kX0_minutesFirst 4 [1] (show (zr t ∧ zr 24 ∧ 24 ≤ t) ∧ V 2 MX0_minutesFirst 30 [some (vR 0 b), some (vZ p), some (vZ a), some (vZ t)] [vZ a] σ post from ⟨(by omega), ?_⟩)
      exact V_iret kX0_minutesFirst rfl rfl (hp)
    | succ m ih =>
      intro t a hi0 hi hp
      refine V_run kX0_minutesFirst 6 [0] (show (zr t ∧ zr 24 ∧ t < 24) ∧ V 2 MX0_minutesFirst 13 [some (vR 0 b), some (vZ p), some (vZ a), some (vZ t)] [vZ 0, vZ t, vR 0 b] σ post from ⟨(by omega), ?_⟩)
      have hr := zWho_rng hC t (j := 0) (by omega)
      refine V_callV (a := [vZ t, vZ 0]) (rest := []) kX0_minutesFirst rfl oX0_whoAt iX0_whoAt lk_0_124 rfl rfl rfl (Nat.le_of_ble_eq_true rfl) (Nat.le_of_ble_eq_true rfl) (Nat.le_of_ble_eq_true rfl) (post' := fun zv zσ => V 2 MX0_minutesFirst 16 [some (vR 0 b), some (vZ p), some (vZ a), some (vZ t)] (zv.toList ++ []) zσ post) (c_C_whoAt hC hz1 hz2 hco hi0 (by omega) (by omega) (by omega) ((show V 2 MX0_minutesFirst 16 [some (vR 0 b), some (vZ p), some (vZ a), some (vZ t)] [vZ (zWho C t 0)] σ post from ?_))) (fun _ _ h => h)
      refine V_run kX0_minutesFirst 1 [] (show V 2 MX0_minutesFirst 17 [some (vR 0 b), some (vZ p), some (vZ a), some (vZ t)] [vZ p, vZ (zWho C t 0)] σ post from ?_)
      by_cases hz : zWho C t 0 = p
      · skip
        refine V_run kX0_minutesFirst 4 [0] (show (zr (zWho C t 0) ∧ zr p ∧ (zWho C t 0) = p) ∧ V 2 MX0_minutesFirst 4 [some (vR 0 b), some (vZ p), some (vZ (a + 1)), some (vZ (t + 1))] [] σ post from ⟨(by omega), ?_⟩)
        rw [show zMf C p (m + 1) t a = zMf C p m (t + 1) (a + 1) by show zMf C p m (t + 1) (if zWho C t 0 = p then a + 1 else a) = _; rw [if_pos hz]] at hp
        exact ih (t + 1) _ (by omega) (by omega) hp
      · skip
        refine V_run kX0_minutesFirst 3 [1] (show (zr (zWho C t 0) ∧ zr p ∧ ¬ (zWho C t 0) = p) ∧ V 2 MX0_minutesFirst 4 [some (vR 0 b), some (vZ p), some (vZ a), some (vZ (t + 1))] [] σ post from ⟨(by omega), ?_⟩)
        rw [show zMf C p (m + 1) t a = zMf C p m (t + 1) a by show zMf C p m (t + 1) (if zWho C t 0 = p then a + 1 else a) = _; rw [if_neg hz]] at hp
        exact ih (t + 1) _ (by omega) (by omega) hp
  exact loop 24 0 0 (by omega) (by omega) hp
set_option maxHeartbeats 4000000 in
set_option maxRecDepth 100000 in
/-- moves -/
theorem c_C_moves {b : Nat} {C : zCf} {p : Int} {σ : zSt} {post : Option VV → zSt → Prop} (hC : zCv C) (hz1 : zlen (b + 1) = 24) (hz2 : zlen (b + 2) = 24) (hco : zCo σ b C 24) (p0 : 0 ≤ p) (p1 : p < 12) (hp : post (some (vZ (zMov C p 24 0 (-1) 0))) σ) : Mc 2 MX0_moves [vR 0 b, vZ p] σ post := by
  show V 2 MX0_moves 0 [some (vR 0 b), some (vZ p), none, none, none, none] [] σ post
  refine V_run kX0_moves 6 [] (show V 2 MX0_moves 7 [some (vR 0 b), some (vZ p), some (vZ 0), some (vZ (-1)), some (vZ 0), none] [] σ post from ?_)
  refine V_drop (L := [some (vR 0 b), some (vZ p), some (vZ 0), some (vZ (-1)), some (vZ 0), none]) ⟨rfl, ⟨rfl, ⟨rfl, ⟨rfl, ⟨rfl, trivial⟩⟩⟩⟩⟩ ?_
  have loop : ∀ (m : Nat) (t x a : Int), 0 ≤ t → t + m = 24 → (-1 ≤ x ∧ x < 12) → post (some (vZ (zMov C p m t x a))) σ → V 2 MX0_moves 7 [some (vR 0 b), some (vZ p), some (vZ a), some (vZ x), some (vZ t), none] [] σ post := by
    intro m
    induction m with
    | zero =>
      intro t x a hi0 hi hx hp
      refine V_run kX0_moves 4 [1] (show (zr t ∧ zr 24 ∧ 24 ≤ t) ∧ V 2 MX0_moves 53 [some (vR 0 b), some (vZ p), some (vZ a), some (vZ x), some (vZ t), none] [vZ a] σ post from ⟨(by omega), ?_⟩)
      exact V_iret kX0_moves rfl rfl (hp)
    | succ m ih =>
      intro t x a hi0 hi hx hp
      refine V_run kX0_moves 6 [0] (show (zr t ∧ zr 24 ∧ t < 24) ∧ V 2 MX0_moves 18 [some (vR 0 b), some (vZ p), some (vZ a), some (vZ x), some (vZ t), none] [vZ p, vZ t, vR 0 b] σ post from ⟨(by omega), ?_⟩)
      have hr := zPla_rng hC t p0
      refine V_callV (a := [vZ t, vZ p]) (rest := []) kX0_moves rfl oX0_placeOf iX0_placeOf lk_0_121 rfl rfl rfl (Nat.le_of_ble_eq_true rfl) (Nat.le_of_ble_eq_true rfl) (Nat.le_of_ble_eq_true rfl) (post' := fun zv zσ => V 2 MX0_moves 21 [some (vR 0 b), some (vZ p), some (vZ a), some (vZ x), some (vZ t), none] (zv.toList ++ []) zσ post) (c_C_placeOf hC hz1 hz2 hco hi0 (by omega) p0 p1 ((show V 2 MX0_moves 21 [some (vR 0 b), some (vZ p), some (vZ a), some (vZ x), some (vZ t), none] [vZ (zPla C t p)] σ post from ?_))) (fun _ _ h => h)
      refine V_run kX0_moves 3 [] (show V 2 MX0_moves 25 [some (vR 0 b), some (vZ p), some (vZ a), some (vZ x), some (vZ t), some (vZ (zPla C t p))] [vZ (-1), vZ x] σ post from ?_)
      by_cases h1 : x = -1
      · skip
        refine V_run kX0_moves 5 [1] (show (zr x ∧ zr (-1) ∧ x = (-1)) ∧ V 2 MX0_moves 7 [some (vR 0 b), some (vZ p), some (vZ a), some (vZ (zPla C t p)), some (vZ (t + 1)), some (vZ (zPla C t p))] [] σ post from ⟨(by omega), ?_⟩)
        refine V_drop (L := [some (vR 0 b), some (vZ p), some (vZ a), some (vZ (zPla C t p)), some (vZ (t + 1)), none]) ⟨rfl, ⟨rfl, ⟨rfl, ⟨rfl, ⟨rfl, trivial⟩⟩⟩⟩⟩ ?_
        rw [show zMov C p (m + 1) t x a = zMov C p m (t + 1) (zPla C t p) a by show zMov C p m (t + 1) (zPla C t p) (if x = -1 ∨ zPla C t p = -1 ∨ zPla C t p = x then a else a + 1) = _; rw [if_pos (by omega)]] at hp
        exact ih (t + 1) _ _ (by omega) (by omega) (by omega) hp
      · skip
        refine V_run kX0_moves 3 [0] (show (zr x ∧ zr (-1) ∧ ¬ x = (-1)) ∧ V 2 MX0_moves 31 [some (vR 0 b), some (vZ p), some (vZ a), some (vZ x), some (vZ t), some (vZ (zPla C t p))] [vZ (-1), vZ (zPla C t p)] σ post from ⟨(by omega), ?_⟩)
        by_cases h2 : zPla C t p = -1
        · skip
          refine V_run kX0_moves 5 [1] (show (zr (zPla C t p) ∧ zr (-1) ∧ (zPla C t p) = (-1)) ∧ V 2 MX0_moves 7 [some (vR 0 b), some (vZ p), some (vZ a), some (vZ (zPla C t p)), some (vZ (t + 1)), some (vZ (zPla C t p))] [] σ post from ⟨(by omega), ?_⟩)
          refine V_drop (L := [some (vR 0 b), some (vZ p), some (vZ a), some (vZ (zPla C t p)), some (vZ (t + 1)), none]) ⟨rfl, ⟨rfl, ⟨rfl, ⟨rfl, ⟨rfl, trivial⟩⟩⟩⟩⟩ ?_
          rw [show zMov C p (m + 1) t x a = zMov C p m (t + 1) (zPla C t p) a by show zMov C p m (t + 1) (zPla C t p) (if x = -1 ∨ zPla C t p = -1 ∨ zPla C t p = x then a else a + 1) = _; rw [if_pos (by omega)]] at hp
          exact ih (t + 1) _ _ (by omega) (by omega) (by omega) hp
        · skip
          refine V_run kX0_moves 3 [0] (show (zr (zPla C t p) ∧ zr (-1) ∧ ¬ (zPla C t p) = (-1)) ∧ V 2 MX0_moves 37 [some (vR 0 b), some (vZ p), some (vZ a), some (vZ x), some (vZ t), some (vZ (zPla C t p))] [vZ x, vZ (zPla C t p)] σ post from ⟨(by omega), ?_⟩)
          by_cases h3 : zPla C t p = x
          · skip
            refine V_run kX0_moves 5 [1] (show (zr (zPla C t p) ∧ zr x ∧ (zPla C t p) = x) ∧ V 2 MX0_moves 7 [some (vR 0 b), some (vZ p), some (vZ a), some (vZ (zPla C t p)), some (vZ (t + 1)), some (vZ (zPla C t p))] [] σ post from ⟨(by omega), ?_⟩)
            refine V_drop (L := [some (vR 0 b), some (vZ p), some (vZ a), some (vZ (zPla C t p)), some (vZ (t + 1)), none]) ⟨rfl, ⟨rfl, ⟨rfl, ⟨rfl, ⟨rfl, trivial⟩⟩⟩⟩⟩ ?_
            rw [show zMov C p (m + 1) t x a = zMov C p m (t + 1) (zPla C t p) a by show zMov C p m (t + 1) (zPla C t p) (if x = -1 ∨ zPla C t p = -1 ∨ zPla C t p = x then a else a + 1) = _; rw [if_pos (by omega)]] at hp
            exact ih (t + 1) _ _ (by omega) (by omega) (by omega) hp
          · skip
            refine V_run kX0_moves 6 [0] (show (zr (zPla C t p) ∧ zr x ∧ ¬ (zPla C t p) = x) ∧ V 2 MX0_moves 7 [some (vR 0 b), some (vZ p), some (vZ (a + 1)), some (vZ (zPla C t p)), some (vZ (t + 1)), some (vZ (zPla C t p))] [] σ post from ⟨(by omega), ?_⟩)
            refine V_drop (L := [some (vR 0 b), some (vZ p), some (vZ (a + 1)), some (vZ (zPla C t p)), some (vZ (t + 1)), none]) ⟨rfl, ⟨rfl, ⟨rfl, ⟨rfl, ⟨rfl, trivial⟩⟩⟩⟩⟩ ?_
            rw [show zMov C p (m + 1) t x a = zMov C p m (t + 1) (zPla C t p) (a + 1) by show zMov C p m (t + 1) (zPla C t p) (if x = -1 ∨ zPla C t p = -1 ∨ zPla C t p = x then a else a + 1) = _; rw [if_neg (by omega)]] at hp
            exact ih (t + 1) _ _ (by omega) (by omega) (by omega) hp
  exact loop 24 0 (-1) 0 (by omega) (by omega) (by omega) hp
