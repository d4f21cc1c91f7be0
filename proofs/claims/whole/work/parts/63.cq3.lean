theorem zFit_eq {f : Int → Int → Int} {m p k m' p' k' : Int → Int} {n : Nat} (h : ∀ i : Int, 0 ≤ i → i < n → m' i = m i ∧ p' i = p i ∧ k' i = k i) : zFit f m' p' k' n = zFit f m p k n := by
  have e : zFit f m' p' k' n = true ↔ zFit f m p k n = true := by
    rw [zFit_i, zFit_i]
    constructor
    · intro q i a b; have z := h i a b; rw [← z.1, ← z.2.1, ← z.2.2]; exact q i a b
    · intro q i a b; have z := h i a b; rw [z.1, z.2.1, z.2.2]; exact q i a b
  cases h1 : zFit f m p k n with
  | true => exact e.mpr h1
  | false =>
    cases h2 : zFit f m' p' k' n with
    | true => rw [e.mp h2] at h1; exact absurd h1 (by decide)
    | false => rfl
theorem c_N_fit {C : zCf} {S : zAb} {σ : zSt} {post : Option VV → zSt → Prop} (hG : RG σ S) (ho : aOk S) (hC : zCv C) (hco : zCo σ 26 C 24) (hp : post (some (vZ (if aFit S C = true then 1 else 0))) σ) : Mc 2 MX4_fit [vR 3 29, vR 0 26] σ post := by
  have hsn := ho.2.2.2.1
  refine c_G_fit (b := 29) (a := 26) rfl rfl rfl (by rw [hG.1]; exact hsn.1) (by rw [hG.1]; exact hsn.2.1) (fun i a b => ?_) hC rfl rfl hco (fun t j q1 q2 => ?_) ?_
  · rw [hG.1] at b
    have z := hG.2 i a b
    have z2 := hsn.2.2 i a b
    show (0 ≤ σ.1 30 i ∧ σ.1 30 i < 24) ∧ (0 ≤ σ.1 31 i ∧ σ.1 31 i < 12) ∧ -1 ≤ σ.1 32 i ∧ σ.1 32 i ≤ 12
    rw [z.1, z.2.1, z.2.2]
    unfold aW
    refine ⟨by omega, by omega, ?_⟩
    split <;> omega
  · have z := zWho_rng hC t q2.1
    omega
  · have e : zFit (zWho C) (σ.1 (29 + 1)) (σ.1 (29 + 2)) (σ.1 (29 + 3)) (σ.1 29 3).toNat = aFit S C := by
      rw [hG.1]
      exact zFit_eq (fun i a b => hG.2 i a (by omega))
    rw [e]; exact hp
theorem not_on {C : zCf} {x : Int} (hE : cE C ≤ 9) : ∀ e : Int, 0 ≤ e → e < cE C → zbt (zand (-1) (zxor x (-1))) e = cOn (cNot C x) e := fun e a b => by
  rw [zbt_and, zbt_m1 (by omega) a, zbt_not (by omega) a, Bool.true_and]
  rfl
def spB (r : Int × Int × Int) : Int := if r.1 = -1 then -1 else if r.1 = 0 then 0 else if r.1 = 1 then zshl 1 r.2.1 else zor (zshl 1 r.2.1) (zshl 1 r.2.2)
def spQ (r : Int × Int × Int) : Prop := r.1 = -1 ∨ r.1 = 0 ∨ (r.1 = 1 ∧ 0 ≤ r.2.1 ∧ r.2.1 < 8) ∨ (r.1 = 2 ∧ 0 ≤ r.2.1 ∧ r.2.1 < r.2.2 ∧ r.2.2 < 8)
theorem zSp3_q {C : zCf} {a : Int} {Z : Int × Int × Int} (hZ : spQ Z) (a0 : 0 ≤ a) : ∀ (m : Nat) (b : Int), a < b → b + m ≤ 8 → spQ (zSp3 C a Z m b)
  | 0, _, _, _ => hZ
  | m + 1, b, h1, h2 => by
    unfold zSp3
    split
    · exact Or.inr (Or.inr (Or.inr ⟨rfl, a0, h1, show b < 8 by omega⟩))
    · exact zSp3_q hZ a0 m (b + 1) (by omega) (by omega)
theorem zSp2_q {C : zCf} : ∀ (m : Nat) (a : Int), 0 ≤ a → a + m ≤ 8 → spQ (zSp2 C m a)
  | 0, _, _, _ => Or.inl rfl
  | m + 1, a, h1, h2 => by
    unfold zSp2
    exact zSp3_q (zSp2_q m (a + 1) (by omega) (by omega)) h1 m (a + 1) (by omega) (by omega)
theorem zSp1_q {C : zCf} {Z : Int × Int × Int} (hZ : spQ Z) : ∀ (m : Nat) (a : Int), 0 ≤ a → a + m ≤ 8 → spQ (zSp1 C Z m a)
  | 0, _, _, _ => hZ
  | m + 1, a, h1, h2 => by
    unfold zSp1
    split
    · exact Or.inr (Or.inr (Or.inl ⟨rfl, h1, show a < 8 by omega⟩))
    · exact zSp1_q hZ m (a + 1) (by omega) (by omega)
theorem zSpr_q {S : zAb} (ho : aOk S) : spQ (zSpr S) := by
  have h := ho.2.2.1
  unfold zSpr
  split
  · exact Or.inr (Or.inl rfl)
  · exact zSp1_q (zSp2_q _ 0 (by omega) (by omega)) _ 0 (by omega) (by omega)
def zNb (x n : Int) : Nat → Int → Int → Int
  | 0, _, _ => -1
  | m + 1, b, a => if zbt x b = true then (if a = n then b else zNb x n m (b + 1) (a + 1)) else zNb x n m (b + 1) a
def spc1 (a : Nat) : Bool := decide (zpop (zshl 1 (a : Int)) = 1 ∧ zNb (zshl 1 (a : Int)) 0 8 0 0 = a ∧ zNb (zshl 1 (a : Int)) 1 8 0 0 = -1 ∧ 0 ≤ zshl 1 (a : Int) ∧ zshl 1 (a : Int) < 4096)
def spc2 (a b : Nat) : Bool := decide (a < b → zpop (zor (zshl 1 (a : Int)) (zshl 1 (b : Int))) = 2 ∧ zNb (zor (zshl 1 (a : Int)) (zshl 1 (b : Int))) 0 8 0 0 = a ∧ zNb (zor (zshl 1 (a : Int)) (zshl 1 (b : Int))) 1 8 0 0 = b ∧ 0 ≤ zor (zshl 1 (a : Int)) (zshl 1 (b : Int)) ∧ zor (zshl 1 (a : Int)) (zshl 1 (b : Int)) < 4096)
theorem spc1_all : (List.range 8).all spc1 = true := by decide +kernel
theorem spc2_all : (List.range 8).all (fun a => (List.range 8).all (spc2 a)) = true := by decide +kernel
theorem spc0 : zpop 0 = 0 ∧ zNb 0 0 8 0 0 = -1 ∧ zNb 0 1 8 0 0 = -1 := by decide +kernel
theorem sp_ok {r : Int × Int × Int} {i : Int} (h : spQ r) (i0 : -1 ≤ i) (i1 : i ≤ 1) : (r.1 = -1 ∧ spB r = -1) ∨ (¬ r.1 = -1 ∧ 0 ≤ spB r ∧ spB r < 4096 ∧ (if i = -1 then zpop (spB r) else zNb (spB r) i 8 0 0) = zOfR r i) := by
  obtain ⟨n, a, b⟩ := r
  rcases h with h | h | ⟨h, h1, h2⟩ | ⟨h, h1, h2, h3⟩
  · have h : n = -1 := h
    exact Or.inl ⟨h, by subst h; rfl⟩
  · have h : n = 0 := h
    subst h
    refine Or.inr ⟨show ¬ (0 : Int) = -1 by decide, show (0 : Int) ≤ 0 by decide, show (0 : Int) < 4096 by decide, ?_⟩
    show (if i = -1 then zpop 0 else zNb 0 i 8 0 0) = (if i = -1 then 0 else if i < 0 then (if i = 0 then a else b) else -1)
    have hi : i = -1 ∨ i = 0 ∨ i = 1 := by omega
    rcases hi with hi | hi | hi
    · rw [if_pos hi, if_pos hi]; exact spc0.1
    · subst hi; rw [if_neg (by decide), if_neg (by decide), if_neg (by decide)]; exact spc0.2.1
    · subst hi; rw [if_neg (by decide), if_neg (by decide), if_neg (by decide)]; exact spc0.2.2
  · have h : n = 1 := h
    subst h
    have h1 : 0 ≤ a := h1
    have h2 : a < 8 := h2
    obtain ⟨q, rfl⟩ := zi_of h1
    obtain ⟨c1, c2, c3, c4, c5⟩ := of_decide_eq_true (List.all_eq_true.mp spc1_all q (List.mem_range.mpr (by omega)))
    refine Or.inr ⟨show ¬ (1 : Int) = -1 by decide, c4, c5, ?_⟩
    show (if i = -1 then zpop (zshl 1 (q : Int)) else zNb (zshl 1 (q : Int)) i 8 0 0) = (if i = -1 then 1 else if i < 1 then (if i = 0 then (q : Int) else b) else -1)
    have hi : i = -1 ∨ i = 0 ∨ i = 1 := by omega
    rcases hi with hi | hi | hi
    · rw [if_pos hi, if_pos hi]; exact c1
    · subst hi; rw [if_neg (by decide), if_neg (by decide), if_pos (by decide), if_pos rfl]; exact c2
    · subst hi; rw [if_neg (by decide), if_neg (by decide), if_neg (by decide)]; exact c3
  · have h : n = 2 := h
    subst h
    have h1 : 0 ≤ a := h1
    have h2 : a < b := h2
    have h3 : b < 8 := h3
    obtain ⟨q, rfl⟩ := zi_of h1
    obtain ⟨p, rfl⟩ := zi_of (show 0 ≤ b by omega)
    obtain ⟨c1, c2, c3, c4, c5⟩ := of_decide_eq_true (List.all_eq_true.mp (List.all_eq_true.mp spc2_all q (List.mem_range.mpr (by omega))) p (List.mem_range.mpr (by omega))) (by omega)
    refine Or.inr ⟨show ¬ (2 : Int) = -1 by decide, c4, c5, ?_⟩
    show (if i = -1 then zpop (zor (zshl 1 (q : Int)) (zshl 1 (p : Int))) else zNb (zor (zshl 1 (q : Int)) (zshl 1 (p : Int))) i 8 0 0) = (if i = -1 then 2 else if i < 2 then (if i = 0 then (q : Int) else (p : Int)) else -1)
    have hi : i = -1 ∨ i = 0 ∨ i = 1 := by omega
    rcases hi with hi | hi | hi
    · rw [if_pos hi, if_pos hi]; exact c1
    · subst hi; rw [if_neg (by decide), if_neg (by decide), if_pos (by decide), if_pos rfl]; exact c2
    · subst hi; rw [if_neg (by decide), if_neg (by decide), if_pos (by decide), if_neg (by decide)]; exact c3
set_option maxHeartbeats 4000000 in
set_option maxRecDepth 100000 in
/-- endsEmptyWithout -/
theorem c_N_ends {x : Int} {S : zAb} {σ : zSt} {post : Option VV → zSt → Prop} (hR : RC σ S) (ho : aOk S) (hp : ∀ σ', dTr σ σ' → post (some (vZ (if zEmp (aC S) x then 1 else 0))) σ') : Mc 3 MX6_endsEmptyWithout [vR 5 0, vZ x] σ post := by
  have hok := aC_ok ho
  have hcn := hok.1
  obtain ⟨hT, hPx, hCo, hG, hS, hK, hF⟩ := id hR
  have hv3 : zCv (cNot (aC S) x) := hok
  have hE : cE (aC S) ≤ 9 := hok.2.1.2
  have hJ := (zJ_D hv3 23).1
  show V 3 MX6_endsEmptyWithout 0 [some (vR 5 0), some (vZ x)] [] σ post
  refine V_run kX6_endsEmptyWithout 9 [] (show V 3 MX6_endsEmptyWithout 13 [some (vR 5 0), some (vZ x)] [vZ (zand (-1) (zxor x (-1))), vR 1 5, vR 0 26] σ post from ?_)
  refine V_callV (a := [vR 1 5, vZ (zand (-1) (zxor x (-1)))]) (rest := []) kX6_endsEmptyWithout rfl oX0_run iX0_run lk_6_182 rfl rfl rfl (Nat.le_of_ble_eq_true rfl) (Nat.le_of_ble_eq_true rfl) (Nat.le_of_ble_eq_true rfl) (post' := fun zv zσ => V 3 MX6_endsEmptyWithout 16 [some (vR 5 0), some (vZ x)] (zv.toList ++ []) zσ post) (c_X_run zPz5 (by decide) (show zPl σ 5 (cNot (aC S) x) from hPx.1) (not_on hE) (fun σ4 hf4 hco4 => (show V 3 MX6_endsEmptyWithout 16 [some (vR 5 0), some (vZ x)] [] σ4 post from ?_))) (fun _ _ h => h)
  refine V_run kX6_endsEmptyWithout 3 [] (show V 3 MX6_endsEmptyWithout 22 [some (vR 5 0), some (vZ x)] [vZ 23, vR 0 26] σ4 post from ?_)
  refine V_callV (a := [vZ 23]) (rest := []) kX6_endsEmptyWithout rfl oX0_howMany iX0_howMany lk_6_142 rfl rfl rfl (Nat.le_of_ble_eq_true rfl) (Nat.le_of_ble_eq_true rfl) (Nat.le_of_ble_eq_true rfl) (post' := fun zv zσ => V 3 MX6_endsEmptyWithout 25 [some (vR 5 0), some (vZ x)] (zv.toList ++ []) zσ post) (c_C_howMany (b := 26) hv3 rfl rfl hco4 (by omega) (by omega) ((show V 3 MX6_endsEmptyWithout 25 [some (vR 5 0), some (vZ x)] [vZ (dn (zD (cNot (aC S) x) 23))] σ4 post from ?_))) (fun _ _ h => h)
  have hp := hp σ4 hf4.d
  by_cases h1 : dn (zD (cNot (aC S) x) 23) = 0
  · skip
    rw [if_pos (show zEmp (aC S) x from h1)] at hp
    refine V_run kX6_endsEmptyWithout 3 [0] (show (zr (dn (zD (cNot (aC S) x) 23)) ∧ (dn (zD (cNot (aC S) x) 23)) = 0) ∧ V 3 MX6_endsEmptyWithout 33 [some (vR 5 0), some (vZ x)] [vZ 1] σ4 post from ⟨(by omega), ?_⟩)
    exact V_zret kX6_endsEmptyWithout rfl rfl (Or.inr rfl) (hp)
  · skip
    rw [if_neg (show ¬ zEmp (aC S) x from h1)] at hp
    refine V_run kX6_endsEmptyWithout 2 [1] (show (zr (dn (zD (cNot (aC S) x) 23)) ∧ ¬ (dn (zD (cNot (aC S) x) 23)) = 0) ∧ V 3 MX6_endsEmptyWithout 33 [some (vR 5 0), some (vZ x)] [vZ 0] σ4 post from ⟨(by omega), ?_⟩)
    exact V_zret kX6_endsEmptyWithout rfl rfl (Or.inl rfl) (hp)
set_option maxHeartbeats 4000000 in
set_option maxRecDepth 100000 in
/-- sparedEvents -/
theorem c_N_spared {S : zAb} {σ : zSt} {post : Option VV → zSt → Prop} (hR : RC σ S) (ho : aOk S) (hp : ∀ σ', dTr σ σ' → post (some (vZ (spB (zSpr S)))) σ') : Mc 4 MX6_sparedEvents [vR 5 0] σ post := by
  have hok := aC_ok ho
  have hcn := hok.1
  obtain ⟨hT, hPx, hCo, hG, hS, hK, hF⟩ := id hR
  have hen := ho.2.2.1
  obtain ⟨v, hv⟩ : ∃ v, v = zSpr S := ⟨_, rfl⟩
  rw [← hv] at hp
  unfold zSpr at hv
  have hRt : ∀ σ2 : zSt, dTr σ σ2 → RC σ2 S := fun σ2 h => RC_tr h hR
  have loop2 : ∀ (m : Nat) (i : Int), 0 ≤ i → i + m = a_eN S → zSp2 (aC S) m i = v → ∀ σ2 : zSt, dTr σ σ2 → V 4 MX6_sparedEvents 47 [some (vR 5 0), some (vZ (a_eN S)), some (vZ i), none] [] σ2 post := by
    intro m
    induction m with
    | zero =>
      intro i i0 i1 he σ2 hk
      unfold zSp2 at he
      have hp := hp σ2 hk
      rw [← he] at hp
      refine V_run kX6_sparedEvents 4 [1] (show (zr i ∧ zr (a_eN S) ∧ (a_eN S) ≤ i) ∧ V 4 MX6_sparedEvents 96 [some (vR 5 0), some (vZ (a_eN S)), some (vZ i), none] [vZ (-1)] σ2 post from ⟨(by omega), ?_⟩)
      exact V_iret kX6_sparedEvents rfl rfl (hp)
    | succ m ih =>
      intro i i0 i1 he σ2 hk
      unfold zSp2 at he
      have inner : ∀ (m2 : Nat) (j : Int), 0 ≤ j → j + m2 = a_eN S → zSp3 (aC S) i (zSp2 (aC S) m (i + 1)) m2 j = v → ∀ σ2 : zSt, dTr σ σ2 → V 4 MX6_sparedEvents 56 [some (vR 5 0), some (vZ (a_eN S)), some (vZ i), some (vZ j)] [] σ2 post := by
        intro m2
        induction m2 with
        | zero =>
          intro j j0 j1 he σ2 hk
          unfold zSp3 at he
          refine V_run kX6_sparedEvents 5 [1] (show (zr j ∧ zr (a_eN S) ∧ (a_eN S) ≤ j) ∧ V 4 MX6_sparedEvents 47 [some (vR 5 0), some (vZ (a_eN S)), some (vZ (i + 1)), some (vZ j)] [] σ2 post from ⟨(by omega), ?_⟩)
          refine V_drop (L := [some (vR 5 0), some (vZ (a_eN S)), some (vZ (i + 1)), none]) ⟨rfl, ⟨rfl, ⟨rfl, trivial⟩⟩⟩ ?_
          exact ih (i + 1) (by omega) (by omega) he σ2 hk
        | succ m2 ih2 =>
          intro j j0 j1 he σ2 hk
          unfold zSp3 at he
          refine V_run kX6_sparedEvents 11 [0] (show (zr j ∧ zr (a_eN S) ∧ j < (a_eN S)) ∧ V 4 MX6_sparedEvents 69 [some (vR 5 0), some (vZ (a_eN S)), some (vZ i), some (vZ j)] [vZ (zor (zshl 1 i) (zshl 1 j)), vR 5 0] σ2 post from ⟨(by omega), ?_⟩)
          refine V_callV (a := [vZ (zor (zshl 1 i) (zshl 1 j))]) (rest := []) kX6_sparedEvents rfl oX6_endsEmptyWithout iX6_endsEmptyWithout lk_6_347 rfl rfl rfl (Nat.le_of_ble_eq_true rfl) (Nat.le_of_ble_eq_true rfl) (Nat.le_of_ble_eq_true rfl) (post' := fun zv zσ => V 4 MX6_sparedEvents 72 [some (vR 5 0), some (vZ (a_eN S)), some (vZ i), some (vZ j)] (zv.toList ++ []) zσ post) (c_N_ends (hRt σ2 hk) ho (fun σ4 hk4 => (show V 4 MX6_sparedEvents 72 [some (vR 5 0), some (vZ (a_eN S)), some (vZ i), some (vZ j)] [vZ (if zEmp (aC S) (zor (zshl 1 i) (zshl 1 j)) then 1 else 0)] σ4 post from ?_))) (fun _ _ h => h)
          by_cases h1 : zEmp (aC S) (zor (zshl 1 i) (zshl 1 j))
          · skip
            rw [if_pos h1] at he
            have hp := hp σ4 (hk.tr hk4)
            rw [← he] at hp
            refine V_top (if_pos h1) ?_
            refine V_run kX6_sparedEvents 8 [0] (show (zr 1 ∧ ¬ 1 = 0) ∧ V 4 MX6_sparedEvents 82 [some (vR 5 0), some (vZ (a_eN S)), some (vZ i), some (vZ j)] [vZ (zor (zshl 1 i) (zshl 1 j))] σ4 post from ⟨(by omega), ?_⟩)
            exact V_iret kX6_sparedEvents rfl rfl (hp)
          · skip
            rw [if_neg h1] at he
            refine V_top (if_neg h1) ?_
            refine V_run kX6_sparedEvents 3 [1] (show (zr 0 ∧ 0 = 0) ∧ V 4 MX6_sparedEvents 56 [some (vR 5 0), some (vZ (a_eN S)), some (vZ i), some (vZ (j + 1))] [] σ4 post from ⟨(by omega), ?_⟩)
            exact ih2 (j + 1) (by omega) (by omega) he σ4 (hk.tr hk4)
      refine V_run kX6_sparedEvents 7 [0] (show (zr i ∧ zr (a_eN S) ∧ i < (a_eN S)) ∧ V 4 MX6_sparedEvents 56 [some (vR 5 0), some (vZ (a_eN S)), some (vZ i), some (vZ (i + 1))] [] σ2 post from ⟨(by omega), ?_⟩)
      exact inner m (i + 1) (by omega) (by omega) he σ2 hk
  have loop1 : ∀ (m : Nat) (i : Int), 0 ≤ i → i + m = a_eN S → zSp1 (aC S) (zSp2 (aC S) (a_eN S).toNat 0) m i = v → ∀ σ2 : zSt, dTr σ σ2 → V 4 MX6_sparedEvents 20 [some (vR 5 0), some (vZ (a_eN S)), some (vZ i), none] [] σ2 post := by
    intro m
    induction m with
    | zero =>
      intro i i0 i1 he σ2 hk
      unfold zSp1 at he
      refine V_run kX6_sparedEvents 5 [1] (show (zr i ∧ zr (a_eN S) ∧ (a_eN S) ≤ i) ∧ V 4 MX6_sparedEvents 47 [some (vR 5 0), some (vZ (a_eN S)), some (vZ 0), none] [] σ2 post from ⟨(by omega), ?_⟩)
      exact loop2 (a_eN S).toNat 0 (by omega) (by omega) he σ2 hk
    | succ m ih =>
      intro i i0 i1 he σ2 hk
      unfold zSp1 at he
      refine V_run kX6_sparedEvents 7 [0] (show (zr i ∧ zr (a_eN S) ∧ i < (a_eN S)) ∧ V 4 MX6_sparedEvents 29 [some (vR 5 0), some (vZ (a_eN S)), some (vZ i), none] [vZ (zshl 1 i), vR 5 0] σ2 post from ⟨(by omega), ?_⟩)
      refine V_callV (a := [vZ (zshl 1 i)]) (rest := []) kX6_sparedEvents rfl oX6_endsEmptyWithout iX6_endsEmptyWithout lk_6_347 rfl rfl rfl (Nat.le_of_ble_eq_true rfl) (Nat.le_of_ble_eq_true rfl) (Nat.le_of_ble_eq_true rfl) (post' := fun zv zσ => V 4 MX6_sparedEvents 32 [some (vR 5 0), some (vZ (a_eN S)), some (vZ i), none] (zv.toList ++ []) zσ post) (c_N_ends (hRt σ2 hk) ho (fun σ4 hk4 => (show V 4 MX6_sparedEvents 32 [some (vR 5 0), some (vZ (a_eN S)), some (vZ i), none] [vZ (if zEmp (aC S) (zshl 1 i) then 1 else 0)] σ4 post from ?_))) (fun _ _ h => h)
      by_cases h1 : zEmp (aC S) (zshl 1 i)
      · skip
        rw [if_pos h1] at he
        have hp := hp σ4 (hk.tr hk4)
        rw [← he] at hp
        refine V_top (if_pos h1) ?_
        refine V_run kX6_sparedEvents 4 [0] (show (zr 1 ∧ ¬ 1 = 0) ∧ V 4 MX6_sparedEvents 38 [some (vR 5 0), some (vZ (a_eN S)), some (vZ i), none] [vZ (zshl 1 i)] σ4 post from ⟨(by omega), ?_⟩)
        exact V_iret kX6_sparedEvents rfl rfl (hp)
      · skip
        rw [if_neg h1] at he
        refine V_top (if_neg h1) ?_
        refine V_run kX6_sparedEvents 3 [1] (show (zr 0 ∧ 0 = 0) ∧ V 4 MX6_sparedEvents 20 [some (vR 5 0), some (vZ (a_eN S)), some (vZ (i + 1)), none] [] σ4 post from ⟨(by omega), ?_⟩)
        exact ih (i + 1) (by omega) (by omega) he σ4 (hk.tr hk4)
  show V 4 MX6_sparedEvents 0 [some (vR 5 0), none, none, none] [] σ post
  refine V_run kX6_sparedEvents 2 [] (show V 4 MX6_sparedEvents 2 [some (vR 5 0), none, none, none] [vZ 0, vR 5 0] σ post from ?_)
  refine V_callV (a := [vZ 0]) (rest := []) kX6_sparedEvents rfl oX6_endsEmptyWithout iX6_endsEmptyWithout lk_6_347 rfl rfl rfl (Nat.le_of_ble_eq_true rfl) (Nat.le_of_ble_eq_true rfl) (Nat.le_of_ble_eq_true rfl) (post' := fun zv zσ => V 4 MX6_sparedEvents 5 [some (vR 5 0), none, none, none] (zv.toList ++ []) zσ post) (c_N_ends hR ho (fun σ4 hk4 => (show V 4 MX6_sparedEvents 5 [some (vR 5 0), none, none, none] [vZ (if zEmp (aC S) 0 then 1 else 0)] σ4 post from ?_))) (fun _ _ h => h)
  by_cases h1 : zEmp (aC S) 0
  · skip
    rw [if_pos h1] at hv
    have hp := hp σ4 hk4
    rw [hv] at hp
    refine V_top (if_pos h1) ?_
    refine V_run kX6_sparedEvents 2 [0] (show (zr 1 ∧ ¬ 1 = 0) ∧ V 4 MX6_sparedEvents 9 [some (vR 5 0), none, none, none] [vZ 0] σ4 post from ⟨(by omega), ?_⟩)
    exact V_iret kX6_sparedEvents rfl rfl (hp)
  · skip
    rw [if_neg h1] at hv
    refine V_top (if_neg h1) ?_
    refine V_run kX6_sparedEvents 3 [1] (show (zr 0 ∧ 0 = 0) ∧ V 4 MX6_sparedEvents 14 [some (vR 5 0), none, none, none] [vR 1 5] σ4 post from ⟨(by omega), ?_⟩)
    refine V_callV (a := []) (rest := []) kX6_sparedEvents rfl oX2_events iX2_events lk_6_121 rfl rfl rfl (Nat.le_of_ble_eq_true rfl) (Nat.le_of_ble_eq_true rfl) (Nat.le_of_ble_eq_true rfl) (post' := fun zv zσ => V 4 MX6_sparedEvents 17 [some (vR 5 0), none, none, none] (zv.toList ++ []) zσ post) (e_P_events (b := 5) (x := a_eN S) (hRt σ4 hk4).2.1.1.2.1 ((show V 4 MX6_sparedEvents 17 [some (vR 5 0), none, none, none] [vZ (a_eN S)] σ4 post from ?_))) (fun _ _ h => h)
    refine V_run kX6_sparedEvents 3 [] (show V 4 MX6_sparedEvents 20 [some (vR 5 0), some (vZ (a_eN S)), some (vZ 0), none] [] σ4 post from ?_)
    exact loop1 (a_eN S).toNat 0 (by omega) (by omega) hv.symm σ4 hk4
set_option maxHeartbeats 4000000 in
set_option maxRecDepth 100000 in
/-- nthBit -/
theorem c_N_nthBit {x n : Int} {σ : zSt} {post : Option VV → zSt → Prop} (hn : zr n) (hp : post (some (vZ (zNb x n 8 0 0))) σ) : Mc 0 MX6_nthBit [vZ x, vZ n] σ post := by
  obtain ⟨v, hv⟩ : ∃ v : Int, v = zNb x n 8 0 0 := ⟨_, rfl⟩
  rw [← hv] at hp
  have loop : ∀ (m : Nat) (i a : Int), 0 ≤ i → i + m = 8 → (0 ≤ a ∧ a ≤ i) → zNb x n m i a = v → V 0 MX6_nthBit 4 [some (vZ x), some (vZ n), some (vZ a), some (vZ i)] [] σ post := by
    intro m
    induction m with
    | zero =>
      intro i a i0 i1 ha he
      unfold zNb at he
      rw [← he] at hp
      refine V_run kX6_nthBit 4 [1] (show (zr i ∧ zr 8 ∧ 8 ≤ i) ∧ V 0 MX6_nthBit 36 [some (vZ x), some (vZ n), some (vZ a), some (vZ i)] [vZ (-1)] σ post from ⟨(by omega), ?_⟩)
      exact V_iret kX6_nthBit rfl rfl (hp)
    | succ m ih =>
      intro i a i0 i1 ha he
      unfold zNb at he
      refine V_run kX6_nthBit 8 [0] (show (zr i ∧ zr 8 ∧ i < 8) ∧ V 0 MX6_nthBit 15 [some (vZ x), some (vZ n), some (vZ a), some (vZ i)] [vZ (zand (zshr x i) 1)] σ post from ⟨(by omega), ?_⟩)
      refine V_top (zbt_test i0 (by omega)) ?_
      by_cases h1 : zbt x i = true
      rotate_left
      · skip
        rw [if_neg h1] at he
        refine V_top (if_neg h1) ?_
        refine V_run kX6_nthBit 4 [1] (show (zr 0 ∧ zr 1 ∧ ¬ 0 = 1) ∧ V 0 MX6_nthBit 4 [some (vZ x), some (vZ n), some (vZ a), some (vZ (i + 1))] [] σ post from ⟨(by omega), ?_⟩)
        exact ih (i + 1) a (by omega) (by omega) (by omega) he
      rw [if_pos h1] at he
      refine V_top (if_pos h1) ?_
      refine V_run kX6_nthBit 4 [0] (show (zr 1 ∧ zr 1 ∧ 1 = 1) ∧ V 0 MX6_nthBit 21 [some (vZ x), some (vZ n), some (vZ a), some (vZ i)] [vZ n, vZ a] σ post from ⟨(by omega), ?_⟩)
      by_cases h2 : a = n
      · skip
        rw [if_pos h2] at he
        rw [← he] at hp
        refine V_run kX6_nthBit 2 [0] (show (zr a ∧ zr n ∧ a = n) ∧ V 0 MX6_nthBit 25 [some (vZ x), some (vZ n), some (vZ a), some (vZ i)] [vZ i] σ post from ⟨(by omega), ?_⟩)
        exact V_iret kX6_nthBit rfl rfl (hp)
      · skip
        rw [if_neg h2] at he
        refine V_run kX6_nthBit 4 [1] (show (zr a ∧ zr n ∧ ¬ a = n) ∧ V 0 MX6_nthBit 4 [some (vZ x), some (vZ n), some (vZ (a + 1)), some (vZ (i + 1))] [] σ post from ⟨(by omega), ?_⟩)
        exact ih (i + 1) (a + 1) (by omega) (by omega) (by omega) he
  show V 0 MX6_nthBit 0 [some (vZ x), some (vZ n), none, none] [] σ post
  refine V_run kX6_nthBit 4 [] (show V 0 MX6_nthBit 4 [some (vZ x), some (vZ n), some (vZ 0), some (vZ 0)] [] σ post from ?_)
  exact loop 8 0 0 (by omega) (by omega) (by omega) hv.symm
set_option maxHeartbeats 4000000 in
set_option maxRecDepth 100000 in
/-- spare -/
theorem c_N_spare {i : Int} {S : zAb} {σ : zSt} {post : Option VV → zSt → Prop} (hR : RC σ S) (ho : aOk S) (hi : zr i) (hp : ∀ σ', dK σ σ' → RC σ' S → post (some (vZ (aSpare S i))) σ') : Mc 5 MX6_spare [vR 5 0, vZ i] σ post := by
  have hok := aC_ok ho
  have hcn := hok.1
  obtain ⟨hT, hPx, hCo, hG, hS, hK, hF⟩ := id hR
  unfold aSpare at hp
  show V 5 MX6_spare 0 [some (vR 5 0), some (vZ i), none] [] σ post
  have go : (-1 ≤ i ∧ i ≤ 1) → V 5 MX6_spare 16 [some (vR 5 0), some (vZ i), none] [] σ post := by
    intro h1
    rw [if_pos h1] at hp
    have hq := sp_ok (zSpr_q ho) h1.1 h1.2
    refine V_run kX6_spare 1 [] (show V 5 MX6_spare 17 [some (vR 5 0), some (vZ i), none] [vR 5 0] σ post from ?_)
    refine V_callV (a := []) (rest := []) kX6_spare rfl oX6_sparedEvents iX6_sparedEvents lk_6_199 rfl rfl rfl (Nat.le_of_ble_eq_true rfl) (Nat.le_of_ble_eq_true rfl) (Nat.le_of_ble_eq_true rfl) (post' := fun zv zσ => V 5 MX6_spare 20 [some (vR 5 0), some (vZ i), none] (zv.toList ++ []) zσ post) (c_N_spared hR ho (fun σ4 hk4 => (show V 5 MX6_spare 20 [some (vR 5 0), some (vZ i), none] [vZ (spB (zSpr S))] σ4 post from ?_))) (fun _ _ h => h)
    have hp := hp σ4 hk4.k (RC_tr hk4 hR)
    obtain ⟨b, hb⟩ : ∃ b : Int, b = spB (zSpr S) := ⟨_, rfl⟩
    rw [← hb] at hq
    rw [← hb]
    rcases hq with ⟨q1, q2⟩ | ⟨q1, q2, q3, q4⟩
    · skip
      have e9 : zOfR (zSpr S) i = -1 := by
        unfold zOfR
        by_cases z : i = -1
        · rw [if_pos z]; exact q1
        · rw [if_neg z, if_neg (by omega)]
      rw [e9] at hp
      refine V_run kX6_spare 5 [0] (show (zr b ∧ zr (-1) ∧ b = (-1)) ∧ V 5 MX6_spare 27 [some (vR 5 0), some (vZ i), some (vZ b)] [vZ (-1)] σ4 post from ⟨(by omega), ?_⟩)
      exact V_iret kX6_spare rfl rfl (hp)
    · skip
      rw [← q4] at hp
      refine V_run kX6_spare 6 [1] (show (zr b ∧ zr (-1) ∧ ¬ b = (-1)) ∧ V 5 MX6_spare 30 [some (vR 5 0), some (vZ i), some (vZ b)] [vZ (-1), vZ i] σ4 post from ⟨(by omega), ?_⟩)
      by_cases h3 : i = -1
      · skip
        rw [if_pos h3] at hp
        refine V_run kX6_spare 2 [0] (show (zr i ∧ zr (-1) ∧ i = (-1)) ∧ V 5 MX6_spare 34 [some (vR 5 0), some (vZ i), some (vZ b)] [vZ b] σ4 post from ⟨(by omega), ?_⟩)
        refine V_callS (a := [vZ b]) (rest := []) kX6_spare rfl oJ6_bitCount_0f7a4 iJ6_bitCount_0f7a4 lk_6_202 rfl rfl (Nat.le_of_ble_eq_true rfl) (Nat.le_of_ble_eq_true rfl) (Nat.le_of_ble_eq_true rfl) (post' := fun zv zσ => V 5 MX6_spare 37 [some (vR 5 0), some (vZ i), some (vZ b)] (zv.toList ++ []) zσ post) (c_bitCount q2 q3 ((show V 5 MX6_spare 37 [some (vR 5 0), some (vZ i), some (vZ b)] [vZ (zpop b)] σ4 post from ?_))) (fun _ _ h => h)
        refine V_run kX6_spare 1 [] (show V 5 MX6_spare 45 [some (vR 5 0), some (vZ i), some (vZ b)] [vZ (zpop b)] σ4 post from ?_)
        exact V_iret kX6_spare rfl rfl (hp)
      · skip
        rw [if_neg h3] at hp
        refine V_run kX6_spare 3 [1] (show (zr i ∧ zr (-1) ∧ ¬ i = (-1)) ∧ V 5 MX6_spare 42 [some (vR 5 0), some (vZ i), some (vZ b)] [vZ i, vZ b] σ4 post from ⟨(by omega), ?_⟩)
        refine V_callS (a := [vZ b, vZ i]) (rest := []) kX6_spare rfl oX6_nthBit iX6_nthBit lk_6_207 rfl rfl (Nat.le_of_ble_eq_true rfl) (Nat.le_of_ble_eq_true rfl) (Nat.le_of_ble_eq_true rfl) (post' := fun zv zσ => V 5 MX6_spare 45 [some (vR 5 0), some (vZ i), some (vZ b)] (zv.toList ++ []) zσ post) (c_N_nthBit (by omega) ((show V 5 MX6_spare 45 [some (vR 5 0), some (vZ i), some (vZ b)] [vZ (zNb b i 8 0 0)] σ4 post from ?_))) (fun _ _ h => h)
        exact V_iret kX6_spare rfl rfl (hp)
  refine V_run kX6_spare 2 [] (show V 5 MX6_spare 2 [some (vR 5 0), some (vZ i), none] [vZ (-1), vZ i] σ post from ?_)
  by_cases h0 : i = -1
  · skip
    refine V_run kX6_spare 1 [1] (show (zr i ∧ zr (-1) ∧ i = (-1)) ∧ V 5 MX6_spare 16 [some (vR 5 0), some (vZ i), none] [] σ post from ⟨(by omega), ?_⟩)
    exact go (by omega)
  · skip
    refine V_run kX6_spare 3 [0] (show (zr i ∧ zr (-1) ∧ ¬ i = (-1)) ∧ V 5 MX6_spare 7 [some (vR 5 0), some (vZ i), none] [vZ 1, vZ i] σ post from ⟨(by omega), ?_⟩)
    refine V_callS (a := [vZ i, vZ 1]) (rest := []) kX6_spare rfl oX6_isFrom0To iX6_isFrom0To lk_6_91 rfl rfl (Nat.le_of_ble_eq_true rfl) (Nat.le_of_ble_eq_true rfl) (Nat.le_of_ble_eq_true rfl) (post' := fun zv zσ => V 5 MX6_spare 10 [some (vR 5 0), some (vZ i), none] (zv.toList ++ []) zσ post) (c_N_from (by omega) (by omega) ((show V 5 MX6_spare 10 [some (vR 5 0), some (vZ i), none] [vZ (if 0 ≤ i ∧ i ≤ 1 then 1 else 0)] σ post from ?_))) (fun _ _ h => h)
    by_cases h1 : 0 ≤ i ∧ i ≤ 1
    · skip
      refine V_top (if_pos h1) ?_
      refine V_run kX6_spare 1 [1] (show (zr 1 ∧ ¬ 1 = 0) ∧ V 5 MX6_spare 16 [some (vR 5 0), some (vZ i), none] [] σ post from ⟨(by omega), ?_⟩)
      exact go (by omega)
    · skip
      rw [if_neg (by omega)] at hp
      refine V_top (if_neg h1) ?_
      refine V_run kX6_spare 2 [0] (show (zr 0 ∧ 0 = 0) ∧ V 5 MX6_spare 15 [some (vR 5 0), some (vZ i), none] [vZ (-2)] σ post from ⟨(by omega), ?_⟩)
      exact V_iret kX6_spare rfl rfl (hp σ dK.rf hR)
set_option maxHeartbeats 4000000 in
set_option maxRecDepth 100000 in
/-- never -/
theorem c_N_never {S : zAb} {σ : zSt} {post : Option VV → zSt → Prop} (hR : RC σ S) (ho : aOk S) (hp : ∀ σ', dK σ σ' → RC σ' S → post (some (vZ (aNever S))) σ') : Mc 3 MX6_never [vR 5 0] σ post := by
  have hok := aC_ok ho
  have hcn := hok.1
  obtain ⟨hT, hPx, hCo, hG, hS, hK, hF⟩ := id hR
  have hen := ho.2.2.1
  have hE : cE (aC S) ≤ 9 := hok.2.1.2
  unfold aNever at hp
  obtain ⟨v, hv⟩ : ∃ v : Int, v = zNev S (a_eN S).toNat 0 0 := ⟨_, rfl⟩
  rw [← hv] at hp
  have loop : ∀ (m : Nat) (i a : Int), 0 ≤ i → i + m = a_eN S → zr a → zNev S m i a = v → ∀ σ2 : zSt, dTr σ σ2 → V 3 MX6_never 4 [some (vR 5 0), some (vZ a), some (vZ i)] [] σ2 post := by
    intro m
    induction m with
    | zero =>
      intro i a i0 i1 hz he σ2 hk
      unfold zNev at he
      have hp := hp σ2 hk.k (RC_tr hk hR)
      rw [← he] at hp
      refine V_run kX6_never 3 [] (show V 3 MX6_never 9 [some (vR 5 0), some (vZ a), some (vZ i)] [vR 1 5, vZ i] σ2 post from ?_)
      refine V_callV (a := []) (rest := [vZ i]) kX6_never rfl oX2_events iX2_events lk_6_121 rfl rfl rfl (Nat.le_of_ble_eq_true rfl) (Nat.le_of_ble_eq_true rfl) (Nat.le_of_ble_eq_true rfl) (post' := fun zv zσ => V 3 MX6_never 12 [some (vR 5 0), some (vZ a), some (vZ i)] (zv.toList ++ [vZ i]) zσ post) (e_P_events (b := 5) (x := a_eN S) (RC_tr hk hR).2.1.1.2.1 ((show V 3 MX6_never 12 [some (vR 5 0), some (vZ a), some (vZ i)] [vZ (a_eN S), vZ i] σ2 post from ?_))) (fun _ _ h => h)
      refine V_run kX6_never 2 [1] (show (zr i ∧ zr (a_eN S) ∧ (a_eN S) ≤ i) ∧ V 3 MX6_never 60 [some (vR 5 0), some (vZ a), some (vZ i)] [vZ a] σ2 post from ⟨(by omega), ?_⟩)
      exact V_iret kX6_never rfl rfl (hp)
    | succ m ih =>
      intro i a i0 i1 hz he σ2 hk
      unfold zNev at he
      have hR2 := RC_tr hk hR
      have hv3 : zCv (cNot (aC S) (zshl 1 i)) := hok
      refine V_run kX6_never 3 [] (show V 3 MX6_never 9 [some (vR 5 0), some (vZ a), some (vZ i)] [vR 1 5, vZ i] σ2 post from ?_)
      refine V_callV (a := []) (rest := [vZ i]) kX6_never rfl oX2_events iX2_events lk_6_121 rfl rfl rfl (Nat.le_of_ble_eq_true rfl) (Nat.le_of_ble_eq_true rfl) (Nat.le_of_ble_eq_true rfl) (post' := fun zv zσ => V 3 MX6_never 12 [some (vR 5 0), some (vZ a), some (vZ i)] (zv.toList ++ [vZ i]) zσ post) (e_P_events (b := 5) (x := a_eN S) (RC_tr hk hR).2.1.1.2.1 ((show V 3 MX6_never 12 [some (vR 5 0), some (vZ a), some (vZ i)] [vZ (a_eN S), vZ i] σ2 post from ?_))) (fun _ _ h => h)
      refine V_run kX6_never 12 [0] (show (zr i ∧ zr (a_eN S) ∧ i < (a_eN S)) ∧ V 3 MX6_never 30 [some (vR 5 0), some (vZ a), some (vZ i)] [vZ (zand (-1) (zxor (zshl 1 i) (-1))), vR 1 5, vR 0 26] σ2 post from ⟨(by omega), ?_⟩)
      refine V_callV (a := [vR 1 5, vZ (zand (-1) (zxor (zshl 1 i) (-1)))]) (rest := []) kX6_never rfl oX0_run iX0_run lk_6_182 rfl rfl rfl (Nat.le_of_ble_eq_true rfl) (Nat.le_of_ble_eq_true rfl) (Nat.le_of_ble_eq_true rfl) (post' := fun zv zσ => V 3 MX6_never 33 [some (vR 5 0), some (vZ a), some (vZ i)] (zv.toList ++ []) zσ post) (c_X_run zPz5 (by decide) (show zPl σ2 5 (cNot (aC S) (zshl 1 i)) from hR2.2.1.1) (not_on hE) (fun σ4 hf4 hco4 => (show V 3 MX6_never 33 [some (vR 5 0), some (vZ a), some (vZ i)] [] σ4 post from ?_))) (fun _ _ h => h)
      refine V_run kX6_never 4 [] (show V 3 MX6_never 41 [some (vR 5 0), some (vZ a), some (vZ i)] [vR 0 26, vR 3 29] σ4 post from ?_)
      have hR4 := RC_tr hf4.d hR2
      refine V_callV (a := [vR 0 26]) (rest := []) kX6_never rfl oX4_fit iX4_fit lk_6_216 rfl rfl rfl (Nat.le_of_ble_eq_true rfl) (Nat.le_of_ble_eq_true rfl) (Nat.le_of_ble_eq_true rfl) (post' := fun zv zσ => V 3 MX6_never 44 [some (vR 5 0), some (vZ a), some (vZ i)] (zv.toList ++ []) zσ post) (c_N_fit hR4.2.2.2.1 ho hv3 hco4 ((show V 3 MX6_never 44 [some (vR 5 0), some (vZ a), some (vZ i)] [vZ (if aFit S (cNot (aC S) (zshl 1 i)) = true then 1 else 0)] σ4 post from ?_))) (fun _ _ h => h)
      by_cases h1 : aFit S (cNot (aC S) (zshl 1 i)) = true
      · skip
        rw [if_pos h1] at he
        refine V_top (if_pos h1) ?_
        refine V_run kX6_never 9 [0] (show (zr 1 ∧ ¬ 1 = 0) ∧ V 3 MX6_never 4 [some (vR 5 0), some (vZ (zor a (zshl 1 i))), some (vZ (i + 1))] [] σ4 post from ⟨(by omega), ?_⟩)
        exact ih (i + 1) _ (by omega) (by omega) (zor_zr _ _) he σ4 (hk.tr hf4.d)
      · skip
        rw [if_neg h1] at he
        refine V_top (if_neg h1) ?_
        refine V_run kX6_never 3 [1] (show (zr 0 ∧ 0 = 0) ∧ V 3 MX6_never 4 [some (vR 5 0), some (vZ a), some (vZ (i + 1))] [] σ4 post from ⟨(by omega), ?_⟩)
        exact ih (i + 1) a (by omega) (by omega) hz he σ4 (hk.tr hf4.d)
  show V 3 MX6_never 0 [some (vR 5 0), none, none] [] σ post
  refine V_run kX6_never 4 [] (show V 3 MX6_never 4 [some (vR 5 0), some (vZ 0), some (vZ 0)] [] σ post from ?_)
  exact loop (a_eN S).toNat 0 0 (by omega) (by omega) (by decide) hv.symm σ dTr.rf
set_option maxHeartbeats 4000000 in
set_option maxRecDepth 100000 in
/-- fittingSorts -/
theorem c_N_sorts {k : Int} {S : zAb} {σ : zSt} {post : Option VV → zSt → Prop} (hR : RC σ S) (ho : aOk S) (k0 : 0 ≤ k) (k1 : k < cn (aC S)) (hp : ∀ σ', dTr σ σ' → post (some (vZ (zSos S k 3 0 0))) σ') : Mc 3 MX6_fittingSorts [vR 5 0, vZ k] σ post := by
  have hok := aC_ok ho
  have hcn := hok.1
  obtain ⟨hT, hPx, hCo, hG, hS, hK, hF⟩ := id hR
  have hE : cE (aC S) ≤ 9 := hok.2.1.2
  obtain ⟨v, hv⟩ : ∃ v : Int, v = zSos S k 3 0 0 := ⟨_, rfl⟩
  rw [← hv] at hp
  show V 3 MX6_fittingSorts 0 [some (vR 5 0), some (vZ k), none, none] [] σ post
  refine V_run kX6_fittingSorts 6 [] (show V 3 MX6_fittingSorts 10 [some (vR 5 0), some (vZ k), some (vZ 0), none] [vR 1 5, vR 1 14] σ post from ?_)
  refine V_callV (a := [vR 1 5]) (rest := []) kX6_fittingSorts rfl oX2_take iX2_take lk_6_174 rfl rfl rfl (Nat.le_of_ble_eq_true rfl) (Nat.le_of_ble_eq_true rfl) (Nat.le_of_ble_eq_true rfl) (post' := fun zv zσ => V 3 MX6_fittingSorts 13 [some (vR 5 0), some (vZ k), some (vZ 0), none] (zv.toList ++ []) zσ post) (c_P_take (b := 14) (a := 5) zPz14 zPz5 ((show V 3 MX6_fittingSorts 13 [some (vR 5 0), some (vZ k), some (vZ 0), none] [] (sTake σ 14 5) post from ?_))) (fun _ _ h => h)
  refine V_run kX6_fittingSorts 2 [] (show V 3 MX6_fittingSorts 15 [some (vR 5 0), some (vZ k), some (vZ 0), some (vZ 0)] [] (sTake σ 14 5) post from ?_)
  have loop : ∀ (m : Nat) (i a : Int), 0 ≤ i → i + m = 3 → zr a → zSos S k m i a = v → ∀ (C2 : zCf) (σ2 : zSt), dTr σ σ2 → zPx σ2 14 C2 → (∀ y, cSort C2 k y = cSort (aC S) k y) → V 3 MX6_fittingSorts 15 [some (vR 5 0), some (vZ k), some (vZ a), some (vZ i)] [] σ2 post := by
    intro m
    induction m with
    | zero =>
      intro i a i0 i1 hz he C2 σ2 hk hc hC2
      unfold zSos at he
      have hp := hp σ2 hk
      rw [← he] at hp
      refine V_run kX6_fittingSorts 4 [1] (show (zr i ∧ zr 3 ∧ 3 ≤ i) ∧ V 3 MX6_fittingSorts 68 [some (vR 5 0), some (vZ k), some (vZ a), some (vZ i)] [vZ a] σ2 post from ⟨(by omega), ?_⟩)
      exact V_iret kX6_fittingSorts rfl rfl (hp)
    | succ m ih =>
      intro i a i0 i1 hz he C2 σ2 hk hc hC2
      unfold zSos at he
      have hc3 := zPx_sort (k := k) (v := i) hc i0 (by omega)
      rw [hC2] at hc3
      have hv3 := zPl_u3 hc3.1
      refine V_run kX6_fittingSorts 7 [0] (show (zr i ∧ zr 3 ∧ i < 3) ∧ V 3 MX6_fittingSorts 26 [some (vR 5 0), some (vZ k), some (vZ a), some (vZ i)] [vZ i, vZ k, vR 1 14] σ2 post from ⟨(by omega), ?_⟩)
      refine V_callV (a := [vZ k, vZ i]) (rest := []) kX6_fittingSorts rfl oX2_setSort iX2_setSort lk_6_350 rfl rfl rfl (Nat.le_of_ble_eq_true rfl) (Nat.le_of_ble_eq_true rfl) (Nat.le_of_ble_eq_true rfl) (post' := fun zv zσ => V 3 MX6_fittingSorts 29 [some (vR 5 0), some (vZ k), some (vZ a), some (vZ i)] (zv.toList ++ []) zσ post) (c_P_setSort (b := 14) zPz14 k0 (by omega) ((show V 3 MX6_fittingSorts 29 [some (vR 5 0), some (vZ k), some (vZ a), some (vZ i)] [] (uI σ2 16 k i) post from ?_))) (fun _ _ h => h)
      refine V_run kX6_fittingSorts 5 [] (show V 3 MX6_fittingSorts 38 [some (vR 5 0), some (vZ k), some (vZ a), some (vZ i)] [vZ (-1), vR 1 14, vR 0 26] (uI σ2 16 k i) post from ?_)
      refine V_callV (a := [vR 1 14, vZ (-1)]) (rest := []) kX6_fittingSorts rfl oX0_run iX0_run lk_6_182 rfl rfl rfl (Nat.le_of_ble_eq_true rfl) (Nat.le_of_ble_eq_true rfl) (Nat.le_of_ble_eq_true rfl) (post' := fun zv zσ => V 3 MX6_fittingSorts 41 [some (vR 5 0), some (vZ k), some (vZ a), some (vZ i)] (zv.toList ++ []) zσ post) (c_X_run zPz14 (by decide) hc3.1 (on_m1 hE (fun _ => rfl)) (fun σ4 hf4 hco4 => (show V 3 MX6_fittingSorts 41 [some (vR 5 0), some (vZ k), some (vZ a), some (vZ i)] [] σ4 post from ?_))) (fun _ _ h => h)
      refine V_run kX6_fittingSorts 4 [] (show V 3 MX6_fittingSorts 49 [some (vR 5 0), some (vZ k), some (vZ a), some (vZ i)] [vR 0 26, vR 3 29] σ4 post from ?_)
      have hk4 := (hk.tr (dTr_u (k := 16) (j := k) (v := i) (by decide))).tr hf4.d
      have hx4 := hf4.px (by decide) hc3
      have hR4 := RC_tr hk4 hR
      refine V_callV (a := [vR 0 26]) (rest := []) kX6_fittingSorts rfl oX4_fit iX4_fit lk_6_216 rfl rfl rfl (Nat.le_of_ble_eq_true rfl) (Nat.le_of_ble_eq_true rfl) (Nat.le_of_ble_eq_true rfl) (post' := fun zv zσ => V 3 MX6_fittingSorts 52 [some (vR 5 0), some (vZ k), some (vZ a), some (vZ i)] (zv.toList ++ []) zσ post) (c_N_fit hR4.2.2.2.1 ho hv3 hco4 ((show V 3 MX6_fittingSorts 52 [some (vR 5 0), some (vZ k), some (vZ a), some (vZ i)] [vZ (if aFit S (cSort (aC S) k i) = true then 1 else 0)] σ4 post from ?_))) (fun _ _ h => h)
      have go := fun a2 hz2 h2 => ih (i + 1) a2 (by omega) (by omega) hz2 h2 _ σ4 hk4 hx4 (fun y => (show cSort (cSort (aC S) k i) k y = cSort (aC S) k y by unfold cSort; rw [fPut_fPut]))
      by_cases h1 : aFit S (cSort (aC S) k i) = true
      · skip
        rw [if_pos h1] at he
        refine V_top (if_pos h1) ?_
        refine V_run kX6_fittingSorts 9 [0] (show (zr 1 ∧ ¬ 1 = 0) ∧ V 3 MX6_fittingSorts 15 [some (vR 5 0), some (vZ k), some (vZ (zor a (zshl 1 i))), some (vZ (i + 1))] [] σ4 post from ⟨(by omega), ?_⟩)
        exact go _ (zor_zr _ _) he
      · skip
        rw [if_neg h1] at he
        refine V_top (if_neg h1) ?_
        refine V_run kX6_fittingSorts 3 [1] (show (zr 0 ∧ 0 = 0) ∧ V 3 MX6_fittingSorts 15 [some (vR 5 0), some (vZ k), some (vZ a), some (vZ (i + 1))] [] σ4 post from ⟨(by omega), ?_⟩)
        exact go _ hz he
  exact loop 3 0 0 (by omega) (by omega) (by decide) hv.symm (aC S) _ dTr_take (zPx_take (by decide) hPx) (fun _ => rfl)
