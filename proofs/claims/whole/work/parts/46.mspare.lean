/-- that the queue is empty at the end without the events of x -/
abbrev zEmp (C : zCf) (x : Int) : Prop := dn (zD (cNot C x) 23) = 0
def zSp3 (C : zCf) (a : Int) (Z : Int × Int × Int) : Nat → Int → Int × Int × Int
  | 0, _ => Z
  | m + 1, b => if zEmp C (zor (zshl 1 a) (zshl 1 b)) then (2, a, b) else zSp3 C a Z m (b + 1)
def zSp2 (C : zCf) : Nat → Int → Int × Int × Int
  | 0, _ => (-1, -1, -1)
  | m + 1, a => zSp3 C a (zSp2 C m (a + 1)) m (a + 1)
def zSp1 (C : zCf) (Z : Int × Int × Int) : Nat → Int → Int × Int × Int
  | 0, _ => Z
  | m + 1, a => if zEmp C (zshl 1 a) then (1, a, -1) else zSp1 C Z m (a + 1)
def zSpr (S : zAb) : Int × Int × Int := if zEmp (aC S) 0 then (0, -1, -1) else zSp1 (aC S) (zSp2 (aC S) (a_eN S).toNat 0) (a_eN S).toNat 0
def zOfR (r : Int × Int × Int) (i : Int) : Int := if i = -1 then r.1 else if i < r.1 then (if i = 0 then r.2.1 else r.2.2) else -1
def aSpare (S : zAb) (i : Int) : Int := if -1 ≤ i ∧ i ≤ 1 then zOfR (zSpr S) i else -2
def rowOk (σ : zSt) (r : Int × Int × Int) : Prop := (-1 ≤ r.1 ∧ r.1 ≤ 2) ∧ (1 ≤ r.1 → σ.1 65 0 = r.2.1) ∧ (2 ≤ r.1 → σ.1 65 1 = r.2.2)
theorem mKeep.p {σ σ' : zSt} (h : mKeep σ σ') {j v : Int} : mKeep σ (uI σ' 65 j v) := h.u (by decide)
set_option maxHeartbeats 4000000 in
set_option maxRecDepth 100000 in
/-- isSpared -/
theorem c_M_isSpared {C : zCf} {x : Int} {σ : zSt} {post : Option VV → zSt → Prop} (hc : zMc σ C) (hp : ∀ σ', mKeep σ σ' → zMc σ' (cNot C x) → σ'.1 65 = σ.1 65 → post (some (vZ (if zEmp C x then 1 else 0))) σ') : Mc 4 MX7_isSpared [vR 6 44, vZ x] σ post := by
  have hc3 := zMc_not (x := x) hc
  have hv3 := zMc_C hc3
  have hJ := zJ_D hv3 23
  show V 4 MX7_isSpared 0 [some (vR 6 44), some (vZ x)] [] σ post
  refine V_run kX7_isSpared 4 [] (show V 4 MX7_isSpared 6 [some (vR 6 44), some (vZ x)] [vR 6 44] (uI σ 44 16 x) post from ?_)
  refine V_callV (a := []) (rest := []) kX7_isSpared rfl oX7_runs iX7_runs lk_7_216 rfl rfl rfl (Nat.le_of_ble_eq_true rfl) (Nat.le_of_ble_eq_true rfl) (Nat.le_of_ble_eq_true rfl) (post' := fun zv zσ => V 4 MX7_isSpared 9 [some (vR 6 44), some (vZ x)] (zv.toList ++ []) zσ post) (c_M_runs hc3 (fun σ1 hf1 hm1 hr1 => (show V 4 MX7_isSpared 9 [some (vR 6 44), some (vZ x)] [] σ1 post from ?_))) (fun _ _ h => h)
  have hp := hp σ1 (mKeep.s mKeep.rf (by decide) |>.tr hf1.k) (zMc_nf hf1 hc3) (by rw [hf1.2.1 65 (by omega) (by omega), uI_ne (by decide)])
  refine V_run kX7_isSpared 2 [] (show V 4 MX7_isSpared 13 [some (vR 6 44), some (vZ x)] [vZ (σ1.1 44 19)] σ1 post from ?_)
  refine V_top (hm1.1) ?_
  have hn9 := hJ.1
  by_cases h1 : dn (zD (cNot C x) 23) = 0
  · skip
    rw [if_pos (show zEmp C x from h1)] at hp
    refine V_run kX7_isSpared 3 [0] (show (zr (dn (zD (cNot C x) 23)) ∧ (dn (zD (cNot C x) 23)) = 0) ∧ V 4 MX7_isSpared 21 [some (vR 6 44), some (vZ x)] [vZ 1] σ1 post from ⟨(by omega), ?_⟩)
    exact V_zret kX7_isSpared rfl rfl (Or.inr rfl) (hp)
  · skip
    rw [if_neg (show ¬ zEmp C x from h1)] at hp
    refine V_run kX7_isSpared 2 [1] (show (zr (dn (zD (cNot C x) 23)) ∧ ¬ (dn (zD (cNot C x) 23)) = 0) ∧ V 4 MX7_isSpared 21 [some (vR 6 44), some (vZ x)] [vZ 0] σ1 post from ⟨(by omega), ?_⟩)
    exact V_zret kX7_isSpared rfl rfl (Or.inl rfl) (hp)
set_option maxHeartbeats 4000000 in
set_option maxRecDepth 100000 in
/-- spareBy -/
theorem c_M_spareBy {S : zAb} {σ : zSt} {post : Option VV → zSt → Prop} (hR : RM σ S) (ho : aOk S) (hp : ∀ σ', mKeep σ σ' → rowOk σ' (zSpr S) → post (some (vZ (zSpr S).1)) σ') : Mc 7 MX7_spareBy [vR 6 44] σ post := by
  have hen := ho.2.2.1
  obtain ⟨v, hv⟩ : ∃ v, v = zSpr S := ⟨_, rfl⟩
  rw [← hv] at hp
  unfold zSpr at hv
  have hemp : ∀ (C2 : zCf) (y : Int), (∀ y, cNot C2 y = cNot (aC S) y) → (zEmp C2 y ↔ zEmp (aC S) y) := fun C2 y h => by show dn (zD (cNot C2 y) 23) = 0 ↔ _; rw [h]
  have h8 : ∀ σ2 : zSt, mKeep σ σ2 → σ2.1 44 8 = a_eN S := fun σ2 h => (RM_k h hR).2.2.1.1
  show V 7 MX7_spareBy 0 [some (vR 6 44), none, none] [] σ post
  refine V_run kX7_spareBy 1 [] (show V 7 MX7_spareBy 1 [some (vR 6 44), none, none] [vR 6 44] σ post from ?_)
  refine V_callV (a := []) (rest := []) kX7_spareBy rfl oX7_asTold iX7_asTold lk_7_213 rfl rfl rfl (Nat.le_of_ble_eq_true rfl) (Nat.le_of_ble_eq_true rfl) (Nat.le_of_ble_eq_true rfl) (post' := fun zv zσ => V 7 MX7_spareBy 4 [some (vR 6 44), none, none] (zv.toList ++ []) zσ post) (c_M_asTold hR ho (fun σ1 hk1 hc1 hn1 => (show V 7 MX7_spareBy 4 [some (vR 6 44), none, none] [] σ1 post from ?_))) (fun _ _ h => h)
  have loop2 : ∀ (m : Nat) (i : Int), 0 ≤ i → i + m = a_eN S → zSp2 (aC S) m i = v → ∀ (C2 : zCf) (σ2 : zSt), mKeep σ σ2 → zMc σ2 C2 → (∀ y, cNot C2 y = cNot (aC S) y) → V 7 MX7_spareBy 51 [some (vR 6 44), some (vZ i), none] [] σ2 post := by
    intro m
    induction m with
    | zero =>
      intro i i0 i1 he C2 σ2 hk hc hC2
      unfold zSp2 at he
      have e8 := h8 σ2 hk
      have hp := hp σ2 hk (by rw [← he]; exact ⟨by decide, fun q => absurd q (by decide), fun q => absurd q (by decide)⟩)
      rw [← he] at hp
      refine V_run kX7_spareBy 3 [] (show V 7 MX7_spareBy 56 [some (vR 6 44), some (vZ i), none] [vZ (σ2.1 44 8), vZ i] σ2 post from ?_)
      refine V_top (e8) ?_
      refine V_run kX7_spareBy 2 [1] (show (zr i ∧ zr (a_eN S) ∧ (a_eN S) ≤ i) ∧ V 7 MX7_spareBy 114 [some (vR 6 44), some (vZ i), none] [vZ (-1)] σ2 post from ⟨(by omega), ?_⟩)
      exact V_iret kX7_spareBy rfl rfl (hp)
    | succ m ih =>
      intro i i0 i1 he C2 σ2 hk hc hC2
      unfold zSp2 at he
      have e8 := h8 σ2 hk
      have inner : ∀ (m2 : Nat) (j : Int), 0 ≤ j → j + m2 = a_eN S → zSp3 (aC S) i (zSp2 (aC S) m (i + 1)) m2 j = v → ∀ (C2 : zCf) (σ2 : zSt), mKeep σ σ2 → zMc σ2 C2 → (∀ y, cNot C2 y = cNot (aC S) y) → V 7 MX7_spareBy 63 [some (vR 6 44), some (vZ i), some (vZ j)] [] σ2 post := by
        intro m2
        induction m2 with
        | zero =>
          intro j j0 j1 he C2 σ2 hk hc hC2
          unfold zSp3 at he
          have e8 := h8 σ2 hk
          refine V_run kX7_spareBy 3 [] (show V 7 MX7_spareBy 68 [some (vR 6 44), some (vZ i), some (vZ j)] [vZ (σ2.1 44 8), vZ j] σ2 post from ?_)
          refine V_top (e8) ?_
          refine V_run kX7_spareBy 3 [1] (show (zr j ∧ zr (a_eN S) ∧ (a_eN S) ≤ j) ∧ V 7 MX7_spareBy 51 [some (vR 6 44), some (vZ (i + 1)), some (vZ j)] [] σ2 post from ⟨(by omega), ?_⟩)
          refine V_drop (L := [some (vR 6 44), some (vZ (i + 1)), none]) ⟨rfl, ⟨rfl, trivial⟩⟩ ?_
          exact ih (i + 1) (by omega) (by omega) he C2 σ2 hk hc hC2
        | succ m2 ih2 =>
          intro j j0 j1 he C2 σ2 hk hc hC2
          unfold zSp3 at he
          have e8 := h8 σ2 hk
          refine V_run kX7_spareBy 3 [] (show V 7 MX7_spareBy 68 [some (vR 6 44), some (vZ i), some (vZ j)] [vZ (σ2.1 44 8), vZ j] σ2 post from ?_)
          refine V_top (e8) ?_
          refine V_run kX7_spareBy 19 [0] (show (zr j ∧ zr (a_eN S) ∧ j < (a_eN S)) ∧ (0 ≤ 0 ∧ 0 < 2) ∧ (0 ≤ 1 ∧ 1 < 2) ∧ V 7 MX7_spareBy 93 [some (vR 6 44), some (vZ i), some (vZ j)] [vZ (zor (zshl 1 i) (zshl 1 j)), vR 6 44] (uI (uI σ2 65 0 i) 65 1 j) post from ⟨(by omega), (by omega), (by omega), ?_⟩)
          have hc3 : zMc (uI (uI σ2 65 0 i) 65 1 j) C2 := hc
          have hk3 : mKeep σ (uI (uI σ2 65 0 i) 65 1 j) := hk.p.p
          refine V_callV (a := [vZ (zor (zshl 1 i) (zshl 1 j))]) (rest := []) kX7_spareBy rfl oX7_isSpared iX7_isSpared lk_7_267 rfl rfl rfl (Nat.le_of_ble_eq_true rfl) (Nat.le_of_ble_eq_true rfl) (Nat.le_of_ble_eq_true rfl) (post' := fun zv zσ => V 7 MX7_spareBy 96 [some (vR 6 44), some (vZ i), some (vZ j)] (zv.toList ++ []) zσ post) (c_M_isSpared hc3 (fun σ4 hk4 hc4 hr4 => (show V 7 MX7_spareBy 96 [some (vR 6 44), some (vZ i), some (vZ j)] [vZ (if zEmp C2 (zor (zshl 1 i) (zshl 1 j)) then 1 else 0)] σ4 post from ?_))) (fun _ _ h => h)
          by_cases h1 : zEmp C2 (zor (zshl 1 i) (zshl 1 j))
          · skip
            rw [if_pos ((hemp C2 _ hC2).mp h1)] at he
            refine V_top (if_pos h1) ?_
            refine V_run kX7_spareBy 2 [0] (show (zr 1 ∧ ¬ 1 = 0) ∧ V 7 MX7_spareBy 100 [some (vR 6 44), some (vZ i), some (vZ j)] [vZ 2] σ4 post from ⟨(by omega), ?_⟩)
            have hp := hp σ4 (hk3.tr hk4) (by rw [← he]; exact ⟨⟨show (-1 : Int) ≤ 2 by decide, show (2 : Int) ≤ 2 by decide⟩, fun _ => by rw [hr4, uI_at, if_neg (by decide), uI_get], fun _ => by rw [hr4, uI_get]⟩)
            rw [← he] at hp
            exact V_iret kX7_spareBy rfl rfl (hp)
          · skip
            rw [if_neg (fun q => h1 ((hemp C2 _ hC2).mpr q))] at he
            refine V_top (if_neg h1) ?_
            refine V_run kX7_spareBy 3 [1] (show (zr 0 ∧ 0 = 0) ∧ V 7 MX7_spareBy 63 [some (vR 6 44), some (vZ i), some (vZ (j + 1))] [] σ4 post from ⟨(by omega), ?_⟩)
            exact ih2 (j + 1) (by omega) (by omega) he _ σ4 (hk3.tr hk4) hc4 (fun y => by show cNot C2 y = _; exact hC2 y)
      refine V_run kX7_spareBy 3 [] (show V 7 MX7_spareBy 56 [some (vR 6 44), some (vZ i), none] [vZ (σ2.1 44 8), vZ i] σ2 post from ?_)
      refine V_top (e8) ?_
      refine V_run kX7_spareBy 5 [0] (show (zr i ∧ zr (a_eN S) ∧ i < (a_eN S)) ∧ V 7 MX7_spareBy 63 [some (vR 6 44), some (vZ i), some (vZ (i + 1))] [] σ2 post from ⟨(by omega), ?_⟩)
      exact inner m (i + 1) (by omega) (by omega) he C2 σ2 hk hc hC2
  have loop1 : ∀ (m : Nat) (i : Int), 0 ≤ i → i + m = a_eN S → zSp1 (aC S) (zSp2 (aC S) (a_eN S).toNat 0) m i = v → ∀ (C2 : zCf) (σ2 : zSt), mKeep σ σ2 → zMc σ2 C2 → (∀ y, cNot C2 y = cNot (aC S) y) → V 7 MX7_spareBy 16 [some (vR 6 44), some (vZ i), none] [] σ2 post := by
    intro m
    induction m with
    | zero =>
      intro i i0 i1 he C2 σ2 hk hc hC2
      unfold zSp1 at he
      have e8 := h8 σ2 hk
      refine V_run kX7_spareBy 3 [] (show V 7 MX7_spareBy 21 [some (vR 6 44), some (vZ i), none] [vZ (σ2.1 44 8), vZ i] σ2 post from ?_)
      refine V_top (e8) ?_
      refine V_run kX7_spareBy 3 [1] (show (zr i ∧ zr (a_eN S) ∧ (a_eN S) ≤ i) ∧ V 7 MX7_spareBy 51 [some (vR 6 44), some (vZ 0), none] [] σ2 post from ⟨(by omega), ?_⟩)
      exact loop2 (a_eN S).toNat 0 (by omega) (by omega) he C2 σ2 hk hc hC2
    | succ m ih =>
      intro i i0 i1 he C2 σ2 hk hc hC2
      unfold zSp1 at he
      have e8 := h8 σ2 hk
      refine V_run kX7_spareBy 3 [] (show V 7 MX7_spareBy 21 [some (vR 6 44), some (vZ i), none] [vZ (σ2.1 44 8), vZ i] σ2 post from ?_)
      refine V_top (e8) ?_
      refine V_run kX7_spareBy 10 [0] (show (zr i ∧ zr (a_eN S) ∧ i < (a_eN S)) ∧ (0 ≤ 0 ∧ 0 < 2) ∧ V 7 MX7_spareBy 35 [some (vR 6 44), some (vZ i), none] [vZ (zshl 1 i), vR 6 44] (uI σ2 65 0 i) post from ⟨(by omega), (by omega), ?_⟩)
      have hc3 : zMc (uI σ2 65 0 i) C2 := hc
      have hk3 : mKeep σ (uI σ2 65 0 i) := hk.p
      refine V_callV (a := [vZ (zshl 1 i)]) (rest := []) kX7_spareBy rfl oX7_isSpared iX7_isSpared lk_7_267 rfl rfl rfl (Nat.le_of_ble_eq_true rfl) (Nat.le_of_ble_eq_true rfl) (Nat.le_of_ble_eq_true rfl) (post' := fun zv zσ => V 7 MX7_spareBy 38 [some (vR 6 44), some (vZ i), none] (zv.toList ++ []) zσ post) (c_M_isSpared hc3 (fun σ4 hk4 hc4 hr4 => (show V 7 MX7_spareBy 38 [some (vR 6 44), some (vZ i), none] [vZ (if zEmp C2 (zshl 1 i) then 1 else 0)] σ4 post from ?_))) (fun _ _ h => h)
      by_cases h1 : zEmp C2 (zshl 1 i)
      · skip
        rw [if_pos ((hemp C2 _ hC2).mp h1)] at he
        refine V_top (if_pos h1) ?_
        refine V_run kX7_spareBy 2 [0] (show (zr 1 ∧ ¬ 1 = 0) ∧ V 7 MX7_spareBy 42 [some (vR 6 44), some (vZ i), none] [vZ 1] σ4 post from ⟨(by omega), ?_⟩)
        have hp := hp σ4 (hk3.tr hk4) (by rw [← he]; exact ⟨⟨show (-1 : Int) ≤ 1 by decide, show (1 : Int) ≤ 2 by decide⟩, fun _ => by rw [hr4, uI_get], fun q => absurd (show (2 : Int) ≤ 1 from q) (by decide)⟩)
        rw [← he] at hp
        exact V_iret kX7_spareBy rfl rfl (hp)
      · skip
        rw [if_neg (fun q => h1 ((hemp C2 _ hC2).mpr q))] at he
        refine V_top (if_neg h1) ?_
        refine V_run kX7_spareBy 3 [1] (show (zr 0 ∧ 0 = 0) ∧ V 7 MX7_spareBy 16 [some (vR 6 44), some (vZ (i + 1)), none] [] σ4 post from ⟨(by omega), ?_⟩)
        exact ih (i + 1) (by omega) (by omega) he _ σ4 (hk3.tr hk4) hc4 (fun y => by show cNot C2 y = _; exact hC2 y)
  refine V_run kX7_spareBy 2 [] (show V 7 MX7_spareBy 6 [some (vR 6 44), none, none] [vZ 0, vR 6 44] σ1 post from ?_)
  refine V_callV (a := [vZ 0]) (rest := []) kX7_spareBy rfl oX7_isSpared iX7_isSpared lk_7_267 rfl rfl rfl (Nat.le_of_ble_eq_true rfl) (Nat.le_of_ble_eq_true rfl) (Nat.le_of_ble_eq_true rfl) (post' := fun zv zσ => V 7 MX7_spareBy 9 [some (vR 6 44), none, none] (zv.toList ++ []) zσ post) (c_M_isSpared hc1 (fun σ4 hk4 hc4 hr4 => (show V 7 MX7_spareBy 9 [some (vR 6 44), none, none] [vZ (if zEmp (aC S) 0 then 1 else 0)] σ4 post from ?_))) (fun _ _ h => h)
  by_cases h1 : zEmp (aC S) 0
  · skip
    rw [if_pos h1] at hv
    refine V_top (if_pos h1) ?_
    refine V_run kX7_spareBy 2 [0] (show (zr 1 ∧ ¬ 1 = 0) ∧ V 7 MX7_spareBy 13 [some (vR 6 44), none, none] [vZ 0] σ4 post from ⟨(by omega), ?_⟩)
    have hp := hp σ4 (hk1.tr hk4) (by rw [hv]; exact ⟨by decide, fun q => absurd q (by decide), fun q => absurd q (by decide)⟩)
    rw [hv] at hp
    exact V_iret kX7_spareBy rfl rfl (hp)
  · skip
    rw [if_neg h1] at hv
    refine V_top (if_neg h1) ?_
    refine V_run kX7_spareBy 3 [1] (show (zr 0 ∧ 0 = 0) ∧ V 7 MX7_spareBy 16 [some (vR 6 44), some (vZ 0), none] [] σ4 post from ⟨(by omega), ?_⟩)
    exact loop1 (a_eN S).toNat 0 (by omega) (by omega) hv.symm _ σ4 (hk1.tr hk4) hc4 (fun y => rfl)
set_option maxHeartbeats 4000000 in
set_option maxRecDepth 100000 in
/-- ofRow -/
theorem c_M_ofRow {r : Int × Int × Int} {i : Int} {σ : zSt} {post : Option VV → zSt → Prop} (hr : rowOk σ r) (i0 : -1 ≤ i) (i1 : i ≤ 1) (hp : post (some (vZ (zOfR r i))) σ) : Mc 0 MX7_ofRow [vR 6 44, vZ r.1, vZ i] σ post := by
  have h9 := hr.1
  unfold zOfR at hp
  show V 0 MX7_ofRow 0 [some (vR 6 44), some (vZ r.1), some (vZ i)] [] σ post
  refine V_run kX7_ofRow 2 [] (show V 0 MX7_ofRow 2 [some (vR 6 44), some (vZ r.1), some (vZ i)] [vZ (-1), vZ i] σ post from ?_)
  by_cases h1 : i = -1
  · skip
    rw [if_pos h1] at hp
    refine V_run kX7_ofRow 3 [0] (show (zr i ∧ zr (-1) ∧ i = (-1)) ∧ V 0 MX7_ofRow 24 [some (vR 6 44), some (vZ r.1), some (vZ i)] [vZ r.1] σ post from ⟨(by omega), ?_⟩)
    exact V_iret kX7_ofRow rfl rfl (hp)
  · skip
    rw [if_neg h1] at hp
    refine V_run kX7_ofRow 3 [1] (show (zr i ∧ zr (-1) ∧ ¬ i = (-1)) ∧ V 0 MX7_ofRow 11 [some (vR 6 44), some (vZ r.1), some (vZ i)] [vZ r.1, vZ i] σ post from ⟨(by omega), ?_⟩)
    by_cases h2 : i < r.1
    rotate_left
    · skip
      rw [if_neg h2] at hp
      refine V_run kX7_ofRow 2 [1] (show (zr i ∧ zr r.1 ∧ r.1 ≤ i) ∧ V 0 MX7_ofRow 24 [some (vR 6 44), some (vZ r.1), some (vZ i)] [vZ (-1)] σ post from ⟨(by omega), ?_⟩)
      exact V_iret kX7_ofRow rfl rfl (hp)
    rw [if_pos h2] at hp
    refine V_run kX7_ofRow 5 [0] (show (zr i ∧ zr r.1 ∧ i < r.1) ∧ (0 ≤ i ∧ i < 2) ∧ V 0 MX7_ofRow 20 [some (vR 6 44), some (vZ r.1), some (vZ i)] [vZ (σ.1 65 i)] σ post from ⟨(by omega), (by omega), ?_⟩)
    refine V_top (show σ.1 65 i = (if i = 0 then r.2.1 else r.2.2) by
      by_cases h3 : i = 0
      · rw [if_pos h3, h3]; exact hr.2.1 (by omega)
      · rw [if_neg h3, show i = 1 by omega]; exact hr.2.2 (by omega)) ?_
    refine V_run kX7_ofRow 1 [] (show V 0 MX7_ofRow 24 [some (vR 6 44), some (vZ r.1), some (vZ i)] [vZ (if i = 0 then r.2.1 else r.2.2)] σ post from ?_)
    exact V_iret kX7_ofRow rfl rfl (hp)
set_option maxHeartbeats 4000000 in
set_option maxRecDepth 100000 in
/-- spare -/
theorem c_M_spare {i : Int} {S : zAb} {σ : zSt} {post : Option VV → zSt → Prop} (hR : RM σ S) (ho : aOk S) (hi : zr i) (hp : ∀ σ', mKeep σ σ' → post (some (vZ (aSpare S i))) σ') : Mc 8 MX7_spare [vR 6 44, vZ i] σ post := by
  unfold aSpare at hp
  show V 8 MX7_spare 0 [some (vR 6 44), some (vZ i)] [] σ post
  refine V_run kX7_spare 3 [] (show V 8 MX7_spare 3 [some (vR 6 44), some (vZ i)] [vZ 1, vZ (-1), vZ i] σ post from ?_)
  refine V_callS (a := [vZ i, vZ (-1), vZ 1]) (rest := []) kX7_spare rfl oX7_in iX7_in lk_7_104 rfl rfl (Nat.le_of_ble_eq_true rfl) (Nat.le_of_ble_eq_true rfl) (Nat.le_of_ble_eq_true rfl) (post' := fun zv zσ => V 8 MX7_spare 6 [some (vR 6 44), some (vZ i)] (zv.toList ++ []) zσ post) (c_M_in (by omega) (by omega) (by omega) ((show V 8 MX7_spare 6 [some (vR 6 44), some (vZ i)] [vZ (if -1 ≤ i ∧ i ≤ 1 then 1 else 0)] σ post from ?_))) (fun _ _ h => h)
  by_cases h1 : -1 ≤ i ∧ i ≤ 1
  rotate_left
  · skip
    rw [if_neg h1] at hp
    refine V_top (if_neg h1) ?_
    refine V_run kX7_spare 2 [1] (show (zr 0 ∧ 0 = 0) ∧ V 8 MX7_spare 23 [some (vR 6 44), some (vZ i)] [vZ (-2)] σ post from ⟨(by omega), ?_⟩)
    exact V_iret kX7_spare rfl rfl (hp σ mKeep.rf)
  rw [if_pos h1] at hp
  refine V_top (if_pos h1) ?_
  refine V_run kX7_spare 3 [0] (show (zr 1 ∧ ¬ 1 = 0) ∧ V 8 MX7_spare 11 [some (vR 6 44), some (vZ i)] [vR 6 44, vR 6 44] σ post from ⟨(by omega), ?_⟩)
  refine V_callV (a := []) (rest := [vR 6 44]) kX7_spare rfl oX7_spareBy iX7_spareBy lk_7_270 rfl rfl rfl (Nat.le_of_ble_eq_true rfl) (Nat.le_of_ble_eq_true rfl) (Nat.le_of_ble_eq_true rfl) (post' := fun zv zσ => V 8 MX7_spare 14 [some (vR 6 44), some (vZ i)] (zv.toList ++ [vR 6 44]) zσ post) (c_M_spareBy hR ho (fun σ1 hk1 hr1 => (show V 8 MX7_spare 14 [some (vR 6 44), some (vZ i)] [vZ ((zSpr S).1), vR 6 44] σ1 post from ?_))) (fun _ _ h => h)
  refine V_run kX7_spare 1 [] (show V 8 MX7_spare 15 [some (vR 6 44), some (vZ i)] [vZ i, vZ ((zSpr S).1), vR 6 44] σ1 post from ?_)
  refine V_callV (a := [vZ ((zSpr S).1), vZ i]) (rest := []) kX7_spare rfl oX7_ofRow iX7_ofRow lk_7_273 rfl rfl rfl (Nat.le_of_ble_eq_true rfl) (Nat.le_of_ble_eq_true rfl) (Nat.le_of_ble_eq_true rfl) (post' := fun zv zσ => V 8 MX7_spare 18 [some (vR 6 44), some (vZ i)] (zv.toList ++ []) zσ post) (c_M_ofRow hr1 h1.1 h1.2 ((show V 8 MX7_spare 18 [some (vR 6 44), some (vZ i)] [vZ (zOfR (zSpr S) i)] σ1 post from ?_))) (fun _ _ h => h)
  refine V_run kX7_spare 1 [] (show V 8 MX7_spare 23 [some (vR 6 44), some (vZ i)] [vZ (zOfR (zSpr S) i)] σ1 post from ?_)
  exact V_iret kX7_spare rfl rfl (hp σ1 hk1)
