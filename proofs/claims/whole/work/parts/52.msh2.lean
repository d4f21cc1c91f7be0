def aFndS (S : zAb) (f : Int) : zAb := (a_pN S, a_pF S, a_wN S, a_wF S, a_eN S, a_eK S, a_eM S, a_eP S, a_sN S, a_sM S, a_sP S, a_sW S, a_hF S, a_hN S, a_hI S, f)
def aSheetS (S : zAb) (s f n : Int) : zAb := (a_pN S, a_pF S, a_wN S, a_wF S, a_eN S, a_eK S, a_eM S, a_eP S, a_sN S, a_sM S, a_sP S, a_sW S, fPut (a_hF S) s f, fPut (a_hN S) s n, fun a j => if a = s then 0 else a_hI S a j, a_fnd S)
def aLoseS (S : zAb) (s : Int) : zAb := (a_pN S, a_pF S, a_wN S, a_wF S, a_eN S, a_eK S, a_eM S, a_eP S, a_sN S, a_sM S, a_sP S, a_sW S, fPut (a_hF S) s (-1), fPut (a_hN S) s 0, a_hI S, a_fnd S)
def aItemS (S : zAb) (s i v : Int) : zAb := (a_pN S, a_pF S, a_wN S, a_wF S, a_eN S, a_eK S, a_eM S, a_eP S, a_sN S, a_sM S, a_sP S, a_sW S, a_hF S, a_hN S, fun a j => if a = s ∧ j = i then v else a_hI S a j, a_fnd S)
def tSheet (S : zAb) (s f n : Int) : zAb × Int := if ((0 ≤ s ∧ s ≤ 3) ∧ 0 ≤ f ∧ f ≤ 2) ∧ n ≤ 60 then (if n < 0 then (aFndS S 5, -15) else (aSheetS S s f n, n)) else (S, -2)
def tLose (S : zAb) (s : Int) : zAb × Int := if 0 ≤ s ∧ s ≤ 3 then (if a_hF S s = -1 then (aFndS S 1, -11) else (aLoseS S s, a_hN S s)) else (S, -2)
def tPut (S : zAb) (s f i v : Int) : zAb × Int := if (0 ≤ s ∧ s ≤ 3) ∧ 0 ≤ f ∧ f ≤ 2 then (if zLack (a_hF S s) (a_hN S s) f i = 0 then (aItemS S s i (zCut (a_hF S s) v), 1) else (aFndS S (zLack (a_hF S s) (a_hN S s) f i), -10 - zLack (a_hF S s) (a_hN S s) f i)) else (S, -2)
def tGet (S : zAb) (s f i : Int) : zAb × Int := if (0 ≤ s ∧ s ≤ 3) ∧ 0 ≤ f ∧ f ≤ 2 then (if zLack (a_hF S s) (a_hN S s) f i = 0 then (S, a_hI S s i) else (aFndS S (zLack (a_hF S s) (a_hN S s) f i), -2147483648)) else (S, -2147483648)
theorem RM_fnd {σ : zSt} {S : zAb} {f : Int} (hR : RM σ S) : RM (uI σ 44 39 f) (aFndS S f) := by
  obtain ⟨h1, h2, h3, h4, h5, h6⟩ := hR
  exact ⟨h1, h2, ⟨by rw [uI_at, if_neg (by decide)]; exact h3.1, h3.2⟩, ⟨by rw [uI_at, if_neg (by decide)]; exact h4.1, h4.2⟩, h5, uI_get⟩
theorem cK_44 {σ : zSt} {k : Nat} {j v : Int} (h : 44 ≤ k) : cKeep σ (uI σ k j v) := ⟨fun a x => by rw [uI_ne (by omega)], fun _ _ => rfl⟩
theorem cKeep.tr {σ σ' σ'' : zSt} (h : cKeep σ σ') (h2 : cKeep σ' σ'') : cKeep σ σ'' := ⟨fun a x => (h2.1 a x).trans (h.1 a x), fun a x => (h2.2 a x).trans (h.2 a x)⟩
theorem cKeep.rf {σ : zSt} : cKeep σ σ := ⟨fun _ _ => rfl, fun _ _ => rfl⟩
theorem RM_item {σ : zSt} {S : zAb} {s i v : Int} (hR : RM σ S) (i0 : 0 ≤ i) (i1 : i < 60) : RM (uI σ 73 (60 * s + i) v) (aItemS S s i v) := by
  obtain ⟨h1, h2, h3, h4, h5, h6⟩ := hR
  refine ⟨h1, h2, h3, h4, fun a a0 a1 => ?_, h6⟩
  obtain ⟨q1, q2⟩ := h5 a a0 a1
  refine ⟨q1, fun z => ?_⟩
  obtain ⟨q3, q4, q5⟩ := q2 z
  refine ⟨q3, q4, fun j j0 j1 => ?_⟩
  rw [uI_at]
  show _ = if a = s ∧ j = i then v else a_hI S a j
  by_cases z : a = s ∧ j = i
  · rw [if_pos z, if_pos (by omega)]
  · rw [if_neg z, if_neg (by omega)]; exact q5 j j0 j1
theorem zLack_r (F n f i : Int) : 0 ≤ zLack F n f i ∧ zLack F n f i ≤ 3 := by unfold zLack; split; omega; split; omega; split <;> omega
theorem zLack_0 {F n f i : Int} (h : zLack F n f i = 0) : ¬ F = -1 ∧ F = f ∧ 0 ≤ i ∧ i < n := by
  unfold zLack at h
  by_cases q1 : F = -1
  · rw [if_pos q1] at h; omega
  · rw [if_neg q1] at h
    by_cases q2 : F = f
    · rw [if_neg (fun z => z q2)] at h
      by_cases q3 : 0 ≤ i ∧ i < n
      · exact ⟨q1, q2, q3⟩
      · rw [if_neg q3] at h; omega
    · rw [if_pos q2] at h; omega
set_option maxHeartbeats 4000000 in
set_option maxRecDepth 100000 in
/-- meets -/
theorem c_M_meets {f : Int} {σ : zSt} {post : Option VV → zSt → Prop} (hp : post (some (vZ (-10 - f))) (uI σ 44 39 f)) : Mc 0 MX7_meets [vR 6 44, vZ f] σ post := by
  show V 0 MX7_meets 0 [some (vR 6 44), some (vZ f)] [] σ post
  refine V_run kX7_meets 6 [] (show V 0 MX7_meets 9 [some (vR 6 44), some (vZ f)] [vZ ((-10) - f)] (uI σ 44 39 f) post from ?_)
  exact V_iret kX7_meets rfl rfl (hp)
set_option maxHeartbeats 4000000 in
set_option maxRecDepth 100000 in
/-- keep -/
theorem c_M_keep {s i v : Int} {S : zAb} {σ : zSt} {post : Option VV → zSt → Prop} (hR : RM σ S) (ho : aOk S) (s0 : 0 ≤ s) (s1 : s < 4) (hF : ¬ a_hF S s = -1) (i0 : 0 ≤ i) (i1 : i < 60) (hp : post none (uI σ 73 (60 * s + i) (zCut (a_hF S s) v))) : Mc 0 MX7_keep [vR 6 44, vZ s, vZ i, vZ v] σ post := by
  have hs := (hR.2.2.2.2.1 s s0 s1).2 hF
  have hos := ho.2.2.2.2 s s0 s1
  unfold zCut at hp
  show V 0 MX7_keep 0 [some (vR 6 44), some (vZ s), some (vZ i), some (vZ v)] [] σ post
  refine V_run kX7_keep 11 [] (show (0 ≤ s ∧ s < 4) ∧ V 0 MX7_keep 16 [some (vR 6 44), some (vZ s), some (vZ i), some (vZ v)] [vZ (σ.1 71 s), vZ ((60 * s) + i), vR 8 73] σ post from ⟨(by omega), ?_⟩)
  refine V_top (hs.1) ?_
  by_cases h1 : a_hF S s = 0
  · skip
    rw [if_pos h1] at hp
    refine V_run kX7_keep 5 [0] (show (zr (a_hF S s) ∧ (a_hF S s) = 0) ∧ (0 ≤ ((60 * s) + i) ∧ ((60 * s) + i) < 240) ∧ V 0 MX7_keep 41 [some (vR 6 44), some (vZ s), some (vZ i), some (vZ v)] [] (uI σ 73 ((60 * s) + i) (zi2b v)) post from ⟨(by omega), (by omega), ?_⟩)
    exact V_vret kX7_keep rfl rfl (hp)
  · skip
    rw [if_neg h1] at hp
    refine V_run kX7_keep 5 [1] (show (zr (a_hF S s) ∧ ¬ (a_hF S s) = 0) ∧ (0 ≤ s ∧ s < 4) ∧ V 0 MX7_keep 30 [some (vR 6 44), some (vZ s), some (vZ i), some (vZ v)] [vZ (σ.1 71 s), vZ ((60 * s) + i), vR 8 73] σ post from ⟨(by omega), (by omega), ?_⟩)
    refine V_top (hs.1) ?_
    refine V_run kX7_keep 1 [] (show V 0 MX7_keep 31 [some (vR 6 44), some (vZ s), some (vZ i), some (vZ v)] [vZ 1, vZ (a_hF S s), vZ ((60 * s) + i), vR 8 73] σ post from ?_)
    by_cases h2 : a_hF S s = 1
    · skip
      rw [if_pos h2] at hp
      refine V_run kX7_keep 5 [0] (show (zr (a_hF S s) ∧ zr 1 ∧ (a_hF S s) = 1) ∧ (0 ≤ ((60 * s) + i) ∧ ((60 * s) + i) < 240) ∧ V 0 MX7_keep 41 [some (vR 6 44), some (vZ s), some (vZ i), some (vZ v)] [] (uI σ 73 ((60 * s) + i) (zi2s v)) post from ⟨(by omega), (by omega), ?_⟩)
      exact V_vret kX7_keep rfl rfl (hp)
    · skip
      rw [if_neg h2] at hp
      refine V_run kX7_keep 3 [1] (show (zr (a_hF S s) ∧ zr 1 ∧ ¬ (a_hF S s) = 1) ∧ (0 ≤ ((60 * s) + i) ∧ ((60 * s) + i) < 240) ∧ V 0 MX7_keep 41 [some (vR 6 44), some (vZ s), some (vZ i), some (vZ v)] [] (uI σ 73 ((60 * s) + i) v) post from ⟨(by omega), (by omega), ?_⟩)
      exact V_vret kX7_keep rfl rfl (hp)
set_option maxHeartbeats 4000000 in
set_option maxRecDepth 100000 in
/-- sheet -/
theorem c_M_sheet {s f n : Int} {S : zAb} {σ : zSt} {post : Option VV → zSt → Prop} (hR : RM σ S) (ho : aOk S) (hs : zr s) (hf : zr f) (hn : zr n) (hp : ∀ σ', cKeep σ σ' → RM σ' (tSheet S s f n).1 → post (some (vZ (tSheet S s f n).2)) σ') : Mc 2 MX7_sheet [vR 6 44, vZ s, vZ f, vZ n] σ post := by
  unfold tSheet at hp
  show V 2 MX7_sheet 0 [some (vR 6 44), some (vZ s), some (vZ f), some (vZ n), none] [] σ post
  refine V_run kX7_sheet 1 [] (show V 2 MX7_sheet 1 [some (vR 6 44), some (vZ s), some (vZ f), some (vZ n), none] [vZ s] σ post from ?_)
  refine V_callS (a := [vZ s]) (rest := []) kX7_sheet rfl oX7_isSheet iX7_isSheet lk_7_164 rfl rfl (Nat.le_of_ble_eq_true rfl) (Nat.le_of_ble_eq_true rfl) (Nat.le_of_ble_eq_true rfl) (post' := fun zv zσ => V 2 MX7_sheet 4 [some (vR 6 44), some (vZ s), some (vZ f), some (vZ n), none] (zv.toList ++ []) zσ post) (c_M_isSheet (by omega) ((show V 2 MX7_sheet 4 [some (vR 6 44), some (vZ s), some (vZ f), some (vZ n), none] [vZ (if 0 ≤ s ∧ s ≤ 3 then 1 else 0)] σ post from ?_))) (fun _ _ h => h)
  by_cases h1 : 0 ≤ s ∧ s ≤ 3
  rotate_left
  · skip
    refine V_top (if_neg h1) ?_
    refine V_run kX7_sheet 2 [1] (show (zr 0 ∧ 0 = 0) ∧ V 2 MX7_sheet 24 [some (vR 6 44), some (vZ s), some (vZ f), some (vZ n), none] [vZ (-2)] σ post from ⟨(by omega), ?_⟩)
    rw [if_neg (fun q => h1 q.1.1)] at hp
    exact V_iret kX7_sheet rfl rfl (hp σ cKeep.rf hR)
  refine V_top (if_pos h1) ?_
  refine V_run kX7_sheet 4 [0] (show (zr 1 ∧ ¬ 1 = 0) ∧ V 2 MX7_sheet 10 [some (vR 6 44), some (vZ s), some (vZ f), some (vZ n), none] [vZ 2, vZ 0, vZ f] σ post from ⟨(by omega), ?_⟩)
  refine V_callS (a := [vZ f, vZ 0, vZ 2]) (rest := []) kX7_sheet rfl oX7_in iX7_in lk_7_104 rfl rfl (Nat.le_of_ble_eq_true rfl) (Nat.le_of_ble_eq_true rfl) (Nat.le_of_ble_eq_true rfl) (post' := fun zv zσ => V 2 MX7_sheet 13 [some (vR 6 44), some (vZ s), some (vZ f), some (vZ n), none] (zv.toList ++ []) zσ post) (c_M_in (by omega) (by omega) (by omega) ((show V 2 MX7_sheet 13 [some (vR 6 44), some (vZ s), some (vZ f), some (vZ n), none] [vZ (if 0 ≤ f ∧ f ≤ 2 then 1 else 0)] σ post from ?_))) (fun _ _ h => h)
  by_cases h2 : 0 ≤ f ∧ f ≤ 2
  rotate_left
  · skip
    refine V_top (if_neg h2) ?_
    refine V_run kX7_sheet 2 [1] (show (zr 0 ∧ 0 = 0) ∧ V 2 MX7_sheet 24 [some (vR 6 44), some (vZ s), some (vZ f), some (vZ n), none] [vZ (-2)] σ post from ⟨(by omega), ?_⟩)
    rw [if_neg (fun q => h2 q.1.2)] at hp
    exact V_iret kX7_sheet rfl rfl (hp σ cKeep.rf hR)
  refine V_top (if_pos h2) ?_
  refine V_run kX7_sheet 3 [0] (show (zr 1 ∧ ¬ 1 = 0) ∧ V 2 MX7_sheet 19 [some (vR 6 44), some (vZ s), some (vZ f), some (vZ n), none] [vZ 60, vZ n] σ post from ⟨(by omega), ?_⟩)
  rcases Int.lt_or_le 60 n with h3 | h3
  · skip
    refine V_run kX7_sheet 2 [0] (show (zr n ∧ zr 60 ∧ 60 < n) ∧ V 2 MX7_sheet 24 [some (vR 6 44), some (vZ s), some (vZ f), some (vZ n), none] [vZ (-2)] σ post from ⟨(by omega), ?_⟩)
    rw [if_neg (fun q => absurd q.2 (by omega))] at hp
    exact V_iret kX7_sheet rfl rfl (hp σ cKeep.rf hR)
  · skip
    rw [if_pos ⟨⟨h1, h2⟩, h3⟩] at hp
    refine V_run kX7_sheet 2 [1] (show (zr n ∧ zr 60 ∧ n ≤ 60) ∧ V 2 MX7_sheet 26 [some (vR 6 44), some (vZ s), some (vZ f), some (vZ n), none] [vZ n] σ post from ⟨(by omega), ?_⟩)
    rcases Int.lt_or_le n 0 with h4 | h4
    · skip
      rw [if_pos h4] at hp
      refine V_run kX7_sheet 3 [0] (show (zr n ∧ n < 0) ∧ V 2 MX7_sheet 31 [some (vR 6 44), some (vZ s), some (vZ f), some (vZ n), none] [vZ 5, vR 6 44] σ post from ⟨(by omega), ?_⟩)
      refine V_callV (a := [vZ 5]) (rest := []) kX7_sheet rfl oX7_meets iX7_meets lk_7_167 rfl rfl rfl (Nat.le_of_ble_eq_true rfl) (Nat.le_of_ble_eq_true rfl) (Nat.le_of_ble_eq_true rfl) (post' := fun zv zσ => V 2 MX7_sheet 34 [some (vR 6 44), some (vZ s), some (vZ f), some (vZ n), none] (zv.toList ++ []) zσ post) (c_M_meets ((show V 2 MX7_sheet 34 [some (vR 6 44), some (vZ s), some (vZ f), some (vZ n), none] [vZ (-10 - 5)] (uI σ 44 39 5) post from ?_))) (fun _ _ h => h)
      exact V_iret kX7_sheet rfl rfl (hp _ (cK_44 (by decide)) (RM_fnd hR))
    · skip
      rw [if_neg (by omega)] at hp
      refine V_run kX7_sheet 18 [1] (show (zr n ∧ 0 ≤ n) ∧ (0 ≤ s ∧ s < 4 ∧ (1 = 0 ∨ 1 = 1)) ∧ (0 ≤ s ∧ s < 4) ∧ (0 ≤ s ∧ s < 4) ∧ V 2 MX7_sheet 59 [some (vR 6 44), some (vZ s), some (vZ f), some (vZ n), some (vZ 0)] [] (uI (uI (uI σ 70 s 1) 71 s f) 72 s n) post from ⟨(by omega), (by omega), (by omega), (by omega), ?_⟩)
      have loop : ∀ (m : Nat) (i : Int), 0 ≤ i → i + m = 60 → ∀ σ2 : zSt, σ2.2 = σ.2 → (∀ a : Nat, a ≠ 73 → σ2.1 a = (uI (uI (uI σ 70 s 1) 71 s f) 72 s n).1 a) → (∀ q : Int, σ2.1 73 q = if 60 * s ≤ q ∧ q < 60 * s + i then 0 else σ.1 73 q) → V 2 MX7_sheet 59 [some (vR 6 44), some (vZ s), some (vZ f), some (vZ n), some (vZ i)] [] σ2 post := by
        intro m
        induction m with
        | zero =>
          intro i i0 i1 σ2 e2 ea e73
          have hi : i = 60 := by omega
          subst hi
          refine V_run kX7_sheet 4 [1] (show (zr 60 ∧ zr 60 ∧ 60 ≤ 60) ∧ V 2 MX7_sheet 86 [some (vR 6 44), some (vZ s), some (vZ f), some (vZ n), some (vZ 60)] [vZ n] σ2 post from ⟨(by omega), ?_⟩)
          refine V_iret kX7_sheet rfl rfl (hp σ2 ⟨fun a x => by rw [ea a (by omega), uI_ne (by omega), uI_ne (by omega), uI_ne (by omega)], fun a _ => by rw [e2]⟩ ?_)
          obtain ⟨q1, q2, q3, q4, q5, q6⟩ := hR
          have ez : ∀ a : Nat, a < 70 → σ2.1 a = σ.1 a := fun a x => by rw [ea a (by omega), uI_ne (by omega), uI_ne (by omega), uI_ne (by omega)]
          have e70 : σ2.1 70 = (uI σ 70 s 1).1 70 := by rw [ea 70 (by decide), uI_ne (by decide), uI_ne (by decide)]
          have e71 : σ2.1 71 = (uI σ 71 s f).1 71 := by rw [ea 71 (by decide), uI_ne (by decide)]; rfl
          have e72 : σ2.1 72 = (uI σ 72 s n).1 72 := by rw [ea 72 (by decide)]; rfl
          refine ⟨by rw [ez 45 (by decide), ez 46 (by decide)]; exact q1, by rw [ez 45 (by decide), ez 46 (by decide)]; exact q2, by rw [ez 44 (by decide), ez 51 (by decide), ez 52 (by decide), ez 53 (by decide)]; exact q3, by rw [ez 44 (by decide), ez 66 (by decide), ez 67 (by decide), ez 68 (by decide)]; exact q4, fun a a0 a1 => ?_, by rw [ez 44 (by decide)]; exact q6⟩
          obtain ⟨w1, w2⟩ := q5 a a0 a1
          show (σ2.1 70 a = if fPut (a_hF S) s f a = -1 then 0 else 1) ∧ (fPut (a_hF S) s f a ≠ -1 → σ2.1 71 a = fPut (a_hF S) s f a ∧ σ2.1 72 a = fPut (a_hN S) s n a ∧ ∀ j : Int, 0 ≤ j → j < 60 → σ2.1 73 (60 * a + j) = if a = s then 0 else a_hI S a j)
          rw [e70, e71, e72, uI_at, uI_at, uI_at, fPut_at, fPut_at]
          by_cases z : a = s
          · rw [if_pos z, if_pos z, if_pos z, if_pos z, if_pos z, if_neg (by omega)]
            exact ⟨rfl, fun _ => ⟨rfl, rfl, fun j j0 j1 => by rw [e73, if_pos (by omega), if_pos z]⟩⟩
          · rw [if_neg z, if_neg z, if_neg z, if_neg z, if_neg z]
            exact ⟨w1, fun y => ⟨(w2 y).1, (w2 y).2.1, fun j j0 j1 => by rw [e73, if_neg (by omega), if_neg z]; exact (w2 y).2.2 j j0 j1⟩⟩
        | succ m ih =>
          intro i i0 i1 σ2 e2 ea e73
          refine V_run kX7_sheet 14 [0] (show (zr i ∧ zr 60 ∧ i < 60) ∧ (0 ≤ ((60 * s) + i) ∧ ((60 * s) + i) < 240) ∧ V 2 MX7_sheet 59 [some (vR 6 44), some (vZ s), some (vZ f), some (vZ n), some (vZ (i + 1))] [] (uI σ2 73 ((60 * s) + i) 0) post from ⟨(by omega), (by omega), ?_⟩)
          refine ih (i + 1) (by omega) (by omega) _ e2 (fun a x => by rw [uI_ne x]; exact ea a x) (fun q => ?_)
          rw [uI_at]
          by_cases z : q = 60 * s + i
          · rw [if_pos z, if_pos (by omega)]
          · rw [if_neg z, e73]
            by_cases z2 : 60 * s ≤ q ∧ q < 60 * s + i
            · rw [if_pos z2, if_pos (by omega)]
            · rw [if_neg z2, if_neg (by omega)]
      exact loop 60 0 (by omega) (by omega) _ rfl (fun a x => rfl) (fun q => by rw [if_neg (by omega), uI_ne (by decide), uI_ne (by decide), uI_ne (by decide)])
set_option maxHeartbeats 4000000 in
set_option maxRecDepth 100000 in
/-- lose -/
theorem c_M_lose {s : Int} {S : zAb} {σ : zSt} {post : Option VV → zSt → Prop} (hR : RM σ S) (ho : aOk S) (hs : zr s) (hp : ∀ σ', cKeep σ σ' → RM σ' (tLose S s).1 → post (some (vZ (tLose S s).2)) σ') : Mc 2 MX7_lose [vR 6 44, vZ s] σ post := by
  unfold tLose at hp
  show V 2 MX7_lose 0 [some (vR 6 44), some (vZ s)] [] σ post
  refine V_run kX7_lose 1 [] (show V 2 MX7_lose 1 [some (vR 6 44), some (vZ s)] [vZ s] σ post from ?_)
  refine V_callS (a := [vZ s]) (rest := []) kX7_lose rfl oX7_isSheet iX7_isSheet lk_7_164 rfl rfl (Nat.le_of_ble_eq_true rfl) (Nat.le_of_ble_eq_true rfl) (Nat.le_of_ble_eq_true rfl) (post' := fun zv zσ => V 2 MX7_lose 4 [some (vR 6 44), some (vZ s)] (zv.toList ++ []) zσ post) (c_M_isSheet (by omega) ((show V 2 MX7_lose 4 [some (vR 6 44), some (vZ s)] [vZ (if 0 ≤ s ∧ s ≤ 3 then 1 else 0)] σ post from ?_))) (fun _ _ h => h)
  by_cases h1 : 0 ≤ s ∧ s ≤ 3
  rotate_left
  · skip
    refine V_top (if_neg h1) ?_
    refine V_run kX7_lose 2 [0] (show (zr 0 ∧ 0 = 0) ∧ V 2 MX7_lose 9 [some (vR 6 44), some (vZ s)] [vZ (-2)] σ post from ⟨(by omega), ?_⟩)
    rw [if_neg h1] at hp
    exact V_iret kX7_lose rfl rfl (hp σ cKeep.rf hR)
  refine V_top (if_pos h1) ?_
  rw [if_pos h1] at hp
  have hw := hR.2.2.2.2.1 s h1.1 (by omega)
  refine V_run kX7_lose 5 [1] (show (zr 1 ∧ ¬ 1 = 0) ∧ (0 ≤ s ∧ s < 4) ∧ V 2 MX7_lose 16 [some (vR 6 44), some (vZ s)] [vZ (σ.1 70 s)] σ post from ⟨(by omega), (by omega), ?_⟩)
  refine V_top (hw.1) ?_
  by_cases h2 : a_hF S s = -1
  · skip
    rw [if_pos h2] at hp
    refine V_top (if_pos h2) ?_
    refine V_run kX7_lose 3 [0] (show (zr 0 ∧ 0 = 0) ∧ V 2 MX7_lose 21 [some (vR 6 44), some (vZ s)] [vZ 1, vR 6 44] σ post from ⟨(by omega), ?_⟩)
    refine V_callV (a := [vZ 1]) (rest := []) kX7_lose rfl oX7_meets iX7_meets lk_7_167 rfl rfl rfl (Nat.le_of_ble_eq_true rfl) (Nat.le_of_ble_eq_true rfl) (Nat.le_of_ble_eq_true rfl) (post' := fun zv zσ => V 2 MX7_lose 24 [some (vR 6 44), some (vZ s)] (zv.toList ++ []) zσ post) (c_M_meets ((show V 2 MX7_lose 24 [some (vR 6 44), some (vZ s)] [vZ (-10 - 1)] (uI σ 44 39 1) post from ?_))) (fun _ _ h => h)
    exact V_iret kX7_lose rfl rfl (hp _ (cK_44 (by decide)) (RM_fnd hR))
  · skip
    rw [if_neg h2] at hp
    refine V_top (if_neg h2) ?_
    refine V_run kX7_lose 10 [1] (show (zr 1 ∧ ¬ 1 = 0) ∧ (0 ≤ s ∧ s < 4 ∧ (0 = 0 ∨ 0 = 1)) ∧ (0 ≤ s ∧ s < 4) ∧ V 2 MX7_lose 38 [some (vR 6 44), some (vZ s)] [vZ ((uI σ 70 s 0).1 72 s)] (uI σ 70 s 0) post from ⟨(by omega), (by omega), (by omega), ?_⟩)
    refine V_top (show (uI σ 70 s 0).1 72 s = a_hN S s from (hw.2 h2).2.1) ?_
    refine V_iret kX7_lose rfl rfl (hp _ (cK_44 (by decide)) ?_)
    obtain ⟨q1, q2, q3, q4, q5, q6⟩ := hR
    refine ⟨q1, q2, q3, q4, fun a a0 a1 => ?_, q6⟩
    obtain ⟨w1, w2⟩ := q5 a a0 a1
    show ((uI σ 70 s 0).1 70 a = if fPut (a_hF S) s (-1) a = -1 then 0 else 1) ∧ (fPut (a_hF S) s (-1) a ≠ -1 → σ.1 71 a = fPut (a_hF S) s (-1) a ∧ σ.1 72 a = fPut (a_hN S) s 0 a ∧ ∀ j : Int, 0 ≤ j → j < 60 → σ.1 73 (60 * a + j) = a_hI S a j)
    rw [uI_at, fPut_at, fPut_at]
    by_cases z : a = s
    · rw [if_pos z, if_pos z, if_pos rfl]; exact ⟨rfl, fun y => absurd rfl y⟩
    · rw [if_neg z, if_neg z, if_neg z]; exact ⟨w1, w2⟩
set_option maxHeartbeats 4000000 in
set_option maxRecDepth 100000 in
/-- put -/
theorem c_M_put {s f i v : Int} {S : zAb} {σ : zSt} {post : Option VV → zSt → Prop} (hR : RM σ S) (ho : aOk S) (hs : zr s) (hf : zr f) (hi : zr i) (hv : zr v) (hp : ∀ σ', cKeep σ σ' → RM σ' (tPut S s f i v).1 → post (some (vZ (tPut S s f i v).2)) σ') : Mc 2 MX7_put [vR 6 44, vZ s, vZ f, vZ i, vZ v] σ post := by
  unfold tPut at hp
  show V 2 MX7_put 0 [some (vR 6 44), some (vZ s), some (vZ f), some (vZ i), some (vZ v), none] [] σ post
  refine V_run kX7_put 1 [] (show V 2 MX7_put 1 [some (vR 6 44), some (vZ s), some (vZ f), some (vZ i), some (vZ v), none] [vZ s] σ post from ?_)
  refine V_callS (a := [vZ s]) (rest := []) kX7_put rfl oX7_isSheet iX7_isSheet lk_7_164 rfl rfl (Nat.le_of_ble_eq_true rfl) (Nat.le_of_ble_eq_true rfl) (Nat.le_of_ble_eq_true rfl) (post' := fun zv zσ => V 2 MX7_put 4 [some (vR 6 44), some (vZ s), some (vZ f), some (vZ i), some (vZ v), none] (zv.toList ++ []) zσ post) (c_M_isSheet (by omega) ((show V 2 MX7_put 4 [some (vR 6 44), some (vZ s), some (vZ f), some (vZ i), some (vZ v), none] [vZ (if 0 ≤ s ∧ s ≤ 3 then 1 else 0)] σ post from ?_))) (fun _ _ h => h)
  by_cases h1 : 0 ≤ s ∧ s ≤ 3
  rotate_left
  · skip
    refine V_top (if_neg h1) ?_
    refine V_run kX7_put 2 [1] (show (zr 0 ∧ 0 = 0) ∧ V 2 MX7_put 18 [some (vR 6 44), some (vZ s), some (vZ f), some (vZ i), some (vZ v), none] [vZ (-2)] σ post from ⟨(by omega), ?_⟩)
    rw [if_neg (fun q => h1 q.1)] at hp
    exact V_iret kX7_put rfl rfl (hp σ cKeep.rf hR)
  refine V_top (if_pos h1) ?_
  refine V_run kX7_put 4 [0] (show (zr 1 ∧ ¬ 1 = 0) ∧ V 2 MX7_put 10 [some (vR 6 44), some (vZ s), some (vZ f), some (vZ i), some (vZ v), none] [vZ 2, vZ 0, vZ f] σ post from ⟨(by omega), ?_⟩)
  refine V_callS (a := [vZ f, vZ 0, vZ 2]) (rest := []) kX7_put rfl oX7_in iX7_in lk_7_104 rfl rfl (Nat.le_of_ble_eq_true rfl) (Nat.le_of_ble_eq_true rfl) (Nat.le_of_ble_eq_true rfl) (post' := fun zv zσ => V 2 MX7_put 13 [some (vR 6 44), some (vZ s), some (vZ f), some (vZ i), some (vZ v), none] (zv.toList ++ []) zσ post) (c_M_in (by omega) (by omega) (by omega) ((show V 2 MX7_put 13 [some (vR 6 44), some (vZ s), some (vZ f), some (vZ i), some (vZ v), none] [vZ (if 0 ≤ f ∧ f ≤ 2 then 1 else 0)] σ post from ?_))) (fun _ _ h => h)
  by_cases h2 : 0 ≤ f ∧ f ≤ 2
  rotate_left
  · skip
    refine V_top (if_neg h2) ?_
    refine V_run kX7_put 2 [0] (show (zr 0 ∧ 0 = 0) ∧ V 2 MX7_put 18 [some (vR 6 44), some (vZ s), some (vZ f), some (vZ i), some (vZ v), none] [vZ (-2)] σ post from ⟨(by omega), ?_⟩)
    rw [if_neg (fun q => h2 q.2)] at hp
    exact V_iret kX7_put rfl rfl (hp σ cKeep.rf hR)
  refine V_top (if_pos h2) ?_
  refine V_run kX7_put 5 [1] (show (zr 1 ∧ ¬ 1 = 0) ∧ V 2 MX7_put 23 [some (vR 6 44), some (vZ s), some (vZ f), some (vZ i), some (vZ v), none] [vZ i, vZ f, vZ s, vR 6 44] σ post from ⟨(by omega), ?_⟩)
  rw [if_pos ⟨h1, h2⟩] at hp
  refine V_callV (a := [vZ s, vZ f, vZ i]) (rest := []) kX7_put rfl oX7_lacks iX7_lacks lk_7_319 rfl rfl rfl (Nat.le_of_ble_eq_true rfl) (Nat.le_of_ble_eq_true rfl) (Nat.le_of_ble_eq_true rfl) (post' := fun zv zσ => V 2 MX7_put 26 [some (vR 6 44), some (vZ s), some (vZ f), some (vZ i), some (vZ v), none] (zv.toList ++ []) zσ post) (c_M_lacks hR ho h1.1 (by omega) (by omega) (by omega) ((show V 2 MX7_put 26 [some (vR 6 44), some (vZ s), some (vZ f), some (vZ i), some (vZ v), none] [vZ (zLack (a_hF S s) (a_hN S s) f i)] σ post from ?_))) (fun _ _ h => h)
  have hlr := zLack_r (a_hF S s) (a_hN S s) f i
  obtain ⟨k, hk⟩ : ∃ k : Int, k = zLack (a_hF S s) (a_hN S s) f i := ⟨_, rfl⟩
  rw [← hk] at hp hlr ⊢
  refine V_run kX7_put 2 [] (show V 2 MX7_put 30 [some (vR 6 44), some (vZ s), some (vZ f), some (vZ i), some (vZ v), some (vZ k)] [vZ k] σ post from ?_)
  by_cases h3 : k = 0
  · skip
    rw [if_pos h3] at hp
    have h4 := zLack_0 (hk.symm.trans h3)
    have h5 := (ho.2.2.2.2 s h1.1 (by omega)).2.1
    refine V_run kX7_put 5 [1] (show (zr k ∧ k ≤ 0) ∧ V 2 MX7_put 45 [some (vR 6 44), some (vZ s), some (vZ f), some (vZ i), some (vZ v), some (vZ k)] [vZ v, vZ i, vZ s, vR 6 44] σ post from ⟨(by omega), ?_⟩)
    refine V_callV (a := [vZ s, vZ i, vZ v]) (rest := []) kX7_put rfl oX7_keep iX7_keep lk_7_322 rfl rfl rfl (Nat.le_of_ble_eq_true rfl) (Nat.le_of_ble_eq_true rfl) (Nat.le_of_ble_eq_true rfl) (post' := fun zv zσ => V 2 MX7_put 48 [some (vR 6 44), some (vZ s), some (vZ f), some (vZ i), some (vZ v), some (vZ k)] (zv.toList ++ []) zσ post) (c_M_keep hR ho h1.1 (by omega) h4.1 h4.2.2.1 (by omega) ((show V 2 MX7_put 48 [some (vR 6 44), some (vZ s), some (vZ f), some (vZ i), some (vZ v), some (vZ k)] [] (uI σ 73 (60 * s + i) (zCut (a_hF S s) v)) post from ?_))) (fun _ _ h => h)
    refine V_run kX7_put 1 [] (show V 2 MX7_put 49 [some (vR 6 44), some (vZ s), some (vZ f), some (vZ i), some (vZ v), some (vZ k)] [vZ 1] (uI σ 73 (60 * s + i) (zCut (a_hF S s) v)) post from ?_)
    exact V_iret kX7_put rfl rfl (hp _ (cK_44 (by decide)) (RM_item hR h4.2.2.1 (by omega)))
  · skip
    rw [if_neg h3] at hp
    refine V_run kX7_put 3 [0] (show (zr k ∧ 0 < k) ∧ V 2 MX7_put 36 [some (vR 6 44), some (vZ s), some (vZ f), some (vZ i), some (vZ v), some (vZ k)] [vZ k, vR 6 44] σ post from ⟨(by omega), ?_⟩)
    refine V_callV (a := [vZ k]) (rest := []) kX7_put rfl oX7_meets iX7_meets lk_7_167 rfl rfl rfl (Nat.le_of_ble_eq_true rfl) (Nat.le_of_ble_eq_true rfl) (Nat.le_of_ble_eq_true rfl) (post' := fun zv zσ => V 2 MX7_put 39 [some (vR 6 44), some (vZ s), some (vZ f), some (vZ i), some (vZ v), some (vZ k)] (zv.toList ++ []) zσ post) (c_M_meets ((show V 2 MX7_put 39 [some (vR 6 44), some (vZ s), some (vZ f), some (vZ i), some (vZ v), some (vZ k)] [vZ (-10 - k)] (uI σ 44 39 k) post from ?_))) (fun _ _ h => h)
    exact V_iret kX7_put rfl rfl (hp _ (cK_44 (by decide)) (RM_fnd hR))
set_option maxHeartbeats 4000000 in
set_option maxRecDepth 100000 in
/-- get -/
theorem c_M_get {s f i : Int} {S : zAb} {σ : zSt} {post : Option VV → zSt → Prop} (hR : RM σ S) (ho : aOk S) (hs : zr s) (hf : zr f) (hi : zr i) (hp : ∀ σ', cKeep σ σ' → RM σ' (tGet S s f i).1 → post (some (vZ (tGet S s f i).2)) σ') : Mc 2 MX7_get [vR 6 44, vZ s, vZ f, vZ i] σ post := by
  unfold tGet at hp
  show V 2 MX7_get 0 [some (vR 6 44), some (vZ s), some (vZ f), some (vZ i), none] [] σ post
  refine V_run kX7_get 1 [] (show V 2 MX7_get 1 [some (vR 6 44), some (vZ s), some (vZ f), some (vZ i), none] [vZ s] σ post from ?_)
  refine V_callS (a := [vZ s]) (rest := []) kX7_get rfl oX7_isSheet iX7_isSheet lk_7_164 rfl rfl (Nat.le_of_ble_eq_true rfl) (Nat.le_of_ble_eq_true rfl) (Nat.le_of_ble_eq_true rfl) (post' := fun zv zσ => V 2 MX7_get 4 [some (vR 6 44), some (vZ s), some (vZ f), some (vZ i), none] (zv.toList ++ []) zσ post) (c_M_isSheet (by omega) ((show V 2 MX7_get 4 [some (vR 6 44), some (vZ s), some (vZ f), some (vZ i), none] [vZ (if 0 ≤ s ∧ s ≤ 3 then 1 else 0)] σ post from ?_))) (fun _ _ h => h)
  by_cases h1 : 0 ≤ s ∧ s ≤ 3
  rotate_left
  · skip
    refine V_top (if_neg h1) ?_
    refine V_run kX7_get 2 [1] (show (zr 0 ∧ 0 = 0) ∧ V 2 MX7_get 19 [some (vR 6 44), some (vZ s), some (vZ f), some (vZ i), none] [vZ (-2147483648)] σ post from ⟨(by omega), ?_⟩)
    rw [if_neg (fun q => h1 q.1)] at hp
    exact V_iret kX7_get rfl rfl (hp σ cKeep.rf hR)
  refine V_top (if_pos h1) ?_
  refine V_run kX7_get 4 [0] (show (zr 1 ∧ ¬ 1 = 0) ∧ V 2 MX7_get 10 [some (vR 6 44), some (vZ s), some (vZ f), some (vZ i), none] [vZ 2, vZ 0, vZ f] σ post from ⟨(by omega), ?_⟩)
  refine V_callS (a := [vZ f, vZ 0, vZ 2]) (rest := []) kX7_get rfl oX7_in iX7_in lk_7_104 rfl rfl (Nat.le_of_ble_eq_true rfl) (Nat.le_of_ble_eq_true rfl) (Nat.le_of_ble_eq_true rfl) (post' := fun zv zσ => V 2 MX7_get 13 [some (vR 6 44), some (vZ s), some (vZ f), some (vZ i), none] (zv.toList ++ []) zσ post) (c_M_in (by omega) (by omega) (by omega) ((show V 2 MX7_get 13 [some (vR 6 44), some (vZ s), some (vZ f), some (vZ i), none] [vZ (if 0 ≤ f ∧ f ≤ 2 then 1 else 0)] σ post from ?_))) (fun _ _ h => h)
  by_cases h2 : 0 ≤ f ∧ f ≤ 2
  rotate_left
  · skip
    refine V_top (if_neg h2) ?_
    refine V_run kX7_get 2 [0] (show (zr 0 ∧ 0 = 0) ∧ V 2 MX7_get 19 [some (vR 6 44), some (vZ s), some (vZ f), some (vZ i), none] [vZ (-2147483648)] σ post from ⟨(by omega), ?_⟩)
    rw [if_neg (fun q => h2 q.2)] at hp
    exact V_iret kX7_get rfl rfl (hp σ cKeep.rf hR)
  refine V_top (if_pos h2) ?_
  refine V_run kX7_get 5 [1] (show (zr 1 ∧ ¬ 1 = 0) ∧ V 2 MX7_get 24 [some (vR 6 44), some (vZ s), some (vZ f), some (vZ i), none] [vZ i, vZ f, vZ s, vR 6 44] σ post from ⟨(by omega), ?_⟩)
  rw [if_pos ⟨h1, h2⟩] at hp
  refine V_callV (a := [vZ s, vZ f, vZ i]) (rest := []) kX7_get rfl oX7_lacks iX7_lacks lk_7_319 rfl rfl rfl (Nat.le_of_ble_eq_true rfl) (Nat.le_of_ble_eq_true rfl) (Nat.le_of_ble_eq_true rfl) (post' := fun zv zσ => V 2 MX7_get 27 [some (vR 6 44), some (vZ s), some (vZ f), some (vZ i), none] (zv.toList ++ []) zσ post) (c_M_lacks hR ho h1.1 (by omega) (by omega) (by omega) ((show V 2 MX7_get 27 [some (vR 6 44), some (vZ s), some (vZ f), some (vZ i), none] [vZ (zLack (a_hF S s) (a_hN S s) f i)] σ post from ?_))) (fun _ _ h => h)
  have hlr := zLack_r (a_hF S s) (a_hN S s) f i
  obtain ⟨k, hk⟩ : ∃ k : Int, k = zLack (a_hF S s) (a_hN S s) f i := ⟨_, rfl⟩
  rw [← hk] at hp hlr ⊢
  refine V_run kX7_get 2 [] (show V 2 MX7_get 31 [some (vR 6 44), some (vZ s), some (vZ f), some (vZ i), some (vZ k)] [vZ k] σ post from ?_)
  by_cases h3 : k = 0
  · skip
    rw [if_pos h3] at hp
    have h4 := zLack_0 (hk.symm.trans h3)
    have h5 := (ho.2.2.2.2 s h1.1 (by omega)).2.1
    refine V_run kX7_get 9 [1] (show (zr k ∧ k ≤ 0) ∧ (0 ≤ ((60 * s) + i) ∧ ((60 * s) + i) < 240) ∧ V 2 MX7_get 55 [some (vR 6 44), some (vZ s), some (vZ f), some (vZ i), some (vZ k)] [vZ (σ.1 73 ((60 * s) + i))] σ post from ⟨(by omega), (by omega), ?_⟩)
    refine V_top (((hR.2.2.2.2.1 s h1.1 (by omega)).2 h4.1).2.2 i h4.2.2.1 (by omega)) ?_
    exact V_iret kX7_get rfl rfl (hp σ cKeep.rf hR)
  · skip
    rw [if_neg h3] at hp
    refine V_run kX7_get 5 [0] (show (zr k ∧ 0 < k) ∧ V 2 MX7_get 43 [some (vR 6 44), some (vZ s), some (vZ f), some (vZ i), some (vZ k)] [vZ (-2147483648)] (uI σ 44 39 k) post from ⟨(by omega), ?_⟩)
    exact V_iret kX7_get rfl rfl (hp _ (cK_44 (by decide)) (RM_fnd hR))
