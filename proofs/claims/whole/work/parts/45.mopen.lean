theorem zSvc_b {C : zCf} : ∀ (m : Nat) (t a : Int), a ≤ zSvc C m t a ∧ zSvc C m t a ≤ a + m
  | 0, _, a => by unfold zSvc; omega
  | m + 1, t, a => by
    unfold zSvc
    have h := zSvc_b (C := C) m (t + 1)
    by_cases q : dl (zD C 23) t = 0
    · rw [if_pos q]; have := h (a + 1); omega
    · rw [if_neg q]; have := h a; omega
theorem zMc_open {σ : zSt} {C : zCf} {t v : Int} (h : zMc σ C) (h17 : σ.1 44 17 = t ∨ σ.1 44 17 = -1) (t0 : zr t) (v0 : 0 ≤ v) (v1 : v ≤ 3) : zMc (uI (uI σ 44 17 t) 44 18 v) (cOpen C t v) := by
  obtain ⟨h1, h2, h3, h4, h5, h6, h7⟩ := h
  have e (j : Int) (q : j ≠ 17) (q2 : j ≠ 18) : (uI (uI σ 44 17 t) 44 18 v).1 44 j = σ.1 44 j := by rw [uI_at, if_neg q2, uI_at, if_neg q]
  have e17 : (uI (uI σ 44 17 t) 44 18 v).1 44 17 = t := by rw [uI_at, if_neg (by decide), uI_get]
  refine ⟨by rw [e 2 (by decide) (by decide)]; exact h1, by rw [e 12 (by decide) (by decide)]; exact h2, h3, fun j a b => ?_, fun i a b => by rw [e 16 (by decide) (by decide)]; exact h5 i a b, ⟨by rw [e17]; exact t0, by rw [uI_get]; exact ⟨by omega, by omega⟩⟩, cOpen_v h7 v0 v1⟩
  rw [e17, uI_get]
  show (if j = t then v else σ.1 50 j) = fPut (cWi C) t v j
  rw [fPut_at]
  by_cases q : j = t
  · rw [if_pos q, if_pos q]
  · have h8 := h4 j a b
    rw [if_neg (fun z => by omega)] at h8
    rw [if_neg q, if_neg q, h8]
theorem zMc_let {σ : zSt} {C : zCf} {t k : Int} (h : zMc σ C) (he : cE C ≤ 8) (h16 : σ.1 44 16 = 0) (hon : ∀ e : Int, cOn C e = true) (t0 : 0 ≤ t) (t1 : t < 24) (k0 : 0 ≤ k) (k1 : k < cn C) (h12 : σ.1 44 12 = cE C) : zMc (uI (uI (uI (uI σ 44 12 (cE C + 1)) 54 (cE C) 1) 55 (cE C) t) 56 (cE C) k) (cLet C t k) := by
  have h7 := zMc_C h
  obtain ⟨h1, h2, h3, h4, h5, h6, -⟩ := h
  have e (j : Int) (q : j ≠ 12) : (uI (uI (uI (uI σ 44 12 (cE C + 1)) 54 (cE C) 1) 55 (cE C) t) 56 (cE C) k).1 44 j = σ.1 44 j := by
    show (uI σ 44 12 (cE C + 1)).1 44 j = _
    rw [uI_at, if_neg q]
  refine ⟨by rw [e 2 (by decide)]; exact h1, ?_, h3, fun j a b => by rw [e 17 (by decide), e 18 (by decide)]; exact h4 j a b, fun i a b => ?_, by rw [e 17 (by decide), e 18 (by decide)]; exact h6, cLet_v h7 he t0 t1 k0 k1⟩
  · show (uI σ 44 12 (cE C + 1)).1 44 12 = cE C + 1
    rw [uI_get]
  · have b : i < cE C + 1 := b
    rw [e 16 (by decide), h16, zbt_0]
    refine ⟨?_, ?_, ?_, hon i⟩
    · rw [uI_ne (by decide), uI_ne (by decide), uI_at]
      show _ = fPut (cKi C) (cE C) 1 i
      rw [fPut_at]
      by_cases q : i = cE C
      · rw [if_pos q, if_pos q]
      · rw [if_neg q, if_neg q]; exact (h5 i a (by omega)).1
    · rw [uI_ne (by decide), uI_at]
      show _ = fPut (cMi C) (cE C) t i
      rw [fPut_at]
      by_cases q : i = cE C
      · rw [if_pos q, if_pos q]
      · rw [if_neg q, if_neg q]; exact (h5 i a (by omega)).2.1
    · rw [uI_at]
      show _ = fPut (cPe C) (cE C) k i
      rw [fPut_at]
      by_cases q : i = cE C
      · rw [if_pos q, if_pos q]
      · rw [if_neg q, if_neg q]; exact (h5 i a (by omega)).2.2.1
theorem zMc_let2 {σ : zSt} {C : zCf} {t k k' : Int} (h : zMc σ (cLet C t k)) (k0 : 0 ≤ k') (k1 : k' < cn C) : zMc (uI σ 56 (cE C) k') (cLet C t k') := by
  obtain ⟨h1, h2, h3, h4, h5, h6, h7⟩ := h
  have hcn : cn C ≤ 12 := h7.1.2
  refine ⟨h1, h2, h3, h4, fun i a b => ?_, h6, h7.1, h7.2.1, h7.2.2.1, h7.2.2.2.1, fun i a b => ?_⟩
  · obtain ⟨q1, q2, q3, q4⟩ := h5 i a b
    refine ⟨q1, q2, ?_, q4⟩
    have q3 : σ.1 56 i = fPut (cPe C) (cE C) k i := q3
    rw [uI_at]
    show _ = fPut (cPe C) (cE C) k' i
    rw [fPut_at] at q3 ⊢
    by_cases q : i = cE C
    · rw [if_pos q, if_pos q]
    · rw [if_neg q, if_neg q, q3, if_neg q]
  · obtain ⟨q1, q2, q3⟩ := h7.2.2.2.2 i a b
    refine ⟨q1, q2, ?_⟩
    have q3 : 0 ≤ fPut (cPe C) (cE C) k i ∧ fPut (cPe C) (cE C) k i ≤ 11 := q3
    show 0 ≤ fPut (cPe C) (cE C) k' i ∧ fPut (cPe C) (cE C) k' i ≤ 11
    rw [fPut_at] at q3 ⊢
    by_cases q : i = cE C
    · rw [if_pos q]; omega
    · rw [if_neg q] at q3 ⊢; exact q3
def zPick (r : Int × Int) (x : Int) : Int := if x = 0 then r.1 else r.2
def zOpn (C : zCf) (t : Int) : Nat → Int → Int → Int → Int × Int
  | 0, _, b, l => (b, l)
  | m + 1, v, b, l => if l < zSvc (cOpen C t v) (cn C).toNat 0 0 then zOpn C t m (v + 1) v (zSvc (cOpen C t v) (cn C).toNat 0 0) else zOpn C t m (v + 1) b l
def zLet (C : zCf) (t : Int) : Nat → Int → Int → Int → Int × Int
  | 0, _, b, l => (b, l)
  | m + 1, v, b, l => if l < zSvc (cLet C t v) (cn C).toNat 0 0 then zLet C t m (v + 1) v (zSvc (cLet C t v) (cn C).toNat 0 0) else zLet C t m (v + 1) b l
def aOpen (S : zAb) (t x : Int) : Int := if (0 ≤ t ∧ t ≤ 23) ∧ 0 ≤ x ∧ x ≤ 1 then zPick (zOpn (aC S) t 4 0 (-1) (-1)) x else -2
def aLet (S : zAb) (t x : Int) : Int := if (0 ≤ t ∧ t ≤ 23) ∧ 0 ≤ x ∧ x ≤ 1 then zPick (zLet (aC S) t (cn (aC S)).toNat 0 (-1) (-1)) x else -2
theorem uI_self {σ : zSt} {k : Nat} {j v : Int} (h : σ.1 k j = v) : uI σ k j v = σ := by
  unfold uI
  have e : (fun a b => if a = k ∧ b = j then v else σ.1 a b) = σ.1 := by
    funext a b
    by_cases q : a = k ∧ b = j
    · rw [if_pos q, q.1, q.2, h]
    · rw [if_neg q]
  first | rw [e] | (show (_, _) = σ; rw [← e])
set_option maxHeartbeats 4000000 in
set_option maxRecDepth 100000 in
/-- openOf -/
theorem c_M_openOf {t x : Int} {S : zAb} {σ : zSt} {post : Option VV → zSt → Prop} (hR : RM σ S) (ho : aOk S) (t0 : 0 ≤ t) (t1 : t ≤ 23) (hx : zr x) (hp : ∀ σ', mKeep σ σ' → post (some (vZ (zPick (zOpn (aC S) t 4 0 (-1) (-1)) x))) σ') : Mc 7 MX7_openOf [vR 6 44, vZ t, vZ x] σ post := by
  have hok := aC_ok ho
  have hcn := hok.1
  obtain ⟨v, hv⟩ : ∃ v : Int, v = zPick (zOpn (aC S) t 4 0 (-1) (-1)) x := ⟨_, rfl⟩
  rw [← hv] at hp
  show V 7 MX7_openOf 0 [some (vR 6 44), some (vZ t), some (vZ x), none, none, none, none] [] σ post
  refine V_run kX7_openOf 1 [] (show V 7 MX7_openOf 1 [some (vR 6 44), some (vZ t), some (vZ x), none, none, none, none] [vR 6 44] σ post from ?_)
  refine V_callV (a := []) (rest := []) kX7_openOf rfl oX7_asTold iX7_asTold lk_7_213 rfl rfl rfl (Nat.le_of_ble_eq_true rfl) (Nat.le_of_ble_eq_true rfl) (Nat.le_of_ble_eq_true rfl) (post' := fun zv zσ => V 7 MX7_openOf 4 [some (vR 6 44), some (vZ t), some (vZ x), none, none, none, none] (zv.toList ++ []) zσ post) (c_M_asTold2 hR ho (fun σ1 hk1 hc1 hn1 hz1 => (show V 7 MX7_openOf 4 [some (vR 6 44), some (vZ t), some (vZ x), none, none, none, none] [] σ1 post from ?_))) (fun _ _ h => h)
  have loop : ∀ (m : Nat) (i a l : Int), 0 ≤ i → i + m = 4 → (-1 ≤ a ∧ a ≤ 23) → (-1 ≤ l ∧ l ≤ 24) → zPick (zOpn (aC S) t m i a l) x = v → ∀ (σ2 : zSt), mKeep σ σ2 → (∀ y : Int, 0 ≤ y → y ≤ 3 → zMc (uI σ2 44 18 y) (cOpen (aC S) t y)) → V 7 MX7_openOf 17 [some (vR 6 44), some (vZ t), some (vZ x), some (vZ a), some (vZ l), some (vZ i), none] [] σ2 post := by
    intro m
    induction m with
    | zero =>
      intro i a l i0 i1 ha hl he σ2 hk hc
      unfold zOpn at he
      refine V_run kX7_openOf 4 [1] (show (zr i ∧ zr 4 ∧ 4 ≤ i) ∧ V 7 MX7_openOf 76 [some (vR 6 44), some (vZ t), some (vZ x), some (vZ a), some (vZ l), some (vZ i), none] [vZ x] σ2 post from ⟨(by omega), ?_⟩)
      have hp := hp _ hk
      unfold zPick at he
      by_cases h2 : x = 0
      · skip
        rw [if_pos h2] at he
        rw [← he] at hp
        refine V_run kX7_openOf 3 [0] (show (zr x ∧ x = 0) ∧ V 7 MX7_openOf 85 [some (vR 6 44), some (vZ t), some (vZ x), some (vZ a), some (vZ l), some (vZ i), none] [vZ a] σ2 post from ⟨(by omega), ?_⟩)
        exact V_iret kX7_openOf rfl rfl (hp)
      · skip
        rw [if_neg h2] at he
        rw [← he] at hp
        refine V_run kX7_openOf 2 [1] (show (zr x ∧ ¬ x = 0) ∧ V 7 MX7_openOf 85 [some (vR 6 44), some (vZ t), some (vZ x), some (vZ a), some (vZ l), some (vZ i), none] [vZ l] σ2 post from ⟨(by omega), ?_⟩)
        exact V_iret kX7_openOf rfl rfl (hp)
    | succ m ih =>
      intro i a l i0 i1 ha hl he σ2 hk hc
      unfold zOpn at he
      have hc3 := hc i i0 (by omega)
      have hk3 := hk.s (j := 18) (v := i) (by decide)
      have hv3 := zMc_C hc3
      have hsb := zSvc_b (C := cOpen (aC S) t i) (cn (aC S)).toNat 0 0
      obtain ⟨n9, hn9⟩ : ∃ n : Int, n = zSvc (cOpen (aC S) t i) (cn (aC S)).toNat 0 0 := ⟨_, rfl⟩
      rw [← hn9] at he hsb
      refine V_run kX7_openOf 7 [0] (show (zr i ∧ zr 4 ∧ i < 4) ∧ V 7 MX7_openOf 30 [some (vR 6 44), some (vZ t), some (vZ x), some (vZ a), some (vZ l), some (vZ i), none] [vR 6 44] (uI σ2 44 18 i) post from ⟨(by omega), ?_⟩)
      refine V_callV (a := []) (rest := []) kX7_openOf rfl oX7_runs iX7_runs lk_7_216 rfl rfl rfl (Nat.le_of_ble_eq_true rfl) (Nat.le_of_ble_eq_true rfl) (Nat.le_of_ble_eq_true rfl) (post' := fun zv zσ => V 7 MX7_openOf 33 [some (vR 6 44), some (vZ t), some (vZ x), some (vZ a), some (vZ l), some (vZ i), none] (zv.toList ++ []) zσ post) (c_M_runs hc3 (fun σ4 hf4 hm4 hr4 => (show V 7 MX7_openOf 33 [some (vR 6 44), some (vZ t), some (vZ x), some (vZ a), some (vZ l), some (vZ i), none] [] σ4 post from ?_))) (fun _ _ h => h)
      have hc4 := zMc_nf hf4 hc3
      refine V_run kX7_openOf 1 [] (show V 7 MX7_openOf 34 [some (vR 6 44), some (vZ t), some (vZ x), some (vZ a), some (vZ l), some (vZ i), none] [vR 6 44] σ4 post from ?_)
      refine V_callV (a := []) (rest := []) kX7_openOf rfl oX7_servedNow iX7_servedNow lk_7_258 rfl rfl rfl (Nat.le_of_ble_eq_true rfl) (Nat.le_of_ble_eq_true rfl) (Nat.le_of_ble_eq_true rfl) (post' := fun zv zσ => V 7 MX7_openOf 37 [some (vR 6 44), some (vZ t), some (vZ x), some (vZ a), some (vZ l), some (vZ i), none] (zv.toList ++ []) zσ post) (c_M_servedNow hv3 hc4.1 hm4 ((show V 7 MX7_openOf 37 [some (vR 6 44), some (vZ t), some (vZ x), some (vZ a), some (vZ l), some (vZ i), none] [vZ (zSvc (cOpen (aC S) t i) (cn (cOpen (aC S) t i)).toNat 0 0)] σ4 post from ?_))) (fun _ _ h => h)
      rw [show zSvc (cOpen (aC S) t i) (cn (cOpen (aC S) t i)).toNat 0 0 = n9 from hn9.symm]
      have h17 : σ4.1 44 17 = t := by
        have q := hf4.2.2 17 (by decide)
        have q2 : σ2.1 44 17 = t := by
          have z1 := (hc 0 (by decide) (by decide)).2.2.2.1 t t0 (by omega)
          have z2 := (hc 1 (by decide) (by decide)).2.2.2.1 t t0 (by omega)
          have e1 : ∀ y : Int, (uI σ2 44 18 y).1 44 17 = σ2.1 44 17 := fun y => by rw [uI_at, if_neg (by decide)]
          rw [e1, uI_get] at z1 z2
          by_cases z : t = σ2.1 44 17
          · exact z.symm
          · rw [if_neg z] at z1 z2
            have z1 : σ2.1 50 t = fPut (cWi (aC S)) t 0 t := z1
            have z2 : σ2.1 50 t = fPut (cWi (aC S)) t 1 t := z2
            rw [fPut_at, if_pos rfl] at z1 z2
            omega
        rw [q, uI_at, if_neg (by decide)]; exact q2
      have go := fun a2 l2 ha2 hl2 h2 => ih (i + 1) a2 l2 (by omega) (by omega) ha2 hl2 h2 σ4 (hk3.tr hf4.k) (fun y y0 y1 => by
        have q := zMc_open (v := y) hc4 (Or.inl h17) (by omega) y0 y1
        rw [uI_self h17, show cOpen (cOpen (aC S) t i) t y = cOpen (aC S) t y by unfold cOpen; rw [fPut_fPut]] at q
        exact q)
      rcases Int.lt_or_le l n9 with h3 | h3
      · skip
        rw [if_pos h3] at he
        refine V_run kX7_openOf 15 [0, 0] (show (zr n9 ∧ zr l ∧ l < n9) ∧ (zr n9 ∧ zr l ∧ l < n9) ∧ V 7 MX7_openOf 17 [some (vR 6 44), some (vZ t), some (vZ x), some (vZ i), some (vZ n9), some (vZ (i + 1)), some (vZ n9)] [] σ4 post from ⟨(by omega), (by omega), ?_⟩)
        refine V_drop (L := [some (vR 6 44), some (vZ t), some (vZ x), some (vZ i), some (vZ n9), some (vZ (i + 1)), none]) ⟨rfl, ⟨rfl, ⟨rfl, ⟨rfl, ⟨rfl, ⟨rfl, trivial⟩⟩⟩⟩⟩⟩ ?_
        exact go _ _ (by omega) (by omega) he
      · skip
        rw [if_neg (by omega)] at he
        refine V_run kX7_openOf 13 [1, 1] (show (zr n9 ∧ zr l ∧ n9 ≤ l) ∧ (zr n9 ∧ zr l ∧ n9 ≤ l) ∧ V 7 MX7_openOf 17 [some (vR 6 44), some (vZ t), some (vZ x), some (vZ a), some (vZ l), some (vZ (i + 1)), some (vZ n9)] [] σ4 post from ⟨(by omega), (by omega), ?_⟩)
        refine V_drop (L := [some (vR 6 44), some (vZ t), some (vZ x), some (vZ a), some (vZ l), some (vZ (i + 1)), none]) ⟨rfl, ⟨rfl, ⟨rfl, ⟨rfl, ⟨rfl, ⟨rfl, trivial⟩⟩⟩⟩⟩⟩ ?_
        exact go _ _ (by omega) (by omega) he
  refine V_run kX7_openOf 9 [] (show V 7 MX7_openOf 17 [some (vR 6 44), some (vZ t), some (vZ x), some (vZ (-1)), some (vZ (-1)), some (vZ 0), none] [] (uI σ1 44 17 t) post from ?_)
  exact loop 4 0 (-1) (-1) (by omega) (by omega) (by omega) (by omega) hv.symm _ (hk1.s (by decide)) (fun y y0 y1 => zMc_open hc1 (Or.inr hz1.2) (by omega) y0 y1)
set_option maxHeartbeats 4000000 in
set_option maxRecDepth 100000 in
/-- open -/
theorem c_M_open {t x : Int} {S : zAb} {σ : zSt} {post : Option VV → zSt → Prop} (hR : RM σ S) (ho : aOk S) (hq : zr t) (hx : zr x) (hp : ∀ σ', mKeep σ σ' → post (some (vZ (aOpen S t x))) σ') : Mc 8 MX7_open [vR 6 44, vZ t, vZ x] σ post := by
  show V 8 MX7_open 0 [some (vR 6 44), some (vZ t), some (vZ x)] [] σ post
  refine V_run kX7_open 1 [] (show V 8 MX7_open 1 [some (vR 6 44), some (vZ t), some (vZ x)] [vZ t] σ post from ?_)
  refine V_callS (a := [vZ t]) (rest := []) kX7_open rfl oX7_isMinute iX7_isMinute lk_7_116 rfl rfl (Nat.le_of_ble_eq_true rfl) (Nat.le_of_ble_eq_true rfl) (Nat.le_of_ble_eq_true rfl) (post' := fun zv zσ => V 8 MX7_open 4 [some (vR 6 44), some (vZ t), some (vZ x)] (zv.toList ++ []) zσ post) (c_M_isMinute (by omega) ((show V 8 MX7_open 4 [some (vR 6 44), some (vZ t), some (vZ x)] [vZ (if 0 ≤ t ∧ t ≤ 23 then 1 else 0)] σ post from ?_))) (fun _ _ h => h)
  by_cases h1 : 0 ≤ t ∧ t ≤ 23
  rotate_left
  · skip
    refine V_top (if_neg h1) ?_
    refine V_run kX7_open 2 [1] (show (zr 0 ∧ 0 = 0) ∧ V 8 MX7_open 25 [some (vR 6 44), some (vZ t), some (vZ x)] [vZ (-2)] σ post from ⟨(by omega), ?_⟩)
    have e9 : aOpen S t x = -2 := if_neg (by omega)
    rw [e9] at hp
    exact V_iret kX7_open rfl rfl (hp _ mKeep.rf)
  refine V_top (if_pos h1) ?_
  refine V_run kX7_open 2 [0] (show (zr 1 ∧ ¬ 1 = 0) ∧ V 8 MX7_open 8 [some (vR 6 44), some (vZ t), some (vZ x)] [vZ x] σ post from ⟨(by omega), ?_⟩)
  refine V_callS (a := [vZ x]) (rest := []) kX7_open rfl oX7_isTwo iX7_isTwo lk_7_246 rfl rfl (Nat.le_of_ble_eq_true rfl) (Nat.le_of_ble_eq_true rfl) (Nat.le_of_ble_eq_true rfl) (post' := fun zv zσ => V 8 MX7_open 11 [some (vR 6 44), some (vZ t), some (vZ x)] (zv.toList ++ []) zσ post) (c_M_isTwo (by omega) ((show V 8 MX7_open 11 [some (vR 6 44), some (vZ t), some (vZ x)] [vZ (if 0 ≤ x ∧ x ≤ 1 then 1 else 0)] σ post from ?_))) (fun _ _ h => h)
  by_cases h2 : 0 ≤ x ∧ x ≤ 1
  rotate_left
  · skip
    refine V_top (if_neg h2) ?_
    refine V_run kX7_open 2 [1] (show (zr 0 ∧ 0 = 0) ∧ V 8 MX7_open 25 [some (vR 6 44), some (vZ t), some (vZ x)] [vZ (-2)] σ post from ⟨(by omega), ?_⟩)
    have e9 : aOpen S t x = -2 := if_neg (by omega)
    rw [e9] at hp
    exact V_iret kX7_open rfl rfl (hp _ mKeep.rf)
  refine V_top (if_pos h2) ?_
  refine V_run kX7_open 4 [0] (show (zr 1 ∧ ¬ 1 = 0) ∧ V 8 MX7_open 17 [some (vR 6 44), some (vZ t), some (vZ x)] [vZ x, vZ t, vR 6 44] σ post from ⟨(by omega), ?_⟩)
  refine V_callV (a := [vZ t, vZ x]) (rest := []) kX7_open rfl oX7_openOf iX7_openOf lk_7_261 rfl rfl rfl (Nat.le_of_ble_eq_true rfl) (Nat.le_of_ble_eq_true rfl) (Nat.le_of_ble_eq_true rfl) (post' := fun zv zσ => V 8 MX7_open 20 [some (vR 6 44), some (vZ t), some (vZ x)] (zv.toList ++ []) zσ post) (c_M_openOf hR ho h1.1 h1.2 (by omega) (fun σ9 hk9 => (show V 8 MX7_open 20 [some (vR 6 44), some (vZ t), some (vZ x)] [vZ (zPick (zOpn (aC S) t 4 0 (-1) (-1)) x)] σ9 post from ?_))) (fun _ _ h => h)
  have e9 : aOpen S t x = zPick (zOpn (aC S) t 4 0 (-1) (-1)) x := if_pos ⟨h1, h2⟩
  rw [e9] at hp
  refine V_run kX7_open 1 [] (show V 8 MX7_open 25 [some (vR 6 44), some (vZ t), some (vZ x)] [vZ (zPick (zOpn (aC S) t 4 0 (-1) (-1)) x)] σ9 post from ?_)
  exact V_iret kX7_open rfl rfl (hp _ (hk9))
set_option maxHeartbeats 4000000 in
set_option maxRecDepth 100000 in
/-- letOf -/
theorem c_M_letOf {t x : Int} {S : zAb} {σ : zSt} {post : Option VV → zSt → Prop} (hR : RM σ S) (ho : aOk S) (t0 : 0 ≤ t) (t1 : t ≤ 23) (hx : zr x) (hp : ∀ σ', mKeep σ σ' → post (some (vZ (zPick (zLet (aC S) t (cn (aC S)).toNat 0 (-1) (-1)) x))) σ') : Mc 7 MX7_letOf [vR 6 44, vZ t, vZ x] σ post := by
  have hok := aC_ok ho
  have hcn := hok.1
  have hen := ho.2.2.1
  have hE : cE (aC S) = a_eN S := rfl
  obtain ⟨v, hv⟩ : ∃ v : Int, v = zPick (zLet (aC S) t (cn (aC S)).toNat 0 (-1) (-1)) x := ⟨_, rfl⟩
  rw [← hv] at hp
  show V 7 MX7_letOf 0 [some (vR 6 44), some (vZ t), some (vZ x), none, none, none, none] [] σ post
  refine V_run kX7_letOf 1 [] (show V 7 MX7_letOf 1 [some (vR 6 44), some (vZ t), some (vZ x), none, none, none, none] [vR 6 44] σ post from ?_)
  refine V_callV (a := []) (rest := []) kX7_letOf rfl oX7_asTold iX7_asTold lk_7_213 rfl rfl rfl (Nat.le_of_ble_eq_true rfl) (Nat.le_of_ble_eq_true rfl) (Nat.le_of_ble_eq_true rfl) (post' := fun zv zσ => V 7 MX7_letOf 4 [some (vR 6 44), some (vZ t), some (vZ x), none, none, none, none] (zv.toList ++ []) zσ post) (c_M_asTold2 hR ho (fun σ1 hk1 hc1 hn1 hz1 => (show V 7 MX7_letOf 4 [some (vR 6 44), some (vZ t), some (vZ x), none, none, none, none] [] σ1 post from ?_))) (fun _ _ h => h)
  have e8 : σ1.1 44 8 = a_eN S := (RM_k hk1 hR).2.2.1.1
  have loop : ∀ (m : Nat) (i a l : Int), 0 ≤ i → i + m = cn (aC S) → (-1 ≤ a ∧ a ≤ 23) → (-1 ≤ l ∧ l ≤ 24) → zPick (zLet (aC S) t m i a l) x = v → ∀ (σ2 : zSt), mKeep σ σ2 → σ2.1 44 2 = cn (aC S) → (∀ y : Int, 0 ≤ y → y < cn (aC S) → zMc (uI σ2 56 (cE (aC S)) y) (cLet (aC S) t y)) → V 7 MX7_letOf 42 [some (vR 6 44), some (vZ t), some (vZ x), some (vZ a), some (vZ l), some (vZ i), none] [] σ2 post := by
    intro m
    induction m with
    | zero =>
      intro i a l i0 i1 ha hl he σ2 hk h2 hc
      unfold zLet at he
      refine V_run kX7_letOf 3 [] (show V 7 MX7_letOf 48 [some (vR 6 44), some (vZ t), some (vZ x), some (vZ a), some (vZ l), some (vZ i), none] [vZ (σ2.1 44 2), vZ i] σ2 post from ?_)
      refine V_top (h2) ?_
      refine V_run kX7_letOf 2 [1] (show (zr i ∧ zr (cn (aC S)) ∧ (cn (aC S)) ≤ i) ∧ V 7 MX7_letOf 109 [some (vR 6 44), some (vZ t), some (vZ x), some (vZ a), some (vZ l), some (vZ i), none] [vZ x] σ2 post from ⟨(by omega), ?_⟩)
      have hp := hp _ hk
      unfold zPick at he
      by_cases h2 : x = 0
      · skip
        rw [if_pos h2] at he
        rw [← he] at hp
        refine V_run kX7_letOf 3 [0] (show (zr x ∧ x = 0) ∧ V 7 MX7_letOf 118 [some (vR 6 44), some (vZ t), some (vZ x), some (vZ a), some (vZ l), some (vZ i), none] [vZ a] σ2 post from ⟨(by omega), ?_⟩)
        exact V_iret kX7_letOf rfl rfl (hp)
      · skip
        rw [if_neg h2] at he
        rw [← he] at hp
        refine V_run kX7_letOf 2 [1] (show (zr x ∧ ¬ x = 0) ∧ V 7 MX7_letOf 118 [some (vR 6 44), some (vZ t), some (vZ x), some (vZ a), some (vZ l), some (vZ i), none] [vZ l] σ2 post from ⟨(by omega), ?_⟩)
        exact V_iret kX7_letOf rfl rfl (hp)
    | succ m ih =>
      intro i a l i0 i1 ha hl he σ2 hk h2 hc
      unfold zLet at he
      have hc3 := hc i i0 (by omega)
      have hk3 := hk.u (k := 56) (j := cE (aC S)) (v := i) (by decide)
      have hv3 := zMc_C hc3
      have e9 : σ2.1 44 8 = cE (aC S) := (RM_k hk hR).2.2.1.1
      have hsb := zSvc_b (C := cLet (aC S) t i) (cn (aC S)).toNat 0 0
      obtain ⟨n9, hn9⟩ : ∃ n : Int, n = zSvc (cLet (aC S) t i) (cn (aC S)).toNat 0 0 := ⟨_, rfl⟩
      rw [← hn9] at he hsb
      refine V_run kX7_letOf 3 [] (show V 7 MX7_letOf 48 [some (vR 6 44), some (vZ t), some (vZ x), some (vZ a), some (vZ l), some (vZ i), none] [vZ (σ2.1 44 2), vZ i] σ2 post from ?_)
      refine V_top (h2) ?_
      refine V_run kX7_letOf 5 [0] (show (zr i ∧ zr (cn (aC S)) ∧ i < (cn (aC S))) ∧ V 7 MX7_letOf 59 [some (vR 6 44), some (vZ t), some (vZ x), some (vZ a), some (vZ l), some (vZ i), none] [vZ (σ2.1 44 8), vR 8 56] σ2 post from ⟨(by omega), ?_⟩)
      refine V_top (e9) ?_
      refine V_run kX7_letOf 3 [] (show (0 ≤ (cE (aC S)) ∧ (cE (aC S)) < 9) ∧ V 7 MX7_letOf 63 [some (vR 6 44), some (vZ t), some (vZ x), some (vZ a), some (vZ l), some (vZ i), none] [vR 6 44] (uI σ2 56 (cE (aC S)) i) post from ⟨(by omega), ?_⟩)
      refine V_callV (a := []) (rest := []) kX7_letOf rfl oX7_runs iX7_runs lk_7_216 rfl rfl rfl (Nat.le_of_ble_eq_true rfl) (Nat.le_of_ble_eq_true rfl) (Nat.le_of_ble_eq_true rfl) (post' := fun zv zσ => V 7 MX7_letOf 66 [some (vR 6 44), some (vZ t), some (vZ x), some (vZ a), some (vZ l), some (vZ i), none] (zv.toList ++ []) zσ post) (c_M_runs hc3 (fun σ4 hf4 hm4 hr4 => (show V 7 MX7_letOf 66 [some (vR 6 44), some (vZ t), some (vZ x), some (vZ a), some (vZ l), some (vZ i), none] [] σ4 post from ?_))) (fun _ _ h => h)
      have hc4 := zMc_nf hf4 hc3
      refine V_run kX7_letOf 1 [] (show V 7 MX7_letOf 67 [some (vR 6 44), some (vZ t), some (vZ x), some (vZ a), some (vZ l), some (vZ i), none] [vR 6 44] σ4 post from ?_)
      refine V_callV (a := []) (rest := []) kX7_letOf rfl oX7_servedNow iX7_servedNow lk_7_258 rfl rfl rfl (Nat.le_of_ble_eq_true rfl) (Nat.le_of_ble_eq_true rfl) (Nat.le_of_ble_eq_true rfl) (post' := fun zv zσ => V 7 MX7_letOf 70 [some (vR 6 44), some (vZ t), some (vZ x), some (vZ a), some (vZ l), some (vZ i), none] (zv.toList ++ []) zσ post) (c_M_servedNow hv3 hc4.1 hm4 ((show V 7 MX7_letOf 70 [some (vR 6 44), some (vZ t), some (vZ x), some (vZ a), some (vZ l), some (vZ i), none] [vZ (zSvc (cLet (aC S) t i) (cn (cLet (aC S) t i)).toNat 0 0)] σ4 post from ?_))) (fun _ _ h => h)
      rw [show zSvc (cLet (aC S) t i) (cn (cLet (aC S) t i)).toNat 0 0 = n9 from hn9.symm]
      have go := fun a2 l2 ha2 hl2 h2 => ih (i + 1) a2 l2 (by omega) (by omega) ha2 hl2 h2 σ4 (hk3.tr hf4.k) hc4.1 (fun y y0 y1 => zMc_let2 hc4 y0 y1)
      rcases Int.lt_or_le l n9 with h3 | h3
      · skip
        rw [if_pos h3] at he
        refine V_run kX7_letOf 15 [0, 0] (show (zr n9 ∧ zr l ∧ l < n9) ∧ (zr n9 ∧ zr l ∧ l < n9) ∧ V 7 MX7_letOf 42 [some (vR 6 44), some (vZ t), some (vZ x), some (vZ i), some (vZ n9), some (vZ (i + 1)), some (vZ n9)] [] σ4 post from ⟨(by omega), (by omega), ?_⟩)
        refine V_drop (L := [some (vR 6 44), some (vZ t), some (vZ x), some (vZ i), some (vZ n9), some (vZ (i + 1)), none]) ⟨rfl, ⟨rfl, ⟨rfl, ⟨rfl, ⟨rfl, ⟨rfl, trivial⟩⟩⟩⟩⟩⟩ ?_
        exact go _ _ (by omega) (by omega) he
      · skip
        rw [if_neg (by omega)] at he
        refine V_run kX7_letOf 13 [1, 1] (show (zr n9 ∧ zr l ∧ n9 ≤ l) ∧ (zr n9 ∧ zr l ∧ n9 ≤ l) ∧ V 7 MX7_letOf 42 [some (vR 6 44), some (vZ t), some (vZ x), some (vZ a), some (vZ l), some (vZ (i + 1)), some (vZ n9)] [] σ4 post from ⟨(by omega), (by omega), ?_⟩)
        refine V_drop (L := [some (vR 6 44), some (vZ t), some (vZ x), some (vZ a), some (vZ l), some (vZ (i + 1)), none]) ⟨rfl, ⟨rfl, ⟨rfl, ⟨rfl, ⟨rfl, ⟨rfl, trivial⟩⟩⟩⟩⟩⟩ ?_
        exact go _ _ (by omega) (by omega) he
  refine V_run kX7_letOf 7 [] (show V 7 MX7_letOf 14 [some (vR 6 44), some (vZ t), some (vZ x), some (vZ (-1)), some (vZ (-1)), none, none] [vZ (σ1.1 44 8), vR 6 44] σ1 post from ?_)
  refine V_top (e8) ?_
  refine V_run kX7_letOf 7 [] (show V 7 MX7_letOf 27 [some (vR 6 44), some (vZ t), some (vZ x), some (vZ (-1)), some (vZ (-1)), none, none] [vZ ((uI σ1 44 12 ((a_eN S) + 1)).1 44 8), vR 8 54] (uI σ1 44 12 ((a_eN S) + 1)) post from ?_)
  refine V_top (show (uI σ1 44 12 ((a_eN S) + 1)).1 44 8 = a_eN S by rw [uI_at, if_neg (by decide)]; exact e8) ?_
  refine V_run kX7_letOf 6 [] (show (0 ≤ (a_eN S) ∧ (a_eN S) < 9) ∧ V 7 MX7_letOf 37 [some (vR 6 44), some (vZ t), some (vZ x), some (vZ (-1)), some (vZ (-1)), none, none] [vZ ((uI (uI σ1 44 12 ((a_eN S) + 1)) 54 (a_eN S) 1).1 44 8), vR 8 55] (uI (uI σ1 44 12 ((a_eN S) + 1)) 54 (a_eN S) 1) post from ⟨(by omega), ?_⟩)
  refine V_top (show (uI (uI σ1 44 12 ((a_eN S) + 1)) 54 (a_eN S) 1).1 44 8 = a_eN S by rw [uI_ne (by decide), uI_at, if_neg (by decide)]; exact e8) ?_
  refine V_run kX7_letOf 4 [] (show (0 ≤ (a_eN S) ∧ (a_eN S) < 9) ∧ V 7 MX7_letOf 42 [some (vR 6 44), some (vZ t), some (vZ x), some (vZ (-1)), some (vZ (-1)), some (vZ 0), none] [] (uI (uI (uI σ1 44 12 ((a_eN S) + 1)) 54 (a_eN S) 1) 55 (a_eN S) t) post from ⟨(by omega), ?_⟩)
  exact loop (cn (aC S)).toNat 0 (-1) (-1) (by omega) (by omega) (by omega) (by omega) hv.symm _ (((hk1.s (by decide)).u (by decide)).u (by decide)) (by rw [uI_ne (by decide), uI_ne (by decide), uI_at, if_neg (by decide)]; exact hc1.1) (fun y y0 y1 => zMc_let hc1 hen.2.1 hz1.1 (fun _ => rfl) t0 (by omega) y0 y1 hc1.2.1)
set_option maxHeartbeats 4000000 in
set_option maxRecDepth 100000 in
/-- let -/
theorem c_M_let {t x : Int} {S : zAb} {σ : zSt} {post : Option VV → zSt → Prop} (hR : RM σ S) (ho : aOk S) (hq : zr t) (hx : zr x) (hp : ∀ σ', mKeep σ σ' → post (some (vZ (aLet S t x))) σ') : Mc 8 MX7_let [vR 6 44, vZ t, vZ x] σ post := by
  show V 8 MX7_let 0 [some (vR 6 44), some (vZ t), some (vZ x)] [] σ post
  refine V_run kX7_let 1 [] (show V 8 MX7_let 1 [some (vR 6 44), some (vZ t), some (vZ x)] [vZ t] σ post from ?_)
  refine V_callS (a := [vZ t]) (rest := []) kX7_let rfl oX7_isMinute iX7_isMinute lk_7_116 rfl rfl (Nat.le_of_ble_eq_true rfl) (Nat.le_of_ble_eq_true rfl) (Nat.le_of_ble_eq_true rfl) (post' := fun zv zσ => V 8 MX7_let 4 [some (vR 6 44), some (vZ t), some (vZ x)] (zv.toList ++ []) zσ post) (c_M_isMinute (by omega) ((show V 8 MX7_let 4 [some (vR 6 44), some (vZ t), some (vZ x)] [vZ (if 0 ≤ t ∧ t ≤ 23 then 1 else 0)] σ post from ?_))) (fun _ _ h => h)
  by_cases h1 : 0 ≤ t ∧ t ≤ 23
  rotate_left
  · skip
    refine V_top (if_neg h1) ?_
    refine V_run kX7_let 2 [1] (show (zr 0 ∧ 0 = 0) ∧ V 8 MX7_let 25 [some (vR 6 44), some (vZ t), some (vZ x)] [vZ (-2)] σ post from ⟨(by omega), ?_⟩)
    have e9 : aLet S t x = -2 := if_neg (by omega)
    rw [e9] at hp
    exact V_iret kX7_let rfl rfl (hp _ mKeep.rf)
  refine V_top (if_pos h1) ?_
  refine V_run kX7_let 2 [0] (show (zr 1 ∧ ¬ 1 = 0) ∧ V 8 MX7_let 8 [some (vR 6 44), some (vZ t), some (vZ x)] [vZ x] σ post from ⟨(by omega), ?_⟩)
  refine V_callS (a := [vZ x]) (rest := []) kX7_let rfl oX7_isTwo iX7_isTwo lk_7_246 rfl rfl (Nat.le_of_ble_eq_true rfl) (Nat.le_of_ble_eq_true rfl) (Nat.le_of_ble_eq_true rfl) (post' := fun zv zσ => V 8 MX7_let 11 [some (vR 6 44), some (vZ t), some (vZ x)] (zv.toList ++ []) zσ post) (c_M_isTwo (by omega) ((show V 8 MX7_let 11 [some (vR 6 44), some (vZ t), some (vZ x)] [vZ (if 0 ≤ x ∧ x ≤ 1 then 1 else 0)] σ post from ?_))) (fun _ _ h => h)
  by_cases h2 : 0 ≤ x ∧ x ≤ 1
  rotate_left
  · skip
    refine V_top (if_neg h2) ?_
    refine V_run kX7_let 2 [1] (show (zr 0 ∧ 0 = 0) ∧ V 8 MX7_let 25 [some (vR 6 44), some (vZ t), some (vZ x)] [vZ (-2)] σ post from ⟨(by omega), ?_⟩)
    have e9 : aLet S t x = -2 := if_neg (by omega)
    rw [e9] at hp
    exact V_iret kX7_let rfl rfl (hp _ mKeep.rf)
  refine V_top (if_pos h2) ?_
  refine V_run kX7_let 4 [0] (show (zr 1 ∧ ¬ 1 = 0) ∧ V 8 MX7_let 17 [some (vR 6 44), some (vZ t), some (vZ x)] [vZ x, vZ t, vR 6 44] σ post from ⟨(by omega), ?_⟩)
  refine V_callV (a := [vZ t, vZ x]) (rest := []) kX7_let rfl oX7_letOf iX7_letOf lk_7_264 rfl rfl rfl (Nat.le_of_ble_eq_true rfl) (Nat.le_of_ble_eq_true rfl) (Nat.le_of_ble_eq_true rfl) (post' := fun zv zσ => V 8 MX7_let 20 [some (vR 6 44), some (vZ t), some (vZ x)] (zv.toList ++ []) zσ post) (c_M_letOf hR ho h1.1 h1.2 (by omega) (fun σ9 hk9 => (show V 8 MX7_let 20 [some (vR 6 44), some (vZ t), some (vZ x)] [vZ (zPick (zLet (aC S) t (cn (aC S)).toNat 0 (-1) (-1)) x)] σ9 post from ?_))) (fun _ _ h => h)
  have e9 : aLet S t x = zPick (zLet (aC S) t (cn (aC S)).toNat 0 (-1) (-1)) x := if_pos ⟨h1, h2⟩
  rw [e9] at hp
  refine V_run kX7_let 1 [] (show V 8 MX7_let 25 [some (vR 6 44), some (vZ t), some (vZ x)] [vZ (zPick (zLet (aC S) t (cn (aC S)).toNat 0 (-1) (-1)) x)] σ9 post from ?_)
  exact V_iret kX7_let rfl rfl (hp _ (hk9))
