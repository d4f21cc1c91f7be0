theorem zand_zr (a b : Int) : zr (zand a b) := zbt_test_rng a b
theorem sCom_ne {σ : zSt} {b a : Nat} {p m : Int} (h1 : a ≠ b + 1) (h7 : a ≠ b + 7) : (sCom σ b p m).1 a = σ.1 a := by
  unfold sCom; rw [uI_ne h7, uI_ne h1, uI_ne h7]
theorem sCom_1 {σ : zSt} {b : Nat} {p m : Int} : (sCom σ b p m).1 (b + 1) = fPut (σ.1 (b + 1)) p m := by
  unfold sCom; rw [uI_ne (by omega)]; funext j; rw [uI_at, uI_ne (by omega)]; rfl
theorem sCom_7 {σ : zSt} {b : Nat} {p m t k : Int} (p0 : 0 ≤ p) (p1 : p < 12) (k0 : 0 ≤ k) (k1 : k < 12) :
    zbt ((sCom σ b p m).1 (b + 7) t) k = if k = p then (decide (t = m) || (!decide (t = σ.1 (b + 1) p) && zbt (σ.1 (b + 7) t) k)) else zbt (σ.1 (b + 7) t) k := by
  have hin : ∀ t : Int, zbt ((uI (uI σ (b + 7) (σ.1 (b + 1) p) (zand (σ.1 (b + 7) (σ.1 (b + 1) p)) (zxor (zshl 1 p) (-1)))) (b + 1) p m).1 (b + 7) t) k = if k = p then (!decide (t = σ.1 (b + 1) p) && zbt (σ.1 (b + 7) t) k) else zbt (σ.1 (b + 7) t) k := fun t => by
    rw [uI_ne (by omega), uI_at]
    by_cases h : t = σ.1 (b + 1) p
    · rw [if_pos h, zbt_and, zbt_not (by omega) k0, zbt_shl p0 (by omega) k0 (by omega), decide_eq_true h, h]
      by_cases q : k = p
      · rw [if_pos q, decide_eq_true q]; simp
      · rw [if_neg q, decide_eq_false q]; simp
    · rw [if_neg h, decide_eq_false h]
      by_cases q : k = p
      · rw [if_pos q]; simp
      · rw [if_neg q]
  unfold sCom
  rw [uI_at]
  by_cases h : t = m
  · rw [if_pos h, zbt_or, hin, zbt_shl p0 (by omega) k0 (by omega), decide_eq_true h, h]
    by_cases q : k = p
    · rw [if_pos q, if_pos q, decide_eq_true q]; simp
    · rw [if_neg q, if_neg q, decide_eq_false q]; simp
  · rw [if_neg h, hin, decide_eq_false h]
    by_cases q : k = p
    · rw [if_pos q, if_pos q]; simp
    · rw [if_neg q, if_neg q]
theorem sCom_7r {σ : zSt} {b : Nat} {p m t : Int} (h : ∀ t : Int, 0 ≤ t → t < 24 → zr (σ.1 (b + 7) t)) (t0 : 0 ≤ t) (t1 : t < 24) : zr ((sCom σ b p m).1 (b + 7) t) := by
  unfold sCom
  rw [uI_at]
  split
  · exact zor_zr _ _
  · rw [uI_ne (by omega), uI_at]
    split
    · exact zand_zr _ _
    · exact h t t0 t1
theorem sCom_2 {σ : zSt} {b : Nat} {p m : Int} : (sCom σ b p m).2 = σ.2 := rfl
/-- a plan, every coming minute in range -/
def zPx (σ : zSt) (b : Nat) (C : zCf) : Prop := zPl σ b C ∧ ∀ k : Int, 0 ≤ k → k < 12 → 0 ≤ σ.1 (b + 1) k ∧ σ.1 (b + 1) k ≤ 23
theorem zPx_cong {σ σ' : zSt} {b : Nat} {C : zCf} (h1 : ∀ k : Nat, b ≤ k → k ≤ b + 8 → σ'.1 k = σ.1 k) (h2 : σ'.2 b = σ.2 b) (h : zPx σ b C) : zPx σ' b C := ⟨zPl_cong h1 h2 h.1, by rw [h1 (b + 1) (by omega) (by omega)]; exact h.2⟩
theorem zPl_ext {σ : zSt} {b : Nat} {C C' : zCf} (h : zPl σ b C) (en : cn C' = cn C) (eE : cE C' = cE C) (h1 : ∀ k : Int, 0 ≤ k → k < cn C → cCm C' k = cCm C k ∧ cSo C' k = cSo C k ∧ cPa C' k = cPa C k) (h2 : ∀ t : Int, 0 ≤ t → t < 24 → cWi C' t = cWi C t) (h3 : ∀ e : Int, 0 ≤ e → e < cE C → cKi C' e = cKi C e ∧ cMi C' e = cMi C e ∧ cPe C' e = cPe C e) : zPl σ b C' := by
  obtain ⟨p1, p2, p3, ⟨w, w1, w2, w3⟩, p5, p6, p7, p8, q1, q2, q3, q4, q5⟩ := h
  refine ⟨p1.trans en.symm, p2.trans eE.symm, fun k a c => ?_, ⟨w, w1, w2, fun k a c => ?_⟩, fun t a c => ?_, fun e a c => ?_, fun t a c => ⟨(p7 t a c).1, fun k k0 k1 => ?_⟩, fun t a c => ⟨(p8 t a c).1, fun e e0 e1 => ?_⟩, by rw [en]; exact q1, by rw [eE]; exact q2, fun k a c => ?_, fun t a c => ?_, fun e a c => ?_⟩
  · rw [en] at c; have z := h1 k a c; rw [z.1, z.2.1]; exact p3 k a c
  · rw [w3 k a c, en]
    by_cases z : k < cn C
    · rw [if_pos z, if_pos z, (h1 k a z).2.2]
    · rw [if_neg z, if_neg z]
  · rw [h2 t a c]; exact p5 t a c
  · rw [eE] at c; have z := h3 e a c; rw [z.1, z.2.1, z.2.2]; exact p6 e a c
  · rw [(p7 t a c).2 k k0 k1, en]
    by_cases z : k < cn C
    · rw [(h1 k k0 z).1]
    · rw [decide_eq_false (fun y => z y.1), decide_eq_false (fun y => z y.1)]
  · rw [(p8 t a c).2 e e0 e1, eE]
    by_cases z : e < cE C
    · rw [(h3 e e0 z).2.1]
    · rw [decide_eq_false (fun y => z y.1), decide_eq_false (fun y => z y.1)]
  · rw [en] at c; have z := h1 k a c; rw [z.1, z.2.1, z.2.2]; exact q3 k a c
  · rw [h2 t a c]; exact q4 t a c
  · rw [eE] at c; have z := h3 e a c; rw [z.1, z.2.1, z.2.2]; exact q5 e a c
theorem zPx_come {σ : zSt} {b : Nat} {C : zCf} {k t : Int} (h : zPx σ b C) (k0 : 0 ≤ k) (k1 : k < cn C) (t0 : 0 ≤ t) (t1 : t < 24) : zPx (sCom σ b k t) b (cCome C k t) := by
  obtain ⟨⟨p1, p2, p3, p4, p5, p6, p7, p8, q⟩, hx⟩ := h
  have hcn := q.1
  refine ⟨⟨?_, ?_, fun j a c => ?_, p4, fun u a c => ?_, fun e a c => ?_, fun u a c => ⟨sCom_7r (fun t a c => (p7 t a c).1) a c, fun j j0 j1 => ?_⟩, fun u a c => ?_, cCome_v q t0 t1⟩, fun j a c => ?_⟩
  · rw [sCom_ne (by omega) (by omega)]; exact p1
  · rw [sCom_ne (by omega) (by omega)]; exact p2
  · rw [sCom_1, sCom_ne (by omega) (by omega)]
    refine ⟨?_, (p3 j a c).2⟩
    show fPut (σ.1 (b + 1)) k t j = fPut (cCm C) k t j
    rw [fPut_at, fPut_at, (p3 j a c).1]
  · rw [sCom_ne (by omega) (by omega)]; exact p5 u a c
  · rw [sCom_ne (by omega) (by omega), sCom_ne (by omega) (by omega), sCom_ne (by omega) (by omega)]; exact p6 e a c
  · rw [sCom_7 k0 (by omega) j0 j1, (p7 u a c).2 j j0 j1, (p3 k k0 k1).1]
    show _ = decide (j < cn C ∧ fPut (cCm C) k t j = u)
    rw [fPut_at]
    by_cases z : j = k
    · rw [if_pos z, if_pos z, z]
      by_cases z2 : u = t
      · rw [decide_eq_true z2, decide_eq_true (show k < cn C ∧ t = u from ⟨k1, z2.symm⟩)]; rfl
      · rw [decide_eq_false z2, decide_eq_false (show ¬ (k < cn C ∧ t = u) from fun y => z2 y.2.symm)]
        by_cases z3 : u = cCm C k
        · rw [decide_eq_true z3]; rfl
        · rw [decide_eq_false z3, decide_eq_false (show ¬ (k < cn C ∧ cCm C k = u) from fun y => z3 y.2.symm)]; rfl
    · rw [if_neg z, if_neg z]
  · rw [sCom_ne (by omega) (by omega)]; exact p8 u a c
  · rw [sCom_1, fPut_at]
    split
    · omega
    · exact hx j a c
theorem zPx_sort {σ : zSt} {b : Nat} {C : zCf} {k v : Int} (h : zPx σ b C) (t0 : 0 ≤ v) (t1 : v ≤ 2) : zPx (uI σ (b + 2) k v) b (cSort C k v) := by
  obtain ⟨⟨p1, p2, p3, p4, p5, p6, p7, p8, q⟩, hx⟩ := h
  refine ⟨⟨by rw [uI_ne (by omega)]; exact p1, by rw [uI_ne (by omega)]; exact p2, fun j a c => ?_, p4, fun u a c => by rw [uI_ne (by omega)]; exact p5 u a c, fun e a c => by rw [uI_ne (by omega), uI_ne (by omega), uI_ne (by omega)]; exact p6 e a c, fun u a c => by rw [uI_ne (by omega)]; exact p7 u a c, fun u a c => by rw [uI_ne (by omega)]; exact p8 u a c, cSort_v q t0 t1⟩, fun j a c => by rw [uI_ne (by omega)]; exact hx j a c⟩
  rw [uI_ne (by omega), uI_at]
  refine ⟨(p3 j a c).1, ?_⟩
  show _ = fPut (cSo C) k v j
  rw [fPut_at, (p3 j a c).2]
theorem zPx_open {σ : zSt} {b : Nat} {C : zCf} {t v : Int} (h : zPx σ b C) (t0 : 0 ≤ v) (t1 : v ≤ 3) : zPx (uI σ (b + 3) t v) b (cOpen C t v) := by
  obtain ⟨⟨p1, p2, p3, p4, p5, p6, p7, p8, q⟩, hx⟩ := h
  refine ⟨⟨by rw [uI_ne (by omega)]; exact p1, by rw [uI_ne (by omega)]; exact p2, fun j a c => by rw [uI_ne (by omega), uI_ne (by omega)]; exact p3 j a c, p4, fun u a c => ?_, fun e a c => by rw [uI_ne (by omega), uI_ne (by omega), uI_ne (by omega)]; exact p6 e a c, fun u a c => by rw [uI_ne (by omega)]; exact p7 u a c, fun u a c => by rw [uI_ne (by omega)]; exact p8 u a c, cOpen_v q t0 t1⟩, fun j a c => by rw [uI_ne (by omega)]; exact hx j a c⟩
  rw [uI_at]
  show _ = fPut (cWi C) t v u
  rw [fPut_at, p5 u a c]
theorem zPx_parc {σ : zSt} {b : Nat} {C : zCf} {k v : Int} {r : Nat} (h : zPx σ b C) (hr : r < 16 ^ 12) (hw : σ.2 b 3 = lN r) (hd : ∀ k : Int, 0 ≤ k → k < 12 → dgt r k = if k < cn C then cPa C k else 0) (k0 : 0 ≤ k) (k1 : k < cn C) (t0 : 1 ≤ v) (t1 : v ≤ 9) : zPx (uL σ b 3 (lN (rRep r k v))) b (cParc C k v) := by
  obtain ⟨⟨p1, p2, p3, p4, p5, p6, p7, p8, q⟩, hx⟩ := h
  have hcn := q.1
  refine ⟨⟨p1, p2, p3, ⟨rRep r k v, rRep_lt hr k0 (by omega) (by omega) (by omega), uL_get, fun j a c => ?_⟩, p5, p6, p7, p8, cParc_v q t0 t1⟩, hx⟩
  rw [dgt_rRep k0 (by omega) (by omega) a, hd j a c]
  show _ = if j < cn C then fPut (cPa C) k v j else 0
  rw [fPut_at]
  by_cases z : j = k
  · rw [if_pos z, if_pos z, if_pos (by omega)]
  · rw [if_neg z, if_neg z]
/-- one event more -/
def cAdd (C : zCf) (v t p : Int) : zCf := (cn C, cE C + 1, cCm C, cSo C, cPa C, cWi C, fPut (cKi C) (cE C) v, fPut (cMi C) (cE C) t, fPut (cPe C) (cE C) p, cOn C)
theorem cAdd_v {C : zCf} {v t p : Int} (h : zCv C) (he : cE C ≤ 8) (v0 : 0 ≤ v) (v1 : v ≤ 2) (t0 : 0 ≤ t) (t1 : t < 24) (k0 : 0 ≤ p) (k1 : p < 12) : zCv (cAdd C v t p) := by
  obtain ⟨h1, h2, h3, h4, h5⟩ := h
  refine ⟨h1, ⟨by show 0 ≤ cE C + 1; omega, by show cE C + 1 ≤ 9; omega⟩, h3, h4, fun e a b => ?_⟩
  have b : e < cE C + 1 := b
  show (0 ≤ fPut (cKi C) (cE C) v e ∧ fPut (cKi C) (cE C) v e ≤ 2) ∧ (0 ≤ fPut (cMi C) (cE C) t e ∧ fPut (cMi C) (cE C) t e ≤ 23) ∧ 0 ≤ fPut (cPe C) (cE C) p e ∧ fPut (cPe C) (cE C) p e ≤ 11
  rw [fPut_at, fPut_at, fPut_at]
  by_cases q : e = cE C
  · rw [if_pos q, if_pos q, if_pos q]; omega
  · rw [if_neg q, if_neg q, if_neg q]; exact h5 e a (by omega)
theorem sAdd_8 {σ : zSt} {b : Nat} {e v t p u k : Int} (e0 : 0 ≤ e) (e1 : e < 9) (k0 : 0 ≤ k) (k1 : k < 9) : zbt ((sAdd σ b e v t p).1 (b + 8) u) k = (zbt (σ.1 (b + 8) u) k || (decide (u = t) && decide (k = e))) := by
  unfold sAdd
  rw [uI_ne (by omega), uI_at]
  by_cases z : u = t
  · rw [if_pos z, zbt_or, zbt_shl e0 (by omega) k0 (by omega), uI_ne (by omega), uI_ne (by omega), uI_ne (by omega), decide_eq_true z, z]; rfl
  · rw [if_neg z, uI_ne (by omega), uI_ne (by omega), uI_ne (by omega), decide_eq_false z]; simp
theorem zPx_add {σ : zSt} {b : Nat} {C : zCf} {v t p : Int} (h : zPx σ b C) (he : cE C ≤ 8) (v0 : 0 ≤ v) (v1 : v ≤ 2) (t0 : 0 ≤ t) (t1 : t < 24) (k0 : 0 ≤ p) (k1 : p < 12) : zPx (sAdd σ b (cE C) v t p) b (cAdd C v t p) := by
  obtain ⟨⟨p1, p2, p3, p4, p5, p6, p7, p8, q⟩, hx⟩ := h
  have hE := q.2.1
  have ne (a : Nat) (z : a ≠ b) (z4 : a ≠ b + 4) (z5 : a ≠ b + 5) (z6 : a ≠ b + 6) (z8 : a ≠ b + 8) : (sAdd σ b (cE C) v t p).1 a = σ.1 a := by
    unfold sAdd; rw [uI_ne z, uI_ne z8, uI_ne z6, uI_ne z5, uI_ne z4]
  refine ⟨⟨?_, ?_, fun j a c => ?_, p4, fun u a c => ?_, fun e a c => ?_, fun u a c => ?_, fun u a c => ⟨?_, fun e e0 e1 => ?_⟩, cAdd_v q he v0 v1 t0 t1 k0 k1⟩, fun j a c => ?_⟩
  · unfold sAdd; rw [uI_at, if_neg (by decide), uI_ne (by omega), uI_ne (by omega), uI_ne (by omega), uI_ne (by omega)]; exact p1
  · unfold sAdd; rw [uI_get]; rfl
  · rw [ne (b + 1) (by omega) (by omega) (by omega) (by omega) (by omega), ne (b + 2) (by omega) (by omega) (by omega) (by omega) (by omega)]; exact p3 j a c
  · rw [ne (b + 3) (by omega) (by omega) (by omega) (by omega) (by omega)]; exact p5 u a c
  · have c : e < cE C + 1 := c
    show _ = fPut (cKi C) (cE C) v e ∧ _ = fPut (cMi C) (cE C) t e ∧ _ = fPut (cPe C) (cE C) p e
    unfold sAdd
    rw [uI_ne (by omega), uI_ne (by omega), uI_ne (by omega), uI_ne (by omega), uI_at, uI_ne (by omega), uI_ne (by omega), uI_ne (by omega), uI_at, uI_ne (by omega), uI_ne (by omega), uI_ne (by omega), uI_at, uI_ne (by omega), uI_ne (by omega), fPut_at, fPut_at, fPut_at]
    by_cases z : e = cE C
    · rw [if_pos z, if_pos z, if_pos z, if_pos z, if_pos z, if_pos z]; exact ⟨rfl, rfl, rfl⟩
    · rw [if_neg z, if_neg z, if_neg z, if_neg z, if_neg z, if_neg z]; exact p6 e a (by omega)
  · rw [ne (b + 7) (by omega) (by omega) (by omega) (by omega) (by omega)]; exact p7 u a c
  · unfold sAdd
    rw [uI_ne (by omega), uI_at]
    split
    · exact zor_zr _ _
    · rw [uI_ne (by omega), uI_ne (by omega), uI_ne (by omega)]; exact (p8 u a c).1
  · rw [sAdd_8 hE.1 (by omega) e0 e1, (p8 u a c).2 e e0 e1]
    show _ = decide (e < cE C + 1 ∧ fPut (cMi C) (cE C) t e = u)
    rw [fPut_at]
    by_cases z : e = cE C
    · rw [if_pos z, decide_eq_false (show ¬ (e < cE C ∧ cMi C e = u) by omega), decide_eq_true z, Bool.false_or, Bool.and_true]
      by_cases z2 : u = t
      · rw [decide_eq_true z2, decide_eq_true (by omega)]
      · rw [decide_eq_false z2, decide_eq_false (by omega)]
    · rw [if_neg z, decide_eq_false z, Bool.and_false, Bool.or_false]
      by_cases z2 : e < cE C ∧ cMi C e = u
      · rw [decide_eq_true z2, decide_eq_true (by omega)]
      · rw [decide_eq_false z2, decide_eq_false (by omega)]
  · rw [ne (b + 1) (by omega) (by omega) (by omega) (by omega) (by omega)]; exact hx j a c
/-- the last event less -/
def cBk (C : zCf) : zCf := (cn C, cE C - 1, cCm C, cSo C, cPa C, cWi C, cKi C, cMi C, cPe C, cOn C)
theorem zPx_drop {σ : zSt} {b : Nat} {C : zCf} (h : zPx σ b C) (he : 0 < cE C) : zPx (sDrop σ b (cE C - 1)) b (cBk C) := by
  obtain ⟨⟨p1, p2, p3, p4, p5, p6, p7, p8, q⟩, hx⟩ := h
  have hE := q.2.1
  have hl := p6 (cE C - 1) (by omega) (by omega)
  have ne (a : Nat) (z : a ≠ b) (z8 : a ≠ b + 8) : (sDrop σ b (cE C - 1)).1 a = σ.1 a := by
    unfold sDrop; rw [uI_ne z, uI_ne z8]
  refine ⟨⟨?_, ?_, fun j a c => ?_, p4, fun u a c => ?_, fun e a c => ?_, fun u a c => ?_, fun u a c => ⟨?_, fun e e0 e1 => ?_⟩, q.1, ⟨by show 0 ≤ cE C - 1; omega, by show cE C - 1 ≤ 9; omega⟩, q.2.2.1, q.2.2.2.1, fun e a c => q.2.2.2.2 e a (by have c : e < cE C - 1 := c; omega)⟩, fun j a c => ?_⟩
  · unfold sDrop; rw [uI_at, if_neg (by decide), uI_ne (by omega)]; exact p1
  · unfold sDrop; rw [uI_get]; rfl
  · rw [ne (b + 1) (by omega) (by omega), ne (b + 2) (by omega) (by omega)]; exact p3 j a c
  · rw [ne (b + 3) (by omega) (by omega)]; exact p5 u a c
  · have c : e < cE C - 1 := c
    rw [ne (b + 4) (by omega) (by omega), ne (b + 5) (by omega) (by omega), ne (b + 6) (by omega) (by omega)]; exact p6 e a (by omega)
  · rw [ne (b + 7) (by omega) (by omega)]; exact p7 u a c
  · unfold sDrop
    rw [uI_ne (by omega), uI_at]
    split
    · exact zand_zr _ _
    · exact (p8 u a c).1
  · show _ = decide (e < cE C - 1 ∧ cMi C e = u)
    unfold sDrop
    rw [uI_ne (by omega), uI_at, hl.2.1]
    by_cases z2 : u = cMi C (cE C - 1)
    · rw [if_pos z2, zbt_and, zbt_not (by omega) e0, zbt_shl (by omega) (by omega) e0 (by omega), ← z2, (p8 u a c).2 e e0 e1]
      by_cases z : e = cE C - 1
      · rw [decide_eq_true z, decide_eq_false (show ¬ (e < cE C - 1 ∧ cMi C e = u) by omega)]; simp
      · rw [decide_eq_false z]
        by_cases z3 : e < cE C ∧ cMi C e = u
        · rw [decide_eq_true z3, decide_eq_true (by omega)]; rfl
        · rw [decide_eq_false z3, decide_eq_false (by omega)]; rfl
    · rw [if_neg z2, (p8 u a c).2 e e0 e1]
      by_cases z3 : e < cE C ∧ cMi C e = u
      · have z4 : ¬ e = cE C - 1 := fun y => z2 (by rw [← y]; exact z3.2.symm)
        rw [decide_eq_true z3, decide_eq_true (by omega)]
      · rw [decide_eq_false z3, decide_eq_false (by omega)]
  · rw [ne (b + 1) (by omega) (by omega)]; exact hx j a c
theorem zPx_none {σ : zSt} {b : Nat} {C : zCf} (h : zPx σ b C) : zPx (uI (fZero σ (b + 8) 24) b 5 0) b (cn C, 0, cCm C, cSo C, cPa C, cWi C, cKi C, cMi C, cPe C, cOn C) := by
  obtain ⟨⟨p1, p2, p3, p4, p5, p6, p7, p8, q⟩, hx⟩ := h
  have ne (a : Nat) (z : a ≠ b) (z8 : a ≠ b + 8) : (uI (fZero σ (b + 8) 24) b 5 0).1 a = σ.1 a := by
    rw [uI_ne z]; funext j; unfold fZero; show (if a = b + 8 ∧ _ ∧ _ then _ else _) = _; rw [if_neg (fun y => z8 y.1)]
  have hb (j : Int) (z : j ≠ 5) : (uI (fZero σ (b + 8) 24) b 5 0).1 b j = σ.1 b j := by
    rw [uI_at, if_neg z]; unfold fZero; show (if b = b + 8 ∧ _ ∧ _ then _ else _) = _; rw [if_neg (fun y => by omega)]
  have h8 (u : Int) (a : 0 ≤ u) (c : u < 24) : (uI (fZero σ (b + 8) 24) b 5 0).1 (b + 8) u = 0 := by
    rw [uI_ne (by omega)]; unfold fZero; show (if b + 8 = b + 8 ∧ _ ∧ _ then _ else _) = _; rw [if_pos ⟨rfl, a, c⟩]
  refine ⟨⟨by rw [hb 0 (by decide)]; exact p1, uI_get, fun j a c => ?_, p4, fun u a c => ?_, fun e a c => absurd c (by show ¬ e < 0; omega), fun u a c => ?_, fun u a c => ⟨by rw [h8 u a c]; decide, fun e e0 e1 => ?_⟩, q.1, ⟨show (0 : Int) ≤ 0 by decide, show (0 : Int) ≤ 9 by decide⟩, q.2.2.1, q.2.2.2.1, fun e a c => absurd c (by show ¬ e < 0; omega)⟩, fun j a c => ?_⟩
  · rw [ne (b + 1) (by omega) (by omega), ne (b + 2) (by omega) (by omega)]; exact p3 j a c
  · rw [ne (b + 3) (by omega) (by omega)]; exact p5 u a c
  · rw [ne (b + 7) (by omega) (by omega)]; exact p7 u a c
  · rw [h8 u a c, zbt_0]; exact (decide_eq_false (fun y => absurd y.1 (by show ¬ e < 0; omega))).symm
  · rw [ne (b + 1) (by omega) (by omega)]; exact hx j a c
theorem cpI_ne {σ : zSt} {k0 k1 a : Nat} {sp dp n : Int} (h : a ≠ k1) : (cpI σ k0 sp k1 dp n).1 a = σ.1 a := by
  funext j; unfold cpI; show (if a = k1 ∧ _ ∧ _ then _ else _) = _; rw [if_neg (fun y => h y.1)]
theorem cpI_at {σ : zSt} {k0 k1 : Nat} {n j : Int} (j0 : 0 ≤ j) (j1 : j < n) : (cpI σ k0 0 k1 0 n).1 k1 j = σ.1 k0 j := by
  unfold cpI; show (if k1 = k1 ∧ 0 ≤ j ∧ j < 0 + n then σ.1 k0 (0 + (j - 0)) else _) = _; rw [if_pos ⟨rfl, j0, by omega⟩, Int.zero_add, Int.sub_zero]

theorem sTake_1 {σ : zSt} {b a : Nat} {j : Int} (hab : a + 8 < b) (j0 : 0 ≤ j) (j1 : j < 12) : (sTake σ b a).1 (b + 1) j = σ.1 (a + 1) j := by
  unfold sTake
  rw [cpI_ne (show b + 1 ≠ b + 8 by omega), cpI_ne (show b + 1 ≠ b + 7 by omega), cpI_ne (show b + 1 ≠ b + 6 by omega), cpI_ne (show b + 1 ≠ b + 5 by omega), cpI_ne (show b + 1 ≠ b + 4 by omega), cpI_ne (show b + 1 ≠ b + 3 by omega), cpI_ne (show b + 1 ≠ b + 2 by omega), cpI_at j0 j1, uI_ne (show a + 1 ≠ b by omega), uL_1, uI_ne (show a + 1 ≠ b by omega)]
theorem sTake_2r {σ : zSt} {b a : Nat} {j : Int} (hab : a + 8 < b) (j0 : 0 ≤ j) (j1 : j < 12) : (sTake σ b a).1 (b + 2) j = σ.1 (a + 2) j := by
  unfold sTake
  rw [cpI_ne (show b + 2 ≠ b + 8 by omega), cpI_ne (show b + 2 ≠ b + 7 by omega), cpI_ne (show b + 2 ≠ b + 6 by omega), cpI_ne (show b + 2 ≠ b + 5 by omega), cpI_ne (show b + 2 ≠ b + 4 by omega), cpI_ne (show b + 2 ≠ b + 3 by omega), cpI_at j0 j1, cpI_ne (show a + 2 ≠ b + 1 by omega), uI_ne (show a + 2 ≠ b by omega), uL_1, uI_ne (show a + 2 ≠ b by omega)]
theorem sTake_3 {σ : zSt} {b a : Nat} {j : Int} (hab : a + 8 < b) (j0 : 0 ≤ j) (j1 : j < 24) : (sTake σ b a).1 (b + 3) j = σ.1 (a + 3) j := by
  unfold sTake
  rw [cpI_ne (show b + 3 ≠ b + 8 by omega), cpI_ne (show b + 3 ≠ b + 7 by omega), cpI_ne (show b + 3 ≠ b + 6 by omega), cpI_ne (show b + 3 ≠ b + 5 by omega), cpI_ne (show b + 3 ≠ b + 4 by omega), cpI_at j0 j1, cpI_ne (show a + 3 ≠ b + 2 by omega), cpI_ne (show a + 3 ≠ b + 1 by omega), uI_ne (show a + 3 ≠ b by omega), uL_1, uI_ne (show a + 3 ≠ b by omega)]
theorem sTake_4 {σ : zSt} {b a : Nat} {j : Int} (hab : a + 8 < b) (j0 : 0 ≤ j) (j1 : j < 9) : (sTake σ b a).1 (b + 4) j = σ.1 (a + 4) j := by
  unfold sTake
  rw [cpI_ne (show b + 4 ≠ b + 8 by omega), cpI_ne (show b + 4 ≠ b + 7 by omega), cpI_ne (show b + 4 ≠ b + 6 by omega), cpI_ne (show b + 4 ≠ b + 5 by omega), cpI_at j0 j1, cpI_ne (show a + 4 ≠ b + 3 by omega), cpI_ne (show a + 4 ≠ b + 2 by omega), cpI_ne (show a + 4 ≠ b + 1 by omega), uI_ne (show a + 4 ≠ b by omega), uL_1, uI_ne (show a + 4 ≠ b by omega)]
theorem sTake_5 {σ : zSt} {b a : Nat} {j : Int} (hab : a + 8 < b) (j0 : 0 ≤ j) (j1 : j < 9) : (sTake σ b a).1 (b + 5) j = σ.1 (a + 5) j := by
  unfold sTake
  rw [cpI_ne (show b + 5 ≠ b + 8 by omega), cpI_ne (show b + 5 ≠ b + 7 by omega), cpI_ne (show b + 5 ≠ b + 6 by omega), cpI_at j0 j1, cpI_ne (show a + 5 ≠ b + 4 by omega), cpI_ne (show a + 5 ≠ b + 3 by omega), cpI_ne (show a + 5 ≠ b + 2 by omega), cpI_ne (show a + 5 ≠ b + 1 by omega), uI_ne (show a + 5 ≠ b by omega), uL_1, uI_ne (show a + 5 ≠ b by omega)]
theorem sTake_6 {σ : zSt} {b a : Nat} {j : Int} (hab : a + 8 < b) (j0 : 0 ≤ j) (j1 : j < 9) : (sTake σ b a).1 (b + 6) j = σ.1 (a + 6) j := by
  unfold sTake
  rw [cpI_ne (show b + 6 ≠ b + 8 by omega), cpI_ne (show b + 6 ≠ b + 7 by omega), cpI_at j0 j1, cpI_ne (show a + 6 ≠ b + 5 by omega), cpI_ne (show a + 6 ≠ b + 4 by omega), cpI_ne (show a + 6 ≠ b + 3 by omega), cpI_ne (show a + 6 ≠ b + 2 by omega), cpI_ne (show a + 6 ≠ b + 1 by omega), uI_ne (show a + 6 ≠ b by omega), uL_1, uI_ne (show a + 6 ≠ b by omega)]
theorem sTake_7 {σ : zSt} {b a : Nat} {j : Int} (hab : a + 8 < b) (j0 : 0 ≤ j) (j1 : j < 24) : (sTake σ b a).1 (b + 7) j = σ.1 (a + 7) j := by
  unfold sTake
  rw [cpI_ne (show b + 7 ≠ b + 8 by omega), cpI_at j0 j1, cpI_ne (show a + 7 ≠ b + 6 by omega), cpI_ne (show a + 7 ≠ b + 5 by omega), cpI_ne (show a + 7 ≠ b + 4 by omega), cpI_ne (show a + 7 ≠ b + 3 by omega), cpI_ne (show a + 7 ≠ b + 2 by omega), cpI_ne (show a + 7 ≠ b + 1 by omega), uI_ne (show a + 7 ≠ b by omega), uL_1, uI_ne (show a + 7 ≠ b by omega)]
theorem sTake_8 {σ : zSt} {b a : Nat} {j : Int} (hab : a + 8 < b) (j0 : 0 ≤ j) (j1 : j < 24) : (sTake σ b a).1 (b + 8) j = σ.1 (a + 8) j := by
  unfold sTake
  rw [cpI_at j0 j1, cpI_ne (show a + 8 ≠ b + 7 by omega), cpI_ne (show a + 8 ≠ b + 6 by omega), cpI_ne (show a + 8 ≠ b + 5 by omega), cpI_ne (show a + 8 ≠ b + 4 by omega), cpI_ne (show a + 8 ≠ b + 3 by omega), cpI_ne (show a + 8 ≠ b + 2 by omega), cpI_ne (show a + 8 ≠ b + 1 by omega), uI_ne (show a + 8 ≠ b by omega), uL_1, uI_ne (show a + 8 ≠ b by omega)]
theorem sTake_b {σ : zSt} {b a : Nat} (hab : a + 8 < b) : (sTake σ b a).1 b 0 = σ.1 a 0 ∧ (sTake σ b a).1 b 5 = σ.1 a 5 := by
  unfold sTake
  rw [cpI_ne (show b ≠ b + 8 by omega), cpI_ne (show b ≠ b + 7 by omega), cpI_ne (show b ≠ b + 6 by omega), cpI_ne (show b ≠ b + 5 by omega), cpI_ne (show b ≠ b + 4 by omega), cpI_ne (show b ≠ b + 3 by omega), cpI_ne (show b ≠ b + 2 by omega), cpI_ne (show b ≠ b + 1 by omega)]
  exact ⟨by rw [uI_at, if_neg (by decide), uL_1, uI_get], by rw [uI_get, uL_1, uI_ne (by omega)]⟩
theorem sTake_2 {σ : zSt} {b a : Nat} (hab : a + 8 < b) : (sTake σ b a).2 b 3 = σ.2 a 3 := by
  show (uL (uI σ b 0 (σ.1 a 0)) b 3 ((uI σ b 0 (σ.1 a 0)).2 a 3)).2 b 3 = _
  rw [uL_get]; rfl
theorem sTake_ne {σ : zSt} {b a k : Nat} (h : k < b ∨ b + 8 < k) : (sTake σ b a).1 k = σ.1 k ∧ (sTake σ b a).2 k = σ.2 k := by
  refine ⟨?_, ?_⟩
  · unfold sTake
    rw [cpI_ne (show k ≠ b + 8 by omega), cpI_ne (show k ≠ b + 7 by omega), cpI_ne (show k ≠ b + 6 by omega), cpI_ne (show k ≠ b + 5 by omega), cpI_ne (show k ≠ b + 4 by omega), cpI_ne (show k ≠ b + 3 by omega), cpI_ne (show k ≠ b + 2 by omega), cpI_ne (show k ≠ b + 1 by omega), uI_ne (by omega), uL_1, uI_ne (by omega)]
  · show (uL (uI σ b 0 (σ.1 a 0)) b 3 ((uI σ b 0 (σ.1 a 0)).2 a 3)).2 k = _
    rw [uL_ne (by omega)]; rfl
theorem zPx_take {σ : zSt} {b a : Nat} {C : zCf} (hab : a + 8 < b) (h : zPx σ a C) : zPx (sTake σ b a) b C := by
  obtain ⟨⟨p1, p2, p3, p4, p5, p6, p7, p8, q⟩, hx⟩ := h
  have hn := q.1
  have hE := q.2.1
  have e := sTake_b (σ := σ) hab
  refine ⟨⟨by rw [e.1]; exact p1, by rw [e.2]; exact p2, fun j j0 j1 => ?_, by rw [sTake_2 hab]; exact p4, fun u u0 u1 => by rw [sTake_3 hab u0 u1]; exact p5 u u0 u1, fun j j0 j1 => ?_, fun u u0 u1 => by rw [sTake_7 hab u0 u1]; exact p7 u u0 u1, fun u u0 u1 => by rw [sTake_8 hab u0 u1]; exact p8 u u0 u1, q⟩, fun j j0 j1 => by rw [sTake_1 hab j0 j1]; exact hx j j0 j1⟩
  · rw [sTake_1 hab j0 (by omega), sTake_2r hab j0 (by omega)]; exact p3 j j0 j1
  · rw [sTake_4 hab j0 (by omega), sTake_5 hab j0 (by omega), sTake_6 hab j0 (by omega)]; exact p6 j j0 j1
