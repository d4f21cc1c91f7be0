/-- the reference's day and its record: what it may change -/
def nFr (σ σ' : zSt) : Prop := σ'.2 = σ.2 ∧ (∀ a : Nat, (a < 57 ∨ 64 < a) → a ≠ 44 → σ'.1 a = σ.1 a) ∧ ∀ b : Int, b ≠ 19 → σ'.1 44 b = σ.1 44 b
theorem nFr.rf {σ : zSt} : nFr σ σ := ⟨rfl, fun _ _ _ => rfl, fun _ _ => rfl⟩
theorem nFr.tr {σ σ' σ'' : zSt} (h : nFr σ σ') (h2 : nFr σ' σ'') : nFr σ σ'' := ⟨h2.1.trans h.1, fun a x y => (h2.2.1 a x y).trans (h.2.1 a x y), fun b x => (h2.2.2 b x).trans (h.2.2 b x)⟩
theorem nFr.u {σ σ' : zSt} (h : nFr σ σ') {k : Nat} {j v : Int} (h1 : 57 ≤ k) (h2 : k ≤ 64) : nFr σ (uI σ' k j v) := ⟨h.1, fun a x y => by rw [uI_ne (by omega)]; exact h.2.1 a x y, fun b x => by rw [uI_ne (by omega)]; exact h.2.2 b x⟩
theorem nFr.s {σ σ' : zSt} (h : nFr σ σ') {v : Int} : nFr σ (uI σ' 44 19 v) := ⟨h.1, fun a x y => by rw [uI_ne y]; exact h.2.1 a x y, fun b x => by rw [uI_at, if_neg x]; exact h.2.2 b x⟩
theorem mFr.n {σ σ' : zSt} (h : mFr σ σ') : nFr σ σ' := ⟨h.1, fun a x y => h.2.1 a (by omega) y, h.2.2⟩
theorem zMc_nf {σ σ' : zSt} {C : zCf} (h : nFr σ σ') (hc : zMc σ C) : zMc σ' C := by
  unfold zMc at hc ⊢
  rw [h.2.2 2 (by decide), h.2.2 12 (by decide), h.2.2 16 (by decide), h.2.2 17 (by decide), h.2.2 18 (by decide), h.2.1 47 (by omega) (by omega), h.2.1 48 (by omega) (by omega), h.2.1 49 (by omega) (by omega), h.2.1 50 (by omega) (by omega), h.2.1 54 (by omega) (by omega), h.2.1 55 (by omega) (by omega), h.2.1 56 (by omega) (by omega)]
  exact hc
/-- what the reference has kept of the minutes ahead of T -/
def zRec (σ : zSt) (C : zCf) (T : Int) : Prop := ∀ t : Int, 0 ≤ t → t < T → (∀ p : Int, 0 ≤ p → p < 12 → σ.1 61 (12 * t + p) = (if p < dn (zD C t) then dq (zD C t) p else -1) ∧ σ.1 62 (12 * t + p) = ds (zD C t) p ∧ σ.1 63 (12 * t + p) = dl (zD C t) p) ∧ σ.1 64 t = dn (zD C t)
theorem zRec_cong {σ σ' : zSt} {C : zCf} {T : Int} (h1 : σ'.1 61 = σ.1 61) (h2 : σ'.1 62 = σ.1 62) (h3 : σ'.1 63 = σ.1 63) (h4 : σ'.1 64 = σ.1 64) (h : zRec σ C T) : zRec σ' C T := by
  unfold zRec at h ⊢
  rw [h1, h2, h3, h4]
  exact h
theorem zRec_m {σ σ' : zSt} {C : zCf} {T : Int} (hf : mFr σ σ') (h : zRec σ C T) : zRec σ' C T :=
  zRec_cong (hf.2.1 61 (by omega) (by omega)) (hf.2.1 62 (by omega) (by omega)) (hf.2.1 63 (by omega) (by omega)) (hf.2.1 64 (by omega) (by omega)) h
theorem zMd_cong {σ σ' : zSt} {D : zDy} (h0 : σ'.1 44 19 = σ.1 44 19) (h1 : σ'.1 57 = σ.1 57) (h2 : σ'.1 58 = σ.1 58) (h3 : σ'.1 59 = σ.1 59) (h4 : σ'.1 60 = σ.1 60) (h : zMd σ D) : zMd σ' D := by
  unfold zMd at h ⊢
  rw [h0, h1, h2, h3, h4]
  exact h
set_option maxHeartbeats 16000000 in
set_option maxRecDepth 100000 in
/-- goesBy -/
theorem c_M_goesBy {C : zCf} {t : Nat} {σ : zSt} {post : Option VV → zSt → Prop} (hc : zMc σ C) (hm : zMd σ (dDay C t)) (hrec : zRec σ C (t : Int)) (t1 : t < 24) (hp : ∀ σ' : zSt, nFr σ σ' → zMd σ' (dDay C (t + 1)) → zRec σ' C ((t : Int) + 1) → post none σ') : Mc 2 MX7_goesBy [vR 6 44, vZ (t : Int)] σ post := by
  have hC := zMc_C hc
  obtain ⟨hJ, hJc⟩ := zJ_day hC t
  have hn := hC.1
  have hE := hC.2.1
  have ht0 : (0 : Int) ≤ (t : Int) := by omega
  have hJb := zJ_BeN (t := (t : Int)) hC hJ (cE C).toNat (by omega)
  have hcb : zJc C (t : Int) 0 (dBeN C (t : Int) (cE C).toNat (dDay C t)) := fun k k0 k1 => (dBeN_s0 _).trans (hJc k k0 k1)
  obtain ⟨hJe, hce⟩ := zJ_CoN hC hJb hcb (cn C).toNat (by omega)
  have hzD : zD C (t : Int) = dDay C (t + 1) := by show dDay C ((t : Int).toNat + 1) = _; rw [Int.toNat_natCast]
  have loop3 : ∀ (m : Nat) (p : Int), 0 ≤ p → p + m = 12 → ∀ σ1 : zSt, nFr σ σ1 → zMd σ1 (dDay C (t + 1)) → zRec σ1 C t → (∀ q : Int, 0 ≤ q → q < p → σ1.1 61 (12 * t + q) = (if q < dn (zD C t) then dq (zD C t) q else -1) ∧ σ1.1 62 (12 * t + q) = ds (zD C t) q ∧ σ1.1 63 (12 * t + q) = dl (zD C t) q) → V 2 MX7_goesBy 80 [some (vR 6 44), some (vZ (t : Int)), some (vZ p)] [] σ1 post := by
    intro m
    induction m with
    | zero =>
      intro p hp0 hpm σ1 hf1 hm1 hr1 hd1
      refine V_run kX7_goesBy 6 [1] (show (zr p ∧ zr 12 ∧ 12 ≤ p) ∧ V 2 MX7_goesBy 160 [some (vR 6 44), some (vZ (t : Int)), some (vZ p)] [vZ (t : Int), vR 8 64] σ1 post from ⟨(by omega), ?_⟩)
      refine V_run kX7_goesBy 3 [] (show (0 ≤ (t : Int) ∧ (t : Int) < 24) ∧ V 2 MX7_goesBy 165 [some (vR 6 44), some (vZ (t : Int)), some (vZ p)] [] (uI σ1 64 (t : Int) (σ1.1 44 19)) post from ⟨(by omega), ?_⟩)
      rw [hm1.1]
      refine V_vret kX7_goesBy rfl rfl (hp _ (nFr.u hf1 (by decide) (by decide)) (zMd_cong rfl rfl rfl rfl rfl hm1) (fun x x0 x1 => ⟨fun q q0 q1 => ?_, ?_⟩))
      · show σ1.1 61 (12 * x + q) = _ ∧ σ1.1 62 (12 * x + q) = _ ∧ σ1.1 63 (12 * x + q) = _
        by_cases hx : x = t
        · rw [hx]; exact hd1 q q0 (by omega)
        · exact (hr1 x x0 (by omega)).1 q q0 q1
      · rw [uI_at]
        by_cases hx : x = t
        · rw [if_pos hx, hx, hzD]
        · rw [if_neg hx]; exact (hr1 x x0 (by omega)).2
    | succ m ih =>
      intro p hp0 hpm σ1 hf1 hm1 hr1 hd1
      have h3 := hm1.2.2 p hp0 (by omega)
      refine V_run kX7_goesBy 13 [0] (show (zr p ∧ zr 12 ∧ p < 12) ∧ V 2 MX7_goesBy 101 [some (vR 6 44), some (vZ (t : Int)), some (vZ p)] [vZ (σ1.1 44 19), vZ p, vZ ((12 * (t : Int)) + p), vR 8 61] σ1 post from ⟨(by omega), ?_⟩)
      rw [hm1.1]
      show V 2 MX7_goesBy 101 [some (vR 6 44), some (vZ (t : Int)), some (vZ p)] [vZ (dn (dDay C (t + 1))), vZ p, vZ ((12 * (t : Int)) + p), vR 8 61] σ1 post
      have hJ1 := (zJ_day hC (t + 1)).1
      rw [← hzD] at hJ1 hm1 h3
      have hJ1n := hJ1.1
      have fin : ∀ y : Int, y = (if p < dn (zD C t) then dq (zD C t) p else -1) → V 2 MX7_goesBy 114 [some (vR 6 44), some (vZ (t : Int)), some (vZ p)] [vZ y, vZ (12 * (t : Int) + p), vR 8 61] σ1 post := by
        intro y hy
        refine V_run kX7_goesBy 12 [] (show (0 ≤ (12 * (t : Int) + p) ∧ (12 * (t : Int) + p) < 288) ∧ (0 ≤ p ∧ p < 12) ∧ V 2 MX7_goesBy 131 [some (vR 6 44), some (vZ (t : Int)), some (vZ p)] [vZ ((uI σ1 61 (12 * (t : Int) + p) y).1 58 p), vZ ((12 * (t : Int)) + p), vR 8 62] (uI σ1 61 (12 * (t : Int) + p) y) post from ⟨(by omega), (by omega), ?_⟩)
        refine V_top (show (uI σ1 61 (12 * (t : Int) + p) y).1 58 p = ds (zD C t) p from h3.1) ?_
        refine V_run kX7_goesBy 12 [] (show (0 ≤ ((12 * (t : Int)) + p) ∧ ((12 * (t : Int)) + p) < 288) ∧ (0 ≤ p ∧ p < 12) ∧ V 2 MX7_goesBy 148 [some (vR 6 44), some (vZ (t : Int)), some (vZ p)] [vZ ((uI (uI σ1 61 (12 * (t : Int) + p) y) 62 ((12 * (t : Int)) + p) (ds (zD C t) p)).1 59 p), vZ ((12 * (t : Int)) + p), vR 8 63] (uI (uI σ1 61 (12 * (t : Int) + p) y) 62 ((12 * (t : Int)) + p) (ds (zD C t) p)) post from ⟨(by omega), (by omega), ?_⟩)
        refine V_top (show (uI (uI σ1 61 (12 * (t : Int) + p) y) 62 ((12 * (t : Int)) + p) (ds (zD C t) p)).1 59 p = dl (zD C t) p from h3.2.1) ?_
        refine V_run kX7_goesBy 3 [] (show (0 ≤ ((12 * (t : Int)) + p) ∧ ((12 * (t : Int)) + p) < 288) ∧ V 2 MX7_goesBy 80 [some (vR 6 44), some (vZ (t : Int)), some (vZ (p + 1))] [] (uI (uI (uI σ1 61 (12 * (t : Int) + p) y) 62 ((12 * (t : Int)) + p) (ds (zD C t) p)) 63 ((12 * (t : Int)) + p) (dl (zD C t) p)) post from ⟨(by omega), ?_⟩)
        refine ih (p + 1) (by omega) (by omega) _ (nFr.u (nFr.u (nFr.u hf1 (by decide) (by decide)) (by decide) (by decide)) (by decide) (by decide)) (by rw [← hzD]; exact zMd_cong rfl rfl rfl rfl rfl hm1) (fun x x0 x1 => ⟨fun q q0 q1 => ?_, (hr1 x x0 x1).2⟩) (fun q q0 q1 => ?_)
        · have h8 := (hr1 x x0 x1).1 q q0 q1
          have hne : ¬ 12 * x + q = 12 * (t : Int) + p := by omega
          rw [uI_ne (by decide), uI_ne (by decide), uI_at, uI_ne (by decide), uI_at, uI_ne (by decide), uI_at, uI_ne (by decide), uI_ne (by decide), if_neg hne, if_neg hne, if_neg hne]
          exact h8
        · rw [uI_ne (by decide), uI_ne (by decide), uI_at, uI_ne (by decide), uI_at, uI_ne (by decide), uI_at, uI_ne (by decide), uI_ne (by decide)]
          by_cases hq : q = p
          · rw [hq, if_pos rfl, if_pos rfl, if_pos rfl, hy]; exact ⟨rfl, rfl, rfl⟩
          · have hne : ¬ 12 * (t : Int) + q = 12 * (t : Int) + p := by omega
            rw [if_neg hne, if_neg hne, if_neg hne]; exact hd1 q q0 (by omega)
      rw [← hzD]
      rcases Int.lt_or_le p (dn (zD C t)) with h9 | h9
      · skip
        refine V_run kX7_goesBy 5 [0] (show (zr p ∧ zr (dn (zD C t)) ∧ p < (dn (zD C t))) ∧ (0 ≤ p ∧ p < 13) ∧ V 2 MX7_goesBy 110 [some (vR 6 44), some (vZ (t : Int)), some (vZ p)] [vZ (σ1.1 57 p), vZ ((12 * (t : Int)) + p), vR 8 61] σ1 post from ⟨(by omega), (by omega), ?_⟩)
        refine V_top (hm1.2.1 p hp0 h9) ?_
        refine V_run kX7_goesBy 1 [] (show V 2 MX7_goesBy 114 [some (vR 6 44), some (vZ (t : Int)), some (vZ p)] [vZ (dq (zD C t) p), vZ ((12 * (t : Int)) + p), vR 8 61] σ1 post from ?_)
        exact fin _ (if_pos h9).symm
      · skip
        refine V_run kX7_goesBy 2 [1] (show (zr p ∧ zr (dn (zD C t)) ∧ (dn (zD C t)) ≤ p) ∧ V 2 MX7_goesBy 114 [some (vR 6 44), some (vZ (t : Int)), some (vZ p)] [vZ (-1), vZ ((12 * (t : Int)) + p), vR 8 61] σ1 post from ⟨(by omega), ?_⟩)
        exact fin _ (if_neg (by omega)).symm
  have loop2 : ∀ (m k : Nat), k + m = (cn C).toNat → ∀ σ1 : zSt, mFr σ σ1 → zMd σ1 (dCoN C t k (dBeN C t (cE C).toNat (dDay C t))) → V 2 MX7_goesBy 44 [some (vR 6 44), some (vZ (t : Int)), some (vZ (k : Int))] [] σ1 post := by
    intro m
    induction m with
    | zero =>
      intro k hk σ1 hf1 hm1
      have hc1 := zMc_fr hf1 hc
      have hkn : k = (cn C).toNat := by omega
      refine V_run kX7_goesBy 3 [] (show V 2 MX7_goesBy 49 [some (vR 6 44), some (vZ (t : Int)), some (vZ (k : Int))] [vZ (σ1.1 44 2), vZ (k : Int)] σ1 post from ?_)
      rw [hc1.1]
      show V 2 MX7_goesBy 49 [some (vR 6 44), some (vZ (t : Int)), some (vZ (k : Int))] [vZ (cn C), vZ (k : Int)] σ1 post
      refine V_run kX7_goesBy 3 [1] (show (zr (k : Int) ∧ zr (cn C) ∧ (cn C) ≤ (k : Int)) ∧ V 2 MX7_goesBy 75 [some (vR 6 44), some (vZ (t : Int)), some (vZ (k : Int))] [vZ (t : Int), vR 6 44] σ1 post from ⟨(by omega), ?_⟩)
      rw [hkn] at hm1
      refine V_callV (a := [vZ (t : Int)]) (rest := []) kX7_goesBy rfl oX7_serves iX7_serves lk_7_207 rfl rfl rfl (Nat.le_of_ble_eq_true rfl) (Nat.le_of_ble_eq_true rfl) (Nat.le_of_ble_eq_true rfl) (post' := fun zv zσ => V 2 MX7_goesBy 78 [some (vR 6 44), some (vZ (t : Int)), some (vZ (k : Int))] (zv.toList ++ []) zσ post) (c_M_serves hc1 hm1 hJe ht0 (by omega) (fun σ2 hf2 hm2 => (show V 2 MX7_goesBy 78 [some (vR 6 44), some (vZ (t : Int)), some (vZ (k : Int))] [] σ2 post from ?_))) (fun _ _ h => h)
      refine V_run kX7_goesBy 2 [] (show V 2 MX7_goesBy 80 [some (vR 6 44), some (vZ (t : Int)), some (vZ 0)] [] σ2 post from ?_)
      exact loop3 12 0 (by omega) (by omega) σ2 (hf1.tr hf2).n hm2 (zRec_m (hf1.tr hf2) hrec) (fun q q0 q1 => by omega)
    | succ m ih =>
      intro k hk σ1 hf1 hm1
      have hc1 := zMc_fr hf1 hc
      have hk0 : (0 : Int) ≤ (k : Int) := by omega
      have hk1 : (k : Int) < cn C := by omega
      obtain ⟨hJk, hck⟩ := zJ_CoN (t := (t : Int)) hC hJb hcb k (by omega)
      have hcv := (hC.2.2.1 k hk0 hk1).1
      have hnx : dCoN C t (k + 1) (dBeN C t (cE C).toNat (dDay C t)) = if cCm C k = t then dCo C k (dCoN C t k (dBeN C t (cE C).toNat (dDay C t))) else dCoN C t k (dBeN C t (cE C).toNat (dDay C t)) := rfl
      refine V_run kX7_goesBy 3 [] (show V 2 MX7_goesBy 49 [some (vR 6 44), some (vZ (t : Int)), some (vZ (k : Int))] [vZ (σ1.1 44 2), vZ (k : Int)] σ1 post from ?_)
      rw [hc1.1]
      show V 2 MX7_goesBy 49 [some (vR 6 44), some (vZ (t : Int)), some (vZ (k : Int))] [vZ (cn C), vZ (k : Int)] σ1 post
      refine V_run kX7_goesBy 5 [0] (show (zr (k : Int) ∧ zr (cn C) ∧ (k : Int) < (cn C)) ∧ (0 ≤ (k : Int) ∧ (k : Int) < 13) ∧ V 2 MX7_goesBy 58 [some (vR 6 44), some (vZ (t : Int)), some (vZ (k : Int))] [vZ (σ1.1 47 (k : Int))] σ1 post from ⟨(by omega), (by omega), ?_⟩)
      refine V_top ((hc1.2.2.1 k hk0 hk1).1) ?_
      refine V_run kX7_goesBy 1 [] (show V 2 MX7_goesBy 59 [some (vR 6 44), some (vZ (t : Int)), some (vZ (k : Int))] [vZ (t : Int), vZ (cCm C (k : Int))] σ1 post from ?_)
      by_cases h1 : cCm C k = t
      · skip
        have hsk : ds (dCoN C t k (dBeN C t (cE C).toNat (dDay C t))) k = 0 := (hck k hk0 hk1).mpr (Or.inr ⟨h1, Int.le_refl _⟩)
        refine V_run kX7_goesBy 3 [0] (show (zr (cCm C (k : Int)) ∧ zr (t : Int) ∧ (cCm C (k : Int)) = (t : Int)) ∧ V 2 MX7_goesBy 64 [some (vR 6 44), some (vZ (t : Int)), some (vZ (k : Int))] [vZ (k : Int), vR 6 44] σ1 post from ⟨(by omega), ?_⟩)
        refine V_callV (a := [vZ (k : Int)]) (rest := []) kX7_goesBy rfl oX7_comesIn iX7_comesIn lk_7_204 rfl rfl rfl (Nat.le_of_ble_eq_true rfl) (Nat.le_of_ble_eq_true rfl) (Nat.le_of_ble_eq_true rfl) (post' := fun zv zσ => V 2 MX7_goesBy 67 [some (vR 6 44), some (vZ (t : Int)), some (vZ (k : Int))] (zv.toList ++ []) zσ post) (c_M_comesIn hc1 hm1 hJk (zJ_room hn.2 hJk hk0 hk1 (by omega)) hk0 hk1 (fun σ2 hf2 hm2 => (show V 2 MX7_goesBy 67 [some (vR 6 44), some (vZ (t : Int)), some (vZ (k : Int))] [] σ2 post from ?_))) (fun _ _ h => h)
        refine V_run kX7_goesBy 2 [] (show V 2 MX7_goesBy 44 [some (vR 6 44), some (vZ (t : Int)), some (vZ ((k : Int) + 1))] [] σ2 post from ?_)
        exact ih (k + 1) (by omega) σ2 (hf1.tr hf2) (by rw [hnx, if_pos h1]; exact hm2)
      · skip
        refine V_run kX7_goesBy 3 [1] (show (zr (cCm C (k : Int)) ∧ zr (t : Int) ∧ ¬ (cCm C (k : Int)) = (t : Int)) ∧ V 2 MX7_goesBy 44 [some (vR 6 44), some (vZ (t : Int)), some (vZ ((k : Int) + 1))] [] σ1 post from ⟨(by omega), ?_⟩)
        exact ih (k + 1) (by omega) σ1 hf1 (by rw [hnx, if_neg h1]; exact hm1)
  have loop1 : ∀ (m k : Nat), k + m = (cE C).toNat → ∀ σ1 : zSt, mFr σ σ1 → zMd σ1 (dBeN C t k (dDay C t)) → V 2 MX7_goesBy 2 [some (vR 6 44), some (vZ (t : Int)), some (vZ (k : Int))] [] σ1 post := by
    intro m
    induction m with
    | zero =>
      intro k hk σ1 hf1 hm1
      have hc1 := zMc_fr hf1 hc
      have hkn : k = (cE C).toNat := by omega
      refine V_run kX7_goesBy 3 [] (show V 2 MX7_goesBy 7 [some (vR 6 44), some (vZ (t : Int)), some (vZ (k : Int))] [vZ (σ1.1 44 12), vZ (k : Int)] σ1 post from ?_)
      rw [hc1.2.1]
      show V 2 MX7_goesBy 7 [some (vR 6 44), some (vZ (t : Int)), some (vZ (k : Int))] [vZ (cE C), vZ (k : Int)] σ1 post
      refine V_run kX7_goesBy 3 [1] (show (zr (k : Int) ∧ zr (cE C) ∧ (cE C) ≤ (k : Int)) ∧ V 2 MX7_goesBy 44 [some (vR 6 44), some (vZ (t : Int)), some (vZ 0)] [] σ1 post from ⟨(by omega), ?_⟩)
      rw [hkn] at hm1
      exact loop2 (cn C).toNat 0 (by omega) σ1 hf1 hm1
    | succ m ih =>
      intro k hk σ1 hf1 hm1
      have hc1 := zMc_fr hf1 hc
      have hk0 : (0 : Int) ≤ (k : Int) := by omega
      have hk1 : (k : Int) < cE C := by omega
      have hev := hc1.2.2.2.2.1 k hk0 hk1
      have hEv := hC.2.2.2.2 k hk0 hk1
      have hJk := zJ_BeN (t := (t : Int)) hC hJ k (by omega)
      have hnx : dBeN C t (k + 1) (dDay C t) = if cMi C k = t ∧ cOn C k = true then dBe C k (dBeN C t k (dDay C t)) else dBeN C t k (dDay C t) := rfl
      refine V_run kX7_goesBy 3 [] (show V 2 MX7_goesBy 7 [some (vR 6 44), some (vZ (t : Int)), some (vZ (k : Int))] [vZ (σ1.1 44 12), vZ (k : Int)] σ1 post from ?_)
      rw [hc1.2.1]
      show V 2 MX7_goesBy 7 [some (vR 6 44), some (vZ (t : Int)), some (vZ (k : Int))] [vZ (cE C), vZ (k : Int)] σ1 post
      refine V_run kX7_goesBy 5 [0] (show (zr (k : Int) ∧ zr (cE C) ∧ (k : Int) < (cE C)) ∧ (0 ≤ (k : Int) ∧ (k : Int) < 9) ∧ V 2 MX7_goesBy 16 [some (vR 6 44), some (vZ (t : Int)), some (vZ (k : Int))] [vZ (σ1.1 55 (k : Int))] σ1 post from ⟨(by omega), (by omega), ?_⟩)
      refine V_top (hev.2.1) ?_
      refine V_run kX7_goesBy 1 [] (show V 2 MX7_goesBy 17 [some (vR 6 44), some (vZ (t : Int)), some (vZ (k : Int))] [vZ (t : Int), vZ (cMi C (k : Int))] σ1 post from ?_)
      by_cases h1 : cMi C k = t
      · skip
        refine V_run kX7_goesBy 4 [0] (show (zr (cMi C (k : Int)) ∧ zr (t : Int) ∧ (cMi C (k : Int)) = (t : Int)) ∧ V 2 MX7_goesBy 25 [some (vR 6 44), some (vZ (t : Int)), some (vZ (k : Int))] [vZ (k : Int), vZ (σ1.1 44 16)] σ1 post from ⟨(by omega), ?_⟩)
        refine V_callS (a := [vZ (σ1.1 44 16), vZ (k : Int)]) (rest := []) kX7_goesBy rfl oX7_isIn iX7_isIn lk_7_197 rfl rfl (Nat.le_of_ble_eq_true rfl) (Nat.le_of_ble_eq_true rfl) (Nat.le_of_ble_eq_true rfl) (post' := fun zv zσ => V 2 MX7_goesBy 28 [some (vR 6 44), some (vZ (t : Int)), some (vZ (k : Int))] (zv.toList ++ []) zσ post) (c_M_isIn hk0 (by omega) ((show V 2 MX7_goesBy 28 [some (vR 6 44), some (vZ (t : Int)), some (vZ (k : Int))] [vZ (if zbt (σ1.1 44 16) (k : Int) = true then 1 else 0)] σ1 post from ?_))) (fun _ _ h => h)
        by_cases h2 : zbt (σ1.1 44 16) (k : Int) = true
        · skip
          have hon : cOn C k = false := by rw [hev.2.2.2, h2]; rfl
          refine V_top (if_pos h2) ?_
          refine V_run kX7_goesBy 3 [1] (show (zr 1 ∧ ¬ 1 = 0) ∧ V 2 MX7_goesBy 2 [some (vR 6 44), some (vZ (t : Int)), some (vZ ((k : Int) + 1))] [] σ1 post from ⟨(by omega), ?_⟩)
          exact ih (k + 1) (by omega) σ1 hf1 (by rw [hnx, if_neg (by rw [hon]; simp)]; exact hm1)
        · skip
          have hon : cOn C k = true := by rw [hev.2.2.2, eq_false_of_ne_true h2]; rfl
          refine V_top (if_neg h2) ?_
          refine V_run kX7_goesBy 3 [0] (show (zr 0 ∧ 0 = 0) ∧ V 2 MX7_goesBy 33 [some (vR 6 44), some (vZ (t : Int)), some (vZ (k : Int))] [vZ (k : Int), vR 6 44] σ1 post from ⟨(by omega), ?_⟩)
          refine V_callV (a := [vZ (k : Int)]) (rest := []) kX7_goesBy rfl oX7_befalls iX7_befalls lk_7_201 rfl rfl rfl (Nat.le_of_ble_eq_true rfl) (Nat.le_of_ble_eq_true rfl) (Nat.le_of_ble_eq_true rfl) (post' := fun zv zσ => V 2 MX7_goesBy 36 [some (vR 6 44), some (vZ (t : Int)), some (vZ (k : Int))] (zv.toList ++ []) zσ post) (c_M_befalls hc1 hm1 hJk hk0 hk1 (fun σ2 hf2 hm2 => (show V 2 MX7_goesBy 36 [some (vR 6 44), some (vZ (t : Int)), some (vZ (k : Int))] [] σ2 post from ?_))) (fun _ _ h => h)
          refine V_run kX7_goesBy 2 [] (show V 2 MX7_goesBy 2 [some (vR 6 44), some (vZ (t : Int)), some (vZ ((k : Int) + 1))] [] σ2 post from ?_)
          exact ih (k + 1) (by omega) σ2 (hf1.tr hf2) (by rw [hnx, if_pos ⟨h1, hon⟩]; exact hm2)
      · skip
        refine V_run kX7_goesBy 3 [1] (show (zr (cMi C (k : Int)) ∧ zr (t : Int) ∧ ¬ (cMi C (k : Int)) = (t : Int)) ∧ V 2 MX7_goesBy 2 [some (vR 6 44), some (vZ (t : Int)), some (vZ ((k : Int) + 1))] [] σ1 post from ⟨(by omega), ?_⟩)
        exact ih (k + 1) (by omega) σ1 hf1 (by rw [hnx, if_neg (fun q => h1 q.1)]; exact hm1)
  show V 2 MX7_goesBy 0 [some (vR 6 44), some (vZ (t : Int)), none] [] σ post
  refine V_run kX7_goesBy 2 [] (show V 2 MX7_goesBy 2 [some (vR 6 44), some (vZ (t : Int)), some (vZ 0)] [] σ post from ?_)
  exact loop1 (cE C).toNat 0 (by omega) σ mFr.rf hm
set_option maxHeartbeats 8000000 in
set_option maxRecDepth 100000 in
/-- runs -/
theorem c_M_runs {C : zCf} {σ : zSt} {post : Option VV → zSt → Prop} (hc : zMc σ C) (hp : ∀ σ' : zSt, nFr σ σ' → zMd σ' (dDay C 24) → zRec σ' C 24 → post none σ') : Mc 3 MX7_runs [vR 6 44] σ post := by
  have hC := zMc_C hc
  have hn := hC.1
  have loop2 : ∀ (m t : Nat), t + m = 24 → ∀ σ1 : zSt, nFr σ σ1 → zMd σ1 (dDay C t) → zRec σ1 C t → V 3 MX7_runs 59 [some (vR 6 44), some (vZ (t : Int))] [] σ1 post := by
    intro m
    induction m with
    | zero =>
      intro t ht σ1 hf1 hm1 hr1
      have ht2 : t = 24 := by omega
      subst ht2
      refine V_run kX7_runs 3 [1] (show (zr ((24 : Nat) : Int) ∧ zr 24 ∧ 24 ≤ ((24 : Nat) : Int)) ∧ V 3 MX7_runs 76 [some (vR 6 44), some (vZ ((24 : Nat) : Int))] [] σ1 post from ⟨(by omega), ?_⟩)
      exact V_vret kX7_runs rfl rfl (hp _ hf1 hm1 hr1)
    | succ m ih =>
      intro t ht σ1 hf1 hm1 hr1
      refine V_run kX7_runs 5 [0] (show (zr (t : Int) ∧ zr 24 ∧ (t : Int) < 24) ∧ V 3 MX7_runs 67 [some (vR 6 44), some (vZ (t : Int))] [vZ (t : Int), vR 6 44] σ1 post from ⟨(by omega), ?_⟩)
      refine V_callV (a := [vZ (t : Int)]) (rest := []) kX7_runs rfl oX7_goesBy iX7_goesBy lk_7_210 rfl rfl rfl (Nat.le_of_ble_eq_true rfl) (Nat.le_of_ble_eq_true rfl) (Nat.le_of_ble_eq_true rfl) (post' := fun zv zσ => V 3 MX7_runs 70 [some (vR 6 44), some (vZ (t : Int))] (zv.toList ++ []) zσ post) (c_M_goesBy (zMc_nf hf1 hc) hm1 hr1 (by omega) (fun σ2 hf2 hm2 hr2 => (show V 3 MX7_runs 70 [some (vR 6 44), some (vZ (t : Int))] [] σ2 post from ?_))) (fun _ _ h => h)
      refine V_run kX7_runs 2 [] (show V 3 MX7_runs 59 [some (vR 6 44), some (vZ ((t : Int) + 1))] [] σ2 post from ?_)
      exact ih (t + 1) (by omega) σ2 (hf1.tr hf2) hm2 hr2
  have loop1 : ∀ (m : Nat) (k : Int), 0 ≤ k → k + m = 12 → ∀ σ1 : zSt, nFr σ σ1 → σ1.1 44 19 = 0 → (∀ j : Int, 0 ≤ j → j < k → σ1.1 58 j = 0 ∧ σ1.1 59 j = (if 0 ≤ j ∧ j < cn C then cPa C j else 0) ∧ σ1.1 60 j = -1) → V 3 MX7_runs 7 [some (vR 6 44), some (vZ k)] [] σ1 post := by
    intro m
    induction m with
    | zero =>
      intro k hk0 hk σ1 hf1 hs1 hd1
      refine V_run kX7_runs 5 [1] (show (zr k ∧ zr 12 ∧ 12 ≤ k) ∧ V 3 MX7_runs 59 [some (vR 6 44), some (vZ 0)] [] σ1 post from ⟨(by omega), ?_⟩)
      exact loop2 24 0 rfl σ1 hf1 ⟨hs1, fun j a b => absurd b (by show ¬ j < 0; omega), fun j a b => hd1 j a (by omega)⟩ (fun x x0 x1 => absurd x1 (by show ¬ x < ((0 : Nat) : Int); omega))
    | succ m ih =>
      intro k hk0 hk σ1 hf1 hs1 hd1
      have hc1 := zMc_nf hf1 hc
      refine V_run kX7_runs 14 [0] (show (zr k ∧ zr 12 ∧ k < 12) ∧ (0 ≤ k ∧ k < 12) ∧ V 3 MX7_runs 30 [some (vR 6 44), some (vZ k)] [vZ ((uI σ1 58 k 0).1 44 2), vZ k, vZ k, vR 8 59] (uI σ1 58 k 0) post from ⟨(by omega), (by omega), ?_⟩)
      rw [show (uI σ1 58 k 0).1 44 2 = cn C from hc1.1]
      show V 3 MX7_runs 30 [some (vR 6 44), some (vZ k)] [vZ (cn C), vZ k, vZ k, vR 8 59] (uI σ1 58 k 0) post
      have fin : ∀ y : Int, y = (if 0 ≤ k ∧ k < cn C then cPa C k else 0) → V 3 MX7_runs 43 [some (vR 6 44), some (vZ k)] [vZ y, vZ k, vR 8 59] (uI σ1 58 k 0) post := by
        intro y hy
        refine V_run kX7_runs 8 [] (show (0 ≤ k ∧ k < 12) ∧ (0 ≤ k ∧ k < 12) ∧ V 3 MX7_runs 7 [some (vR 6 44), some (vZ (k + 1))] [] (uI (uI (uI σ1 58 k 0) 59 k y) 60 k (-1)) post from ⟨(by omega), (by omega), ?_⟩)
        refine ih (k + 1) (by omega) (by omega) _ (nFr.u (nFr.u (nFr.u hf1 (by decide) (by decide)) (by decide) (by decide)) (by decide) (by decide)) hs1 (fun j a b => ?_)
        rw [uI_ne (by decide), uI_ne (by decide), uI_at, uI_ne (by decide), uI_at, uI_ne (by decide), uI_at, uI_ne (by decide), uI_ne (by decide)]
        by_cases hj : j = k
        · rw [if_pos hj, if_pos hj, if_pos hj, hy, hj]; exact ⟨rfl, rfl, rfl⟩
        · rw [if_neg hj, if_neg hj, if_neg hj]; exact hd1 j a (by omega)
      rcases Int.lt_or_le k (cn C) with h9 | h9
      · skip
        refine V_run kX7_runs 5 [0] (show (zr k ∧ zr (cn C) ∧ k < (cn C)) ∧ (0 ≤ k ∧ k < 13) ∧ V 3 MX7_runs 39 [some (vR 6 44), some (vZ k)] [vZ ((uI σ1 58 k 0).1 49 k), vZ k, vR 8 59] (uI σ1 58 k 0) post from ⟨(by omega), (by omega), ?_⟩)
        refine V_top (show (uI σ1 58 k 0).1 49 k = cPa C k from (hc1.2.2.1 k hk0 h9).2.2) ?_
        refine V_run kX7_runs 1 [] (show V 3 MX7_runs 43 [some (vR 6 44), some (vZ k)] [vZ (cPa C k), vZ k, vR 8 59] (uI σ1 58 k 0) post from ?_)
        exact fin _ (if_pos ⟨hk0, h9⟩).symm
      · skip
        refine V_run kX7_runs 2 [1] (show (zr k ∧ zr (cn C) ∧ (cn C) ≤ k) ∧ V 3 MX7_runs 43 [some (vR 6 44), some (vZ k)] [vZ 0, vZ k, vR 8 59] (uI σ1 58 k 0) post from ⟨(by omega), ?_⟩)
        exact fin _ (if_neg (by omega)).symm
  show V 3 MX7_runs 0 [some (vR 6 44), none] [] σ post
  refine V_run kX7_runs 5 [] (show V 3 MX7_runs 7 [some (vR 6 44), some (vZ 0)] [] (uI σ 44 19 0) post from ?_)
  exact loop1 12 0 (by omega) (by omega) _ (nFr.s nFr.rf) uI_get (fun j a b => by omega)
