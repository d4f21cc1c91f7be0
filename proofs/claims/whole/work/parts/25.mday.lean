/-- the reference's day: what it may change -/
def mFr (σ σ' : zSt) : Prop := σ'.2 = σ.2 ∧ (∀ a : Nat, (a < 57 ∨ 60 < a) → a ≠ 44 → σ'.1 a = σ.1 a) ∧ ∀ b : Int, b ≠ 19 → σ'.1 44 b = σ.1 44 b
theorem mFr.rf {σ : zSt} : mFr σ σ := ⟨rfl, fun _ _ _ => rfl, fun _ _ => rfl⟩
theorem mFr.tr {σ σ' σ'' : zSt} (h : mFr σ σ') (h2 : mFr σ' σ'') : mFr σ σ'' := ⟨h2.1.trans h.1, fun a x y => (h2.2.1 a x y).trans (h.2.1 a x y), fun b x => (h2.2.2 b x).trans (h.2.2 b x)⟩
theorem mFr.u {σ σ' : zSt} (h : mFr σ σ') {k : Nat} {j v : Int} (h1 : 57 ≤ k) (h2 : k ≤ 60) : mFr σ (uI σ' k j v) := ⟨h.1, fun a x y => by rw [uI_ne (by omega)]; exact h.2.1 a x y, fun b x => by rw [uI_ne (by omega)]; exact h.2.2 b x⟩
theorem mFr.s {σ σ' : zSt} (h : mFr σ σ') {v : Int} : mFr σ (uI σ' 44 19 v) := ⟨h.1, fun a x y => by rw [uI_ne y]; exact h.2.1 a x y, fun b x => by rw [uI_at, if_neg x]; exact h.2.2 b x⟩
def zMd (σ : zSt) (D : zDy) : Prop := σ.1 44 19 = dn D ∧ (∀ j : Int, 0 ≤ j → j < dn D → σ.1 57 j = dq D j) ∧ ∀ k : Int, 0 ≤ k → k < 12 → σ.1 58 k = ds D k ∧ σ.1 59 k = dl D k ∧ σ.1 60 k = dd D k
def zMc (σ : zSt) (C : zCf) : Prop := σ.1 44 2 = cn C ∧ σ.1 44 12 = cE C ∧ (∀ k : Int, 0 ≤ k → k < cn C → σ.1 47 k = cCm C k ∧ σ.1 48 k = cSo C k ∧ σ.1 49 k = cPa C k) ∧ (∀ t : Int, 0 ≤ t → t < 24 → (if t = σ.1 44 17 then σ.1 44 18 else σ.1 50 t) = cWi C t) ∧ (∀ e : Int, 0 ≤ e → e < cE C → σ.1 54 e = cKi C e ∧ σ.1 55 e = cMi C e ∧ σ.1 56 e = cPe C e ∧ cOn C e = !zbt (σ.1 44 16) e) ∧ (zr (σ.1 44 17) ∧ zr (σ.1 44 18)) ∧ zCv C
theorem zMc_fr {σ σ' : zSt} {C : zCf} (h : mFr σ σ') (hc : zMc σ C) : zMc σ' C := by
  unfold zMc at hc ⊢
  rw [h.2.2 2 (by decide), h.2.2 12 (by decide), h.2.2 16 (by decide), h.2.2 17 (by decide), h.2.2 18 (by decide), h.2.1 47 (by omega) (by omega), h.2.1 48 (by omega) (by omega), h.2.1 49 (by omega) (by omega), h.2.1 50 (by omega) (by omega), h.2.1 54 (by omega) (by omega), h.2.1 55 (by omega) (by omega), h.2.1 56 (by omega) (by omega)]
  exact hc
theorem zMc_C {σ : zSt} {C : zCf} (h : zMc σ C) : zCv C := h.2.2.2.2.2.2
set_option maxHeartbeats 4000000 in
set_option maxRecDepth 100000 in
/-- isIn -/
theorem c_M_isIn {x k : Int} {σ : zSt} {post : Option VV → zSt → Prop} (h0 : 0 ≤ k) (h : k < 32) (hp : post (some (vZ (if zbt x k = true then 1 else 0))) σ) : Mc 0 MX7_isIn [vZ x, vZ k] σ post := by
  show V 0 MX7_isIn 0 [some (vZ x), some (vZ k)] [] σ post
  refine V_run kX7_isIn 5 [] (show V 0 MX7_isIn 5 [some (vZ x), some (vZ k)] [vZ (zand (zshr x k) 1)] σ post from ?_)
  refine V_top (zbt_test h0 h) ?_
  by_cases hb : zbt x k = true
  · skip
    rw [if_pos hb] at hp
    rw [if_pos hb]
    show V 0 MX7_isIn 5 [some (vZ x), some (vZ k)] [vZ 1] σ post
    refine V_run kX7_isIn 4 [0] (show (zr 1 ∧ zr 1 ∧ 1 = 1) ∧ V 0 MX7_isIn 14 [some (vZ x), some (vZ k)] [vZ 1] σ post from ⟨(by omega), ?_⟩)
    exact V_zret kX7_isIn rfl rfl (Or.inr rfl) (hp)
  · skip
    rw [if_neg hb] at hp
    rw [if_neg hb]
    show V 0 MX7_isIn 5 [some (vZ x), some (vZ k)] [vZ 0] σ post
    refine V_run kX7_isIn 3 [1] (show (zr 0 ∧ zr 1 ∧ ¬ 0 = 1) ∧ V 0 MX7_isIn 14 [some (vZ x), some (vZ k)] [vZ 0] σ post from ⟨(by omega), ?_⟩)
    exact V_zret kX7_isIn rfl rfl (Or.inl rfl) (hp)
set_option maxHeartbeats 4000000 in
set_option maxRecDepth 100000 in
/-- leaves -/
theorem c_M_leaves {D : zDy} {k p : Int} {σ : zSt} {post : Option VV → zSt → Prop} (hm : zMd σ D) (hn : dn D ≤ 12) (p0 : 0 ≤ p) (p1 : p < dn D) (hpk : dq D p = k) (huni : ∀ i : Int, 0 ≤ i → i < dn D → dq D i = k → i = p) (hrg : ∀ i : Int, 0 ≤ i → i < dn D → 0 ≤ dq D i ∧ dq D i < 12) (hp : ∀ σ' : zSt, mFr σ σ' → zMd σ' (dn D - 1, qRem (dq D) p, ds D, dl D, dd D) → post none σ') : Mc 0 MX7_leaves [vR 6 44, vZ k] σ post := by
  obtain ⟨m1, m2, m3⟩ := id hm
  have hk := hrg p p0 p1
  rw [hpk] at hk
  show V 0 MX7_leaves 0 [some (vR 6 44), some (vZ k), none, none] [] σ post
  refine V_run kX7_leaves 2 [] (show V 0 MX7_leaves 4 [some (vR 6 44), some (vZ k), none, none] [vZ (σ.1 44 19)] σ post from ?_)
  rw [m1]
  show V 0 MX7_leaves 4 [some (vR 6 44), some (vZ k), none, none] [vZ (dn D)] σ post
  refine V_run kX7_leaves 3 [] (show V 0 MX7_leaves 7 [some (vR 6 44), some (vZ k), some (vZ (dn D)), some (vZ 0)] [] σ post from ?_)
  have loop2 : ∀ (m : Nat) (i : Int), p ≤ i → i + m = dn D - 1 → ∀ σ1 : zSt, mFr σ σ1 → σ1.1 44 19 = dn D → (∀ j : Int, 0 ≤ j → j < dn D → σ1.1 57 j = if j < i then qRem (dq D) p j else dq D j) → (∀ a : Nat, 58 ≤ a → σ1.1 a = σ.1 a) → V 0 MX7_leaves 39 [some (vR 6 44), some (vZ k), some (vZ p), some (vZ i)] [] σ1 post := by
    intro m
    induction m with
    | zero =>
      intro i hi0 hi σ1 hf n1 hq hs
      have hin : i = dn D - 1 := by omega
      refine V_run kX7_leaves 5 [] (show V 0 MX7_leaves 46 [some (vR 6 44), some (vZ k), some (vZ p), some (vZ i)] [vZ (σ1.1 44 19), vZ (i + 1)] σ1 post from ?_)
      rw [n1]
      show V 0 MX7_leaves 46 [some (vR 6 44), some (vZ k), some (vZ p), some (vZ i)] [vZ (dn D), vZ (i + 1)] σ1 post
      refine V_run kX7_leaves 7 [1] (show (zr (i + 1) ∧ zr (dn D) ∧ (dn D) ≤ (i + 1)) ∧ V 0 MX7_leaves 79 [some (vR 6 44), some (vZ k), some (vZ p), some (vZ i)] [] (uI σ1 44 19 ((σ1.1 44 19) - 1)) post from ⟨(by omega), ?_⟩)
      rw [n1]
      exact V_vret kX7_leaves rfl rfl (hp _ (mFr.s hf) ⟨uI_get, fun j a b => by rw [uI_ne (by decide), hq j a (by have : j < dn D - 1 := b; omega), if_pos (by have : j < dn D - 1 := b; omega)], fun k a b => by rw [uI_ne (by decide), uI_ne (by decide), uI_ne (by decide), hs 58 (by omega), hs 59 (by omega), hs 60 (by omega)]; exact m3 k a b⟩)
    | succ m ih =>
      intro i hi0 hi σ1 hf n1 hq hs
      refine V_run kX7_leaves 5 [] (show V 0 MX7_leaves 46 [some (vR 6 44), some (vZ k), some (vZ p), some (vZ i)] [vZ (σ1.1 44 19), vZ (i + 1)] σ1 post from ?_)
      rw [n1]
      show V 0 MX7_leaves 46 [some (vR 6 44), some (vZ k), some (vZ p), some (vZ i)] [vZ (dn D), vZ (i + 1)] σ1 post
      refine V_run kX7_leaves 13 [0] (show (zr (i + 1) ∧ zr (dn D) ∧ (i + 1) < (dn D)) ∧ (0 ≤ (i + 1) ∧ (i + 1) < 13) ∧ (0 ≤ i ∧ i < 13) ∧ V 0 MX7_leaves 39 [some (vR 6 44), some (vZ k), some (vZ p), some (vZ (i + 1))] [] (uI σ1 57 i (σ1.1 57 (i + 1))) post from ⟨(by omega), (by omega), (by omega), ?_⟩)
      refine ih (i + 1) (by omega) (by omega) _ (mFr.u hf (by decide) (by decide)) (by rw [uI_ne (by decide)]; exact n1) (fun j a b => ?_) (fun a ha => by rw [uI_ne (by omega)]; exact hs a ha)
      rw [uI_at]
      by_cases hj : j = i
      · rw [if_pos hj, if_pos (by omega), hq (i + 1) (by omega) (by omega), if_neg (by omega)]
        unfold qRem
        rw [if_neg (by omega), hj]
      · rw [if_neg hj, hq j a b]
        by_cases hji : j < i
        · rw [if_pos hji, if_pos (by omega)]
        · rw [if_neg hji, if_neg (by omega)]
  have loop1 : ∀ (m : Nat) (i : Int), 0 ≤ i → i + m = dn D → V 0 MX7_leaves 7 [some (vR 6 44), some (vZ k), some (vZ (if p < i then p else dn D)), some (vZ i)] [] σ post := by
    intro m
    induction m with
    | zero =>
      intro i hi0 hi
      refine V_run kX7_leaves 3 [] (show V 0 MX7_leaves 12 [some (vR 6 44), some (vZ k), some (vZ (if p < i then p else dn D)), some (vZ i)] [vZ (σ.1 44 19), vZ i] σ post from ?_)
      rw [m1]
      show V 0 MX7_leaves 12 [some (vR 6 44), some (vZ k), some (vZ (if p < i then p else dn D)), some (vZ i)] [vZ (dn D), vZ i] σ post
      refine V_run kX7_leaves 3 [1] (show (zr i ∧ zr (dn D) ∧ (dn D) ≤ i) ∧ V 0 MX7_leaves 39 [some (vR 6 44), some (vZ k), some (vZ (if p < i then p else dn D)), some (vZ (if p < i then p else dn D))] [] σ post from ⟨(by omega), ?_⟩)
      rw [if_pos (by omega)]
      exact loop2 (dn D - 1 - p).toNat p (Int.le_refl _) (by omega) σ mFr.rf m1 (fun j a b => by rw [m2 j a b]; split; unfold qRem; rw [if_pos (by assumption)]; rfl) (fun _ _ => rfl)
    | succ m ih =>
      intro i hi0 hi
      have hqi := m2 i hi0 (by omega)
      refine V_run kX7_leaves 3 [] (show V 0 MX7_leaves 12 [some (vR 6 44), some (vZ k), some (vZ (if p < i then p else dn D)), some (vZ i)] [vZ (σ.1 44 19), vZ i] σ post from ?_)
      rw [m1]
      show V 0 MX7_leaves 12 [some (vR 6 44), some (vZ k), some (vZ (if p < i then p else dn D)), some (vZ i)] [vZ (dn D), vZ i] σ post
      refine V_run kX7_leaves 5 [0] (show (zr i ∧ zr (dn D) ∧ i < (dn D)) ∧ (0 ≤ i ∧ i < 13) ∧ V 0 MX7_leaves 21 [some (vR 6 44), some (vZ k), some (vZ (if p < i then p else dn D)), some (vZ i)] [vZ (σ.1 57 i)] σ post from ⟨(by omega), (by omega), ?_⟩)
      refine V_top hqi ?_
      refine V_run kX7_leaves 1 [] (show V 0 MX7_leaves 22 [some (vR 6 44), some (vZ k), some (vZ (if p < i then p else dn D)), some (vZ i)] [vZ k, vZ (dq D i)] σ post from ?_)
      have hzq := hrg i hi0 (by omega)
      by_cases hik : dq D i = k
      · skip
        have hip := huni i hi0 (by omega) hik
        refine V_run kX7_leaves 6 [0] (show (zr (dq D i) ∧ zr k ∧ (dq D i) = k) ∧ V 0 MX7_leaves 7 [some (vR 6 44), some (vZ k), some (vZ i), some (vZ (i + 1))] [] σ post from ⟨(by omega), ?_⟩)
        have h9 := ih (i + 1) (by omega) (by omega)
        rw [if_pos (by omega)] at h9
        rw [← hip] at h9
        exact h9
      · skip
        refine V_run kX7_leaves 5 [1] (show (zr (dq D i) ∧ zr k ∧ ¬ (dq D i) = k) ∧ V 0 MX7_leaves 7 [some (vR 6 44), some (vZ k), some (vZ (if p < i then p else dn D)), some (vZ (i + 1))] [] σ post from ⟨(by omega), ?_⟩)
        have hip : i ≠ p := fun q => hik (by rw [q]; exact hpk)
        have h9 := ih (i + 1) (by omega) (by omega)
        have e9 : (if p < i + 1 then p else dn D) = (if p < i then p else dn D) := by (repeat' split) <;> omega
        rw [e9] at h9
        exact h9
  have h9 := loop1 (dn D).toNat 0 (by omega) (by omega)
  rw [if_neg (by omega)] at h9
  exact h9
set_option maxHeartbeats 4000000 in
set_option maxRecDepth 100000 in
/-- enters -/
theorem c_M_enters {D : zDy} {k pl : Int} {σ : zSt} {post : Option VV → zSt → Prop} (hm : zMd σ D) (hn : dn D ≤ 11) (p0 : 0 ≤ pl) (p1 : pl ≤ dn D) (hp : ∀ σ' : zSt, mFr σ σ' → zMd σ' (dn D + 1, qIns (dq D) pl k, ds D, dl D, dd D) → post none σ') : Mc 0 MX7_enters [vR 6 44, vZ k, vZ pl] σ post := by
  obtain ⟨m1, m2, m3⟩ := id hm
  show V 0 MX7_enters 0 [some (vR 6 44), some (vZ k), some (vZ pl), none] [] σ post
  refine V_run kX7_enters 2 [] (show V 0 MX7_enters 4 [some (vR 6 44), some (vZ k), some (vZ pl), none] [vZ (σ.1 44 19)] σ post from ?_)
  rw [m1]
  show V 0 MX7_enters 4 [some (vR 6 44), some (vZ k), some (vZ pl), none] [vZ (dn D)] σ post
  refine V_run kX7_enters 1 [] (show V 0 MX7_enters 5 [some (vR 6 44), some (vZ k), some (vZ pl), some (vZ (dn D))] [] σ post from ?_)
  have loop : ∀ (m : Nat) (i : Int), i ≤ dn D → pl + m = i → ∀ σ1 : zSt, mFr σ σ1 → σ1.1 44 19 = dn D → (∀ j : Int, 0 ≤ j → j ≤ dn D → (j < i → σ1.1 57 j = dq D j) ∧ (i < j → σ1.1 57 j = dq D (j - 1))) → (∀ a : Nat, 58 ≤ a → σ1.1 a = σ.1 a) → V 0 MX7_enters 5 [some (vR 6 44), some (vZ k), some (vZ pl), some (vZ i)] [] σ1 post := by
    intro m
    induction m with
    | zero =>
      intro i hi0 hi σ1 hf n1 hq hs
      have hin : i = pl := by omega
      refine V_run kX7_enters 14 [1] (show (zr i ∧ zr pl ∧ i ≤ pl) ∧ (0 ≤ pl ∧ pl < 13) ∧ V 0 MX7_enters 47 [some (vR 6 44), some (vZ k), some (vZ pl), some (vZ i)] [] (uI (uI σ1 57 pl k) 44 19 (((uI σ1 57 pl k).1 44 19) + 1)) post from ⟨(by omega), (by omega), ?_⟩)
      rw [show (uI σ1 57 pl k).1 44 19 = dn D by rw [uI_ne (by decide)]; exact n1]
      refine V_vret kX7_enters rfl rfl (hp _ (mFr.s (mFr.u hf (by decide) (by decide))) ⟨uI_get, fun j a b => ?_, fun k a b => by rw [uI_ne (by decide), uI_ne (by decide), uI_ne (by decide), uI_ne (by decide), uI_ne (by decide), uI_ne (by decide), hs 58 (by omega), hs 59 (by omega), hs 60 (by omega)]; exact m3 k a b⟩)
      have b : j < dn D + 1 := b
      rw [uI_ne (by decide), uI_at]
      show _ = qIns (dq D) pl k j
      unfold qIns
      obtain ⟨q1, q2⟩ := hq j a (by omega)
      rcases Int.lt_trichotomy j pl with q | q | q
      · rw [if_neg (by omega), if_pos q]; exact q1 (by omega)
      · rw [if_pos q, if_neg (by omega), if_pos q]
      · rw [if_neg (by omega), if_neg (by omega), if_neg (by omega)]; exact q2 (by omega)
    | succ m ih =>
      intro i hi0 hi σ1 hf n1 hq hs
      refine V_run kX7_enters 15 [0] (show (zr i ∧ zr pl ∧ pl < i) ∧ (0 ≤ (i - 1) ∧ (i - 1) < 13) ∧ (0 ≤ i ∧ i < 13) ∧ V 0 MX7_enters 5 [some (vR 6 44), some (vZ k), some (vZ pl), some (vZ (i + (-1)))] [] (uI σ1 57 i (σ1.1 57 (i - 1))) post from ⟨(by omega), (by omega), (by omega), ?_⟩)
      rw [(hq (i - 1) (by omega) (by omega)).1 (by omega), show i + -1 = i - 1 from rfl]
      refine ih (i - 1) (by omega) (by omega) _ (mFr.u hf (by decide) (by decide)) (by rw [uI_ne (by decide)]; exact n1) (fun j a b => ⟨fun c => ?_, fun c => ?_⟩) (fun a ha => by rw [uI_ne (by omega)]; exact hs a ha)
      · rw [uI_at, if_neg (by omega)]; exact (hq j a b).1 (by omega)
      · rw [uI_at]
        by_cases hj : j = i
        · rw [if_pos hj, hj]
        · rw [if_neg hj]; exact (hq j a b).2 (by omega)
  exact loop (dn D - pl).toNat (dn D) (Int.le_refl _) (by omega) σ mFr.rf m1 (fun j a b => ⟨fun c => m2 j a c, fun c => by omega⟩) (fun _ _ => rfl)
theorem zMd_s {σ : zSt} {D : zDy} {k v : Int} (h : zMd σ D) : zMd (uI σ 58 k v) (dn D, dq D, fPut (ds D) k v, dl D, dd D) := ⟨by rw [uI_ne (by decide)]; exact h.1, fun j a b => by rw [uI_ne (by decide)]; exact h.2.1 j a b, fun x a b => by
  have h3 := h.2.2 x a b
  rw [uI_at, uI_ne (by decide), uI_ne (by decide), h3.1, h3.2.1, h3.2.2]
  exact ⟨rfl, rfl, rfl⟩⟩
theorem zMd_l {σ : zSt} {D : zDy} {k v : Int} (h : zMd σ D) : zMd (uI σ 59 k v) (dn D, dq D, ds D, fPut (dl D) k v, dd D) := ⟨by rw [uI_ne (by decide)]; exact h.1, fun j a b => by rw [uI_ne (by decide)]; exact h.2.1 j a b, fun x a b => by
  have h3 := h.2.2 x a b
  rw [uI_at, uI_ne (by decide), uI_ne (by decide), h3.1, h3.2.1, h3.2.2]
  exact ⟨rfl, rfl, rfl⟩⟩
theorem zMd_d {σ : zSt} {D : zDy} {k v : Int} (h : zMd σ D) : zMd (uI σ 60 k v) (dn D, dq D, ds D, dl D, fPut (dd D) k v) := ⟨by rw [uI_ne (by decide)]; exact h.1, fun j a b => by rw [uI_ne (by decide)]; exact h.2.1 j a b, fun x a b => by
  have h3 := h.2.2 x a b
  rw [uI_at, uI_ne (by decide), uI_ne (by decide), h3.1, h3.2.1, h3.2.2]
  exact ⟨rfl, rfl, rfl⟩⟩
set_option maxHeartbeats 4000000 in
set_option maxRecDepth 100000 in
/-- befalls -/
theorem c_M_befalls {C : zCf} {D : zDy} {e : Int} {σ : zSt} {post : Option VV → zSt → Prop} (hc : zMc σ C) (hm : zMd σ D) (hJ : zJ C D) (e0 : 0 ≤ e) (e1 : e < cE C) (hp : ∀ σ' : zSt, mFr σ σ' → zMd σ' (dBe C e D) → post none σ') : Mc 1 MX7_befalls [vR 6 44, vZ e] σ post := by
  have hC := zMc_C hc
  have hEv := hC.2.2.2.2 e e0 e1
  obtain ⟨m1, m2, m3⟩ := id hm
  have hce := hc.2.2.2.2.1 e e0 e1
  have hE := hC.2.1
  have hn := hC.1
  show V 1 MX7_befalls 0 [some (vR 6 44), some (vZ e), none] [] σ post
  refine V_run kX7_befalls 4 [] (show (0 ≤ e ∧ e < 9) ∧ V 1 MX7_befalls 6 [some (vR 6 44), some (vZ e), none] [vZ (σ.1 56 e)] σ post from ⟨(by omega), ?_⟩)
  refine V_top (hce.2.2.1) ?_
  refine V_run kX7_befalls 4 [] (show V 1 MX7_befalls 12 [some (vR 6 44), some (vZ e), some (vZ (cPe C e))] [vZ (σ.1 44 2), vZ (cPe C e)] σ post from ?_)
  rw [hc.1]
  show V 1 MX7_befalls 12 [some (vR 6 44), some (vZ e), some (vZ (cPe C e))] [vZ (cn C), vZ (cPe C e)] σ post
  rcases Int.lt_or_le (cPe C e) (cn C) with h1 | h1
  · skip
    have hs := m3 (cPe C e) (by omega) (by omega)
    have hsr := hJ.2.2.2.2.2.2.1 (cPe C e)
    refine V_run kX7_befalls 5 [0] (show (zr (cPe C e) ∧ zr (cn C) ∧ (cPe C e) < (cn C)) ∧ (0 ≤ (cPe C e) ∧ (cPe C e) < 12) ∧ V 1 MX7_befalls 21 [some (vR 6 44), some (vZ e), some (vZ (cPe C e))] [vZ (σ.1 58 (cPe C e))] σ post from ⟨(by omega), (by omega), ?_⟩)
    refine V_top (hs.1) ?_
    refine V_run kX7_befalls 1 [] (show V 1 MX7_befalls 22 [some (vR 6 44), some (vZ e), some (vZ (cPe C e))] [vZ 1, vZ (ds D (cPe C e))] σ post from ?_)
    by_cases h2 : ds D (cPe C e) = 1
    · skip
      have hno : ¬ (cn C ≤ cPe C e ∨ ds D (cPe C e) ≠ 1) := fun q => by rcases q with q | q; omega; exact q h2
      obtain ⟨p0, p1, p2⟩ := dPos_in hJ (by omega) h1 h2
      have hdB : dBe C e D = _ := if_neg hno
      refine V_run kX7_befalls 3 [1] (show (zr (ds D (cPe C e)) ∧ zr 1 ∧ (ds D (cPe C e)) = 1) ∧ V 1 MX7_befalls 28 [some (vR 6 44), some (vZ e), some (vZ (cPe C e))] [vZ (cPe C e), vR 6 44] σ post from ⟨(by omega), ?_⟩)
      refine V_callV (a := [vZ (cPe C e)]) (rest := []) kX7_befalls rfl oX7_leaves iX7_leaves lk_7_189 rfl rfl rfl (Nat.le_of_ble_eq_true rfl) (Nat.le_of_ble_eq_true rfl) (Nat.le_of_ble_eq_true rfl) (post' := fun zv zσ => V 1 MX7_befalls 31 [some (vR 6 44), some (vZ e), some (vZ (cPe C e))] (zv.toList ++ []) zσ post) (c_M_leaves hm hJ.1.2 p0 p1 p2 (fun i a b c => hJ.2.2.1 i _ a b p0 p1 (c.trans p2.symm)) (fun i a b => ⟨(hJ.2.1 i a b).1.1, by have := (hJ.2.1 i a b).1.2; omega⟩) (fun σ1 hf1 hm1 => (show V 1 MX7_befalls 31 [some (vR 6 44), some (vZ e), some (vZ (cPe C e))] [] σ1 post from ?_))) (fun _ _ h => h)
      have hc1 := (zMc_fr hf1 hc).2.2.2.2.1 e e0 e1
      refine V_run kX7_befalls 4 [] (show (0 ≤ e ∧ e < 9) ∧ V 1 MX7_befalls 37 [some (vR 6 44), some (vZ e), some (vZ (cPe C e))] [vZ (σ1.1 54 e)] σ1 post from ⟨(by omega), ?_⟩)
      refine V_top (hc1.1) ?_
      by_cases h3 : cKi C e = 0
      · skip
        refine V_run kX7_befalls 7 [0] (show (zr (cKi C e) ∧ (cKi C e) = 0) ∧ (0 ≤ (cPe C e) ∧ (cPe C e) < 12) ∧ V 1 MX7_befalls 73 [some (vR 6 44), some (vZ e), some (vZ (cPe C e))] [] (uI σ1 58 (cPe C e) 3) post from ⟨(by omega), (by omega), ?_⟩)
        rw [hdB, if_pos h3] at hp
        exact V_vret kX7_befalls rfl rfl (hp _ (mFr.u hf1 (by decide) (by decide)) (zMd_s hm1))
      · skip
        rw [hdB, if_neg h3] at hp
        refine V_run kX7_befalls 7 [1] (show (zr (cKi C e) ∧ ¬ (cKi C e) = 0) ∧ (0 ≤ e ∧ e < 9) ∧ V 1 MX7_befalls 58 [some (vR 6 44), some (vZ e), some (vZ (cPe C e))] [vZ (σ1.1 54 e), vZ (cPe C e), vR 6 44] σ1 post from ⟨(by omega), (by omega), ?_⟩)
        refine V_top (hc1.1) ?_
        refine V_run kX7_befalls 1 [] (show V 1 MX7_befalls 59 [some (vR 6 44), some (vZ e), some (vZ (cPe C e))] [vZ 1, vZ (cKi C e), vZ (cPe C e), vR 6 44] σ1 post from ?_)
        by_cases h4 : cKi C e = 1
        · skip
          rw [if_pos h4] at hp
          refine V_run kX7_befalls 3 [0] (show (zr (cKi C e) ∧ zr 1 ∧ (cKi C e) = 1) ∧ V 1 MX7_befalls 70 [some (vR 6 44), some (vZ e), some (vZ (cPe C e))] [vZ 0, vZ (cPe C e), vR 6 44] σ1 post from ⟨(by omega), ?_⟩)
          refine V_callV (a := [vZ (cPe C e), vZ 0]) (rest := []) kX7_befalls rfl oX7_enters iX7_enters lk_7_193 rfl rfl rfl (Nat.le_of_ble_eq_true rfl) (Nat.le_of_ble_eq_true rfl) (Nat.le_of_ble_eq_true rfl) (post' := fun zv zσ => V 1 MX7_befalls 73 [some (vR 6 44), some (vZ e), some (vZ (cPe C e))] (zv.toList ++ []) zσ post) (c_M_enters hm1 (by show dn D - 1 ≤ 11; have := hJ.1; omega) (by omega) (by show 0 ≤ dn D - 1; omega) (fun σ2 hf2 hm2 => (show V 1 MX7_befalls 73 [some (vR 6 44), some (vZ e), some (vZ (cPe C e))] [] σ2 post from ?_))) (fun _ _ h => h)
          rw [show ∀ (q : Int → Int), ((dn D - 1, q, ds D, dl D, dd D) : zDy).1 + 1 = dn D from fun _ => Int.sub_add_cancel _ _] at hm2
          exact V_vret kX7_befalls rfl rfl (hp _ (hf1.tr hf2) hm2)
        · skip
          rw [if_neg h4] at hp
          refine V_run kX7_befalls 3 [1] (show (zr (cKi C e) ∧ zr 1 ∧ ¬ (cKi C e) = 1) ∧ V 1 MX7_befalls 70 [some (vR 6 44), some (vZ e), some (vZ (cPe C e))] [vZ (σ1.1 44 19), vZ (cPe C e), vR 6 44] σ1 post from ⟨(by omega), ?_⟩)
          refine V_top (hm1.1) ?_
          refine V_callV (a := [vZ (cPe C e), vZ (dn D - 1)]) (rest := []) kX7_befalls rfl oX7_enters iX7_enters lk_7_193 rfl rfl rfl (Nat.le_of_ble_eq_true rfl) (Nat.le_of_ble_eq_true rfl) (Nat.le_of_ble_eq_true rfl) (post' := fun zv zσ => V 1 MX7_befalls 73 [some (vR 6 44), some (vZ e), some (vZ (cPe C e))] (zv.toList ++ []) zσ post) (c_M_enters hm1 (by show dn D - 1 ≤ 11; have := hJ.1; omega) (by omega) (by show dn D - 1 ≤ dn D - 1; omega) (fun σ2 hf2 hm2 => (show V 1 MX7_befalls 73 [some (vR 6 44), some (vZ e), some (vZ (cPe C e))] [] σ2 post from ?_))) (fun _ _ h => h)
          rw [show ∀ (q : Int → Int), ((dn D - 1, q, ds D, dl D, dd D) : zDy).1 + 1 = dn D from fun _ => Int.sub_add_cancel _ _] at hm2
          exact V_vret kX7_befalls rfl rfl (hp _ (hf1.tr hf2) hm2)
    · skip
      have hdB : dBe C e D = D := if_pos (Or.inr h2)
      refine V_run kX7_befalls 1 [0] (show (zr (ds D (cPe C e)) ∧ zr 1 ∧ ¬ (ds D (cPe C e)) = 1) ∧ V 1 MX7_befalls 25 [some (vR 6 44), some (vZ e), some (vZ (cPe C e))] [] σ post from ⟨(by omega), ?_⟩)
      rw [hdB] at hp
      exact V_vret kX7_befalls rfl rfl (hp _ mFr.rf hm)
  · skip
    have hdB : dBe C e D = D := if_pos (Or.inl h1)
    refine V_run kX7_befalls 1 [1] (show (zr (cPe C e) ∧ zr (cn C) ∧ (cn C) ≤ (cPe C e)) ∧ V 1 MX7_befalls 25 [some (vR 6 44), some (vZ e), some (vZ (cPe C e))] [] σ post from ⟨(by omega), ?_⟩)
    rw [hdB] at hp
    exact V_vret kX7_befalls rfl rfl (hp _ mFr.rf hm)
set_option maxHeartbeats 4000000 in
set_option maxRecDepth 100000 in
/-- comesIn -/
theorem c_M_comesIn {C : zCf} {D : zDy} {k : Int} {σ : zSt} {post : Option VV → zSt → Prop} (hc : zMc σ C) (hm : zMd σ D) (hJ : zJ C D) (hroom : dn D ≤ 11) (k0 : 0 ≤ k) (k1 : k < cn C) (hp : ∀ σ' : zSt, mFr σ σ' → zMd σ' (dCo C k D) → post none σ') : Mc 1 MX7_comesIn [vR 6 44, vZ k] σ post := by
  have hC := zMc_C hc
  obtain ⟨m1, m2, m3⟩ := id hm
  have hck := hc.2.2.1 k k0 k1
  have hn := hC.1
  have hnD := hJ.1
  have hso := (hC.2.2.1 k k0 k1).2.1
  obtain ⟨pl, hpl⟩ : ∃ x, x = if cSo C k = 0 then dn D / 2 else if cSo C k = 1 then dn D / 3 else dn D := ⟨_, rfl⟩
  have hpl2 : 0 ≤ pl ∧ pl ≤ dn D := by rw [hpl]; (repeat' split) <;> omega
  unfold dCo at hp
  rw [← hpl] at hp
  show V 1 MX7_comesIn 0 [some (vR 6 44), some (vZ k)] [] σ post
  refine V_run kX7_comesIn 6 [] (show (0 ≤ k ∧ k < 13) ∧ V 1 MX7_comesIn 8 [some (vR 6 44), some (vZ k)] [vZ (σ.1 48 k), vZ k, vR 6 44] σ post from ⟨(by omega), ?_⟩)
  refine V_top (hck.2.1) ?_
  by_cases h1 : cSo C k = 0
  · skip
    refine V_run kX7_comesIn 3 [0] (show (zr (cSo C k) ∧ (cSo C k) = 0) ∧ V 1 MX7_comesIn 15 [some (vR 6 44), some (vZ k)] [vZ (σ.1 44 19), vZ k, vR 6 44] σ post from ⟨(by omega), ?_⟩)
    refine V_top (m1) ?_
    refine V_run kX7_comesIn 3 [] (show (0 ≤ (dn D) ∧ (dn D) < 2147483648 ∧ 0 < 2 ∧ 2 < 2147483648) ∧ V 1 MX7_comesIn 43 [some (vR 6 44), some (vZ k)] [vZ ((dn D) / 2), vZ k, vR 6 44] σ post from ⟨(by omega), ?_⟩)
    refine V_top (y := pl) (by rw [hpl]; first | rw [if_pos (by assumption)] | (rw [if_neg (by assumption)]; first | rw [if_pos (by assumption)] | rw [if_neg (by assumption)])) ?_
    refine V_callV (a := [vZ k, vZ pl]) (rest := []) kX7_comesIn rfl oX7_enters iX7_enters lk_7_193 rfl rfl rfl (Nat.le_of_ble_eq_true rfl) (Nat.le_of_ble_eq_true rfl) (Nat.le_of_ble_eq_true rfl) (post' := fun zv zσ => V 1 MX7_comesIn 46 [some (vR 6 44), some (vZ k)] (zv.toList ++ []) zσ post) (c_M_enters hm hroom hpl2.1 hpl2.2 (fun σ1 hf1 hm1 => (show V 1 MX7_comesIn 46 [some (vR 6 44), some (vZ k)] [] σ1 post from ?_))) (fun _ _ h => h)
    refine V_run kX7_comesIn 5 [] (show (0 ≤ k ∧ k < 12) ∧ V 1 MX7_comesIn 53 [some (vR 6 44), some (vZ k)] [] (uI σ1 58 k 1) post from ⟨(by omega), ?_⟩)
    exact V_vret kX7_comesIn rfl rfl (hp _ (mFr.u hf1 (by decide) (by decide)) (zMd_s hm1))
  · skip
    refine V_run kX7_comesIn 5 [1] (show (zr (cSo C k) ∧ ¬ (cSo C k) = 0) ∧ (0 ≤ k ∧ k < 13) ∧ V 1 MX7_comesIn 26 [some (vR 6 44), some (vZ k)] [vZ (σ.1 48 k), vZ k, vR 6 44] σ post from ⟨(by omega), (by omega), ?_⟩)
    refine V_top (hck.2.1) ?_
    refine V_run kX7_comesIn 1 [] (show V 1 MX7_comesIn 27 [some (vR 6 44), some (vZ k)] [vZ 1, vZ (cSo C k), vZ k, vR 6 44] σ post from ?_)
    by_cases h2 : cSo C k = 1
    · skip
      refine V_run kX7_comesIn 3 [0] (show (zr (cSo C k) ∧ zr 1 ∧ (cSo C k) = 1) ∧ V 1 MX7_comesIn 34 [some (vR 6 44), some (vZ k)] [vZ (σ.1 44 19), vZ k, vR 6 44] σ post from ⟨(by omega), ?_⟩)
      refine V_top (m1) ?_
      refine V_run kX7_comesIn 3 [] (show (0 ≤ (dn D) ∧ (dn D) < 2147483648 ∧ 0 < 3 ∧ 3 < 2147483648) ∧ V 1 MX7_comesIn 43 [some (vR 6 44), some (vZ k)] [vZ ((dn D) / 3), vZ k, vR 6 44] σ post from ⟨(by omega), ?_⟩)
      refine V_top (y := pl) (by rw [hpl]; first | rw [if_pos (by assumption)] | (rw [if_neg (by assumption)]; first | rw [if_pos (by assumption)] | rw [if_neg (by assumption)])) ?_
      refine V_callV (a := [vZ k, vZ pl]) (rest := []) kX7_comesIn rfl oX7_enters iX7_enters lk_7_193 rfl rfl rfl (Nat.le_of_ble_eq_true rfl) (Nat.le_of_ble_eq_true rfl) (Nat.le_of_ble_eq_true rfl) (post' := fun zv zσ => V 1 MX7_comesIn 46 [some (vR 6 44), some (vZ k)] (zv.toList ++ []) zσ post) (c_M_enters hm hroom hpl2.1 hpl2.2 (fun σ1 hf1 hm1 => (show V 1 MX7_comesIn 46 [some (vR 6 44), some (vZ k)] [] σ1 post from ?_))) (fun _ _ h => h)
      refine V_run kX7_comesIn 5 [] (show (0 ≤ k ∧ k < 12) ∧ V 1 MX7_comesIn 53 [some (vR 6 44), some (vZ k)] [] (uI σ1 58 k 1) post from ⟨(by omega), ?_⟩)
      exact V_vret kX7_comesIn rfl rfl (hp _ (mFr.u hf1 (by decide) (by decide)) (zMd_s hm1))
    · skip
      refine V_run kX7_comesIn 3 [1] (show (zr (cSo C k) ∧ zr 1 ∧ ¬ (cSo C k) = 1) ∧ V 1 MX7_comesIn 43 [some (vR 6 44), some (vZ k)] [vZ (σ.1 44 19), vZ k, vR 6 44] σ post from ⟨(by omega), ?_⟩)
      refine V_top (m1) ?_
      refine V_top (y := pl) (by rw [hpl]; first | rw [if_pos (by assumption)] | (rw [if_neg (by assumption)]; first | rw [if_pos (by assumption)] | rw [if_neg (by assumption)])) ?_
      refine V_callV (a := [vZ k, vZ pl]) (rest := []) kX7_comesIn rfl oX7_enters iX7_enters lk_7_193 rfl rfl rfl (Nat.le_of_ble_eq_true rfl) (Nat.le_of_ble_eq_true rfl) (Nat.le_of_ble_eq_true rfl) (post' := fun zv zσ => V 1 MX7_comesIn 46 [some (vR 6 44), some (vZ k)] (zv.toList ++ []) zσ post) (c_M_enters hm hroom hpl2.1 hpl2.2 (fun σ1 hf1 hm1 => (show V 1 MX7_comesIn 46 [some (vR 6 44), some (vZ k)] [] σ1 post from ?_))) (fun _ _ h => h)
      refine V_run kX7_comesIn 5 [] (show (0 ≤ k ∧ k < 12) ∧ V 1 MX7_comesIn 53 [some (vR 6 44), some (vZ k)] [] (uI σ1 58 k 1) post from ⟨(by omega), ?_⟩)
      exact V_vret kX7_comesIn rfl rfl (hp _ (mFr.u hf1 (by decide) (by decide)) (zMd_s hm1))
