/-- the two texts -/
def RT (σ : zSt) (S : zAb) : Prop := (σ.1 1 0 = 1 ∧ σ.1 1 2 = a_pN S ∧ ∀ i : Int, 0 ≤ i → i < a_pN S → σ.1 2 i = a_pF S i) ∧ σ.1 3 0 = 0 ∧ σ.1 3 2 = a_wN S ∧ ∀ i : Int, 0 ≤ i → i < a_wN S → σ.1 4 i = a_wF S i
/-- the events told -/
def RE (σ : zSt) (S : zAb) : Prop := σ.1 5 5 = a_eN S ∧ (∀ e : Int, 0 ≤ e → e < a_eN S → σ.1 9 e = a_eK S e ∧ σ.1 10 e = a_eM S e ∧ σ.1 11 e = a_eP S e) ∧ ∀ t : Int, 0 ≤ t → t < 24 → zr (σ.1 13 t) ∧ ∀ e : Int, 0 ≤ e → e < 9 → zbt (σ.1 13 t) e = decide (e < a_eN S ∧ a_eM S e = t)
def RX (σ : zSt) : Prop := ∀ k : Int, 0 ≤ k → k < 12 → 0 ≤ σ.1 6 k ∧ σ.1 6 k ≤ 23
/-- the sightings -/
def RG (σ : zSt) (S : zAb) : Prop := σ.1 29 3 = a_sN S ∧ ∀ i : Int, 0 ≤ i → i < a_sN S → σ.1 30 i = a_sM S i ∧ σ.1 31 i = a_sP S i ∧ σ.1 32 i = aW S i
/-- the sheets -/
def RS (σ : zSt) (S : zAb) : Prop := ∀ s : Int, 0 ≤ s → s < 4 → σ.1 (33 + 1 + 2 * s.toNat) 1 = a_hF S s ∧ σ.1 (33 + 1 + 2 * s.toNat) 2 = a_hN S s ∧ (a_hF S s ≠ -1 → ∀ i : Int, 0 ≤ i → i < 60 → σ.1 (33 + 1 + 2 * s.toNat + 1) i = a_hI S s i)
def cOnly (C : zCf) (x : Int) : zCf := (cn C, cE C, cCm C, cSo C, cPa C, cWi C, cKi C, cMi C, cPe C, fun e => zbt x e)
/-- who is served by each choice -/
def RK (σ : zSt) (S : zAb) : Prop := (σ.1 0 10 = 0 ∨ σ.1 0 10 = 1) ∧ (σ.1 0 10 = 1 → ∀ x : Int, 0 ≤ x → x < ((2 ^ (a_eN S).toNat : Nat) : Int) → σ.1 43 x = zSvb (cOnly (aC S) x) (cn (aC S)).toNat 0 0)
def RC (σ : zSt) (S : zAb) : Prop := RT σ S ∧ zPx σ 5 (aC S) ∧ zCo σ 23 (aC S) 24 ∧ RG σ S ∧ RS σ S ∧ RK σ S ∧ σ.1 0 11 = a_fnd S
/-- what a trial may change -/
def dTr (σ σ' : zSt) : Prop := ∀ a : Nat, ¬ ((14 ≤ a ∧ a ≤ 22) ∨ (26 ≤ a ∧ a ≤ 28) ∨ a = 42) → σ'.1 a = σ.1 a ∧ σ'.2 a = σ.2 a
theorem dTr.rf {σ : zSt} : dTr σ σ := fun _ _ => ⟨rfl, rfl⟩
theorem dTr.tr {σ σ' σ'' : zSt} (h : dTr σ σ') (h2 : dTr σ' σ'') : dTr σ σ'' := fun a x => ⟨(h2 a x).1.trans (h a x).1, (h2 a x).2.trans (h a x).2⟩
/-- the reference's cells stay -/
def dK (σ σ' : zSt) : Prop := ∀ a : Nat, 44 ≤ a → σ'.1 a = σ.1 a ∧ σ'.2 a = σ.2 a
theorem dK.rf {σ : zSt} : dK σ σ := fun _ _ => ⟨rfl, rfl⟩
theorem dK.tr {σ σ' σ'' : zSt} (h : dK σ σ') (h2 : dK σ' σ'') : dK σ σ'' := fun a x => ⟨(h2 a x).1.trans (h a x).1, (h2 a x).2.trans (h a x).2⟩
theorem dTr.k {σ σ' : zSt} (h : dTr σ σ') : dK σ σ' := fun a x => h a (by omega)
theorem zCo_cong {σ σ' : zSt} {b : Nat} {C : zCf} {T : Int} (h0 : σ'.1 b 2 = σ.1 b 2) (h1 : σ'.2 (b + 1) = σ.2 (b + 1)) (h2 : σ'.2 (b + 2) = σ.2 (b + 2)) (h3 : σ'.2 b = σ.2 b) (h : zCo σ b C T) : zCo σ' b C T := by
  unfold zCo at h ⊢; rw [h0, h1, h2, h3]; exact h
theorem RT_c {σ σ' : zSt} {S : zAb} (h1 : σ'.1 1 = σ.1 1) (h2 : σ'.1 2 = σ.1 2) (h3 : σ'.1 3 = σ.1 3) (h4 : σ'.1 4 = σ.1 4) (h : RT σ S) : RT σ' S := by unfold RT at h ⊢; rw [h1, h2, h3, h4]; exact h
theorem RG_c {σ σ' : zSt} {S : zAb} (h1 : σ'.1 29 = σ.1 29) (h2 : σ'.1 30 = σ.1 30) (h3 : σ'.1 31 = σ.1 31) (h4 : σ'.1 32 = σ.1 32) (h : RG σ S) : RG σ' S := by unfold RG at h ⊢; rw [h1, h2, h3, h4]; exact h
theorem RS_c {σ σ' : zSt} {S : zAb} (h1 : ∀ a : Nat, 34 ≤ a → a ≤ 41 → σ'.1 a = σ.1 a) (h : RS σ S) : RS σ' S := fun s s0 s1 => by
  have z := h s s0 s1
  rw [h1 _ (by omega) (by omega), h1 _ (by omega) (by omega)]; exact z
theorem RK_c {σ σ' : zSt} {S : zAb} (h1 : σ'.1 0 10 = σ.1 0 10) (h2 : σ'.1 43 = σ.1 43) (h : RK σ S) : RK σ' S := by unfold RK at h ⊢; rw [h1, h2]; exact h
theorem RK_0 {σ : zSt} {S : zAb} (h : σ.1 0 10 = 0) : RK σ S := ⟨Or.inl h, fun q => absurd (h.symm.trans q) (by decide)⟩
theorem RC_tr {σ σ' : zSt} {S : zAb} (h : dTr σ σ') (hR : RC σ S) : RC σ' S := by
  obtain ⟨h1, h2, h3, h4, h5, h6, h7⟩ := hR
  exact ⟨RT_c (h 1 (by omega)).1 (h 2 (by omega)).1 (h 3 (by omega)).1 (h 4 (by omega)).1 h1, zPx_cong (fun k a b => (h k (by omega)).1) (h 5 (by omega)).2 h2, zCo_cong (by rw [(h 23 (by omega)).1]) (h 24 (by omega)).2 (h 25 (by omega)).2 (h 23 (by omega)).2 h3, RG_c (h 29 (by omega)).1 (h 30 (by omega)).1 (h 31 (by omega)).1 (h 32 (by omega)).1 h4, RS_c (fun a x y => (h a (by omega)).1) h5, RK_c (by rw [(h 0 (by omega)).1]) (h 43 (by omega)).1 h6, by rw [(h 0 (by omega)).1]; exact h7⟩
theorem RT_1 {σ : zSt} {S : zAb} (h : RT σ S) (ho : aOk S) : zTx σ 1 := by
  obtain ⟨⟨h1, h2, h3⟩, -⟩ := h
  refine ⟨Or.inr h1, by rw [h2]; exact ho.1.1, by rw [h2]; exact ho.1.2.1, by decide, fun i a b => ?_⟩
  rw [h2] at b
  show 0 ≤ σ.1 2 i ∧ σ.1 2 i ≤ 255
  rw [h3 i a b]; exact ho.1.2.2 i a b
theorem RT_3 {σ : zSt} {S : zAb} (h : RT σ S) (ho : aOk S) : zTx σ 3 := by
  obtain ⟨-, h1, h2, h3⟩ := h
  refine ⟨Or.inl h1, by rw [h2]; exact ho.2.1.1, by rw [h2]; exact ho.2.1.2.1, by decide, fun i a b => ?_⟩
  rw [h2] at b
  show 0 ≤ σ.1 4 i ∧ σ.1 4 i ≤ 255
  rw [h3 i a b]; exact ho.2.1.2.2 i a b
theorem RT_w1 {σ : zSt} {S : zAb} (h : RT σ S) : zwho 1 (σ.1 2) (σ.1 1 2) = zwho 1 (a_pF S) (a_pN S) ∧ zflt 1 (σ.1 2) (σ.1 1 2) = zflt 1 (a_pF S) (a_pN S) := by rw [h.1.2.1]; exact ⟨zwho_c h.1.2.2, zflt_c h.1.2.2⟩
theorem RT_w3 {σ : zSt} {S : zAb} (h : RT σ S) : zwho 0 (σ.1 4) (σ.1 3 2) = zwho 0 (a_wF S) (a_wN S) ∧ zflt 0 (σ.1 4) (σ.1 3 2) = zflt 0 (a_wF S) (a_wN S) := by rw [h.2.2.1]; exact ⟨zwho_c h.2.2.2, zflt_c h.2.2.2⟩
theorem zl_sh {s : Int} {b : Nat} (s0 : 0 ≤ s) (s1 : s < 4) (hb : 33 + 1 + 2 * s.toNat = b) : zlen (b + 1) = 60 := by
  have h : s = 0 ∨ s = 1 ∨ s = 2 ∨ s = 3 := by omega
  rcases h with h | h | h | h <;> (subst h; subst hb; rfl)
set_option maxHeartbeats 4000000 in
set_option maxRecDepth 100000 in
/-- isFrom0To -/
theorem c_N_from {n m : Int} {σ : zSt} {post : Option VV → zSt → Prop} (hn : zr n) (hm : zr m) (hp : post (some (vZ (if 0 ≤ n ∧ n ≤ m then 1 else 0))) σ) : Mc 0 MX6_isFrom0To [vZ n, vZ m] σ post := by
  show V 0 MX6_isFrom0To 0 [some (vZ n), some (vZ m)] [] σ post
  refine V_run kX6_isFrom0To 1 [] (show V 0 MX6_isFrom0To 1 [some (vZ n), some (vZ m)] [vZ n] σ post from ?_)
  rcases Int.lt_or_le n 0 with h1 | h1
  · skip
    rw [if_neg (by omega)] at hp
    refine V_run kX6_isFrom0To 2 [1] (show (zr n ∧ n < 0) ∧ V 0 MX6_isFrom0To 14 [some (vZ n), some (vZ m)] [vZ 0] σ post from ⟨(by omega), ?_⟩)
    exact V_zret kX6_isFrom0To rfl rfl (Or.inl rfl) (hp)
  · skip
    refine V_run kX6_isFrom0To 3 [0] (show (zr n ∧ 0 ≤ n) ∧ V 0 MX6_isFrom0To 6 [some (vZ n), some (vZ m)] [vZ m, vZ n] σ post from ⟨(by omega), ?_⟩)
    rcases Int.lt_or_le m n with h2 | h2
    · skip
      rw [if_neg (by omega)] at hp
      refine V_run kX6_isFrom0To 2 [1] (show (zr n ∧ zr m ∧ m < n) ∧ V 0 MX6_isFrom0To 14 [some (vZ n), some (vZ m)] [vZ 0] σ post from ⟨(by omega), ?_⟩)
      exact V_zret kX6_isFrom0To rfl rfl (Or.inl rfl) (hp)
    · skip
      rw [if_pos ⟨h1, h2⟩] at hp
      refine V_run kX6_isFrom0To 3 [0] (show (zr n ∧ zr m ∧ n ≤ m) ∧ V 0 MX6_isFrom0To 14 [some (vZ n), some (vZ m)] [vZ 1] σ post from ⟨(by omega), ?_⟩)
      exact V_zret kX6_isFrom0To rfl rfl (Or.inr rfl) (hp)
set_option maxHeartbeats 4000000 in
set_option maxRecDepth 100000 in
/-- isMinute -/
theorem c_N_isMinute {n : Int} {σ : zSt} {post : Option VV → zSt → Prop} (hn : zr n) (hp : post (some (vZ (if 0 ≤ n ∧ n ≤ 23 then 1 else 0))) σ) : Mc 1 MX6_isMinute [vZ n] σ post := by
  show V 1 MX6_isMinute 0 [some (vZ n)] [] σ post
  refine V_run kX6_isMinute 2 [] (show V 1 MX6_isMinute 3 [some (vZ n)] [vZ 23, vZ n] σ post from ?_)
  refine V_callS (a := [vZ n, vZ 23]) (rest := []) kX6_isMinute rfl oX6_isFrom0To iX6_isFrom0To lk_6_91 rfl rfl (Nat.le_of_ble_eq_true rfl) (Nat.le_of_ble_eq_true rfl) (Nat.le_of_ble_eq_true rfl) (post' := fun zv zσ => V 1 MX6_isMinute 6 [some (vZ n)] (zv.toList ++ []) zσ post) (c_N_from hn (by decide) ((show V 1 MX6_isMinute 6 [some (vZ n)] [vZ (if 0 ≤ n ∧ n ≤ 23 then 1 else 0)] σ post from ?_))) (fun _ _ h => h)
  exact V_zret kX6_isMinute rfl rfl (by split; exact Or.inr rfl; exact Or.inl rfl) (hp)
set_option maxHeartbeats 4000000 in
set_option maxRecDepth 100000 in
/-- isForm -/
theorem c_N_isForm {n : Int} {σ : zSt} {post : Option VV → zSt → Prop} (hn : zr n) (hp : post (some (vZ (if 0 ≤ n ∧ n ≤ 2 then 1 else 0))) σ) : Mc 1 MX6_isForm [vZ n] σ post := by
  show V 1 MX6_isForm 0 [some (vZ n)] [] σ post
  refine V_run kX6_isForm 2 [] (show V 1 MX6_isForm 2 [some (vZ n)] [vZ 2, vZ n] σ post from ?_)
  refine V_callS (a := [vZ n, vZ 2]) (rest := []) kX6_isForm rfl oX6_isFrom0To iX6_isFrom0To lk_6_91 rfl rfl (Nat.le_of_ble_eq_true rfl) (Nat.le_of_ble_eq_true rfl) (Nat.le_of_ble_eq_true rfl) (post' := fun zv zσ => V 1 MX6_isForm 5 [some (vZ n)] (zv.toList ++ []) zσ post) (c_N_from hn (by decide) ((show V 1 MX6_isForm 5 [some (vZ n)] [vZ (if 0 ≤ n ∧ n ≤ 2 then 1 else 0)] σ post from ?_))) (fun _ _ h => h)
  exact V_zret kX6_isForm rfl rfl (by split; exact Or.inr rfl; exact Or.inl rfl) (hp)
set_option maxHeartbeats 4000000 in
set_option maxRecDepth 100000 in
/-- isPerson -/
theorem c_N_isPerson {C : zCf} {k : Int} {σ : zSt} {post : Option VV → zSt → Prop} (hC : zCv C) (hn0 : σ.1 5 0 = cn C) (hk : zr k) (hp : post (some (vZ (if 0 ≤ k ∧ k < cn C then 1 else 0))) σ) : Mc 1 MX6_isPerson [vR 5 0, vZ k] σ post := by
  have hcn := hC.1
  show V 1 MX6_isPerson 0 [some (vR 5 0), some (vZ k)] [] σ post
  refine V_run kX6_isPerson 3 [] (show V 1 MX6_isPerson 5 [some (vR 5 0), some (vZ k)] [vR 1 5, vZ k] σ post from ?_)
  refine V_callV (a := []) (rest := [vZ k]) kX6_isPerson rfl oX2_people iX2_people lk_6_168 rfl rfl rfl (Nat.le_of_ble_eq_true rfl) (Nat.le_of_ble_eq_true rfl) (Nat.le_of_ble_eq_true rfl) (post' := fun zv zσ => V 1 MX6_isPerson 8 [some (vR 5 0), some (vZ k)] (zv.toList ++ [vZ k]) zσ post) (c_P_people (b := 5) ((show V 1 MX6_isPerson 8 [some (vR 5 0), some (vZ k)] [vZ (σ.1 5 0), vZ k] σ post from ?_))) (fun _ _ h => h)
  refine V_top (hn0) ?_
  refine V_run kX6_isPerson 2 [] (show V 1 MX6_isPerson 10 [some (vR 5 0), some (vZ k)] [vZ ((cn C) - 1), vZ k] σ post from ?_)
  refine V_callS (a := [vZ k, vZ ((cn C) - 1)]) (rest := []) kX6_isPerson rfl oX6_isFrom0To iX6_isFrom0To lk_6_91 rfl rfl (Nat.le_of_ble_eq_true rfl) (Nat.le_of_ble_eq_true rfl) (Nat.le_of_ble_eq_true rfl) (post' := fun zv zσ => V 1 MX6_isPerson 13 [some (vR 5 0), some (vZ k)] (zv.toList ++ []) zσ post) (c_N_from hk (by omega) ((show V 1 MX6_isPerson 13 [some (vR 5 0), some (vZ k)] [vZ (if 0 ≤ k ∧ k ≤ cn C - 1 then 1 else 0)] σ post from ?_))) (fun _ _ h => h)
  refine V_top (show (if 0 ≤ k ∧ k ≤ cn C - 1 then (1 : Int) else 0) = (if 0 ≤ k ∧ k < cn C then 1 else 0) by (repeat' split) <;> omega) ?_
  exact V_zret kX6_isPerson rfl rfl (by split; exact Or.inr rfl; exact Or.inl rfl) (hp)
set_option maxHeartbeats 4000000 in
set_option maxRecDepth 100000 in
/-- textOf -/
theorem c_N_textOf0 {x : Int} {σ : zSt} {post : Option VV → zSt → Prop} (hx : x = 0) (hp : post (some (vR 4 1)) σ) : Mc 0 MX6_textOf [vR 5 0, vZ x] σ post := by
  show V 0 MX6_textOf 0 [some (vR 5 0), some (vZ x)] [] σ post
  refine V_run kX6_textOf 4 [0] (show (zr x ∧ x = 0) ∧ V 0 MX6_textOf 8 [some (vR 5 0), some (vZ x)] [vR 4 1] σ post from ⟨(by omega), ?_⟩)
  exact V_aret kX6_textOf rfl rfl (hp)
set_option maxHeartbeats 4000000 in
set_option maxRecDepth 100000 in
/-- textOf -/
theorem c_N_textOf1 {x : Int} {σ : zSt} {post : Option VV → zSt → Prop} (hx : x = 1) (hp : post (some (vR 4 3)) σ) : Mc 0 MX6_textOf [vR 5 0, vZ x] σ post := by
  show V 0 MX6_textOf 0 [some (vR 5 0), some (vZ x)] [] σ post
  refine V_run kX6_textOf 8 [1, 0] (show (zr x ∧ ¬ x = 0) ∧ (zr x ∧ zr 1 ∧ x = 1) ∧ V 0 MX6_textOf 22 [some (vR 5 0), some (vZ x)] [vR 4 3] σ post from ⟨(by omega), (by omega), ?_⟩)
  exact V_aret kX6_textOf rfl rfl (hp)
set_option maxHeartbeats 4000000 in
set_option maxRecDepth 100000 in
/-- textOf -/
theorem c_N_textOfN {x : Int} {σ : zSt} {post : Option VV → zSt → Prop} (hx : zr x ∧ ¬ (0 ≤ x ∧ x ≤ 1)) (hp : post (some (vN)) σ) : Mc 0 MX6_textOf [vR 5 0, vZ x] σ post := by
  show V 0 MX6_textOf 0 [some (vR 5 0), some (vZ x)] [] σ post
  refine V_run kX6_textOf 6 [1, 1] (show (zr x ∧ ¬ x = 0) ∧ (zr x ∧ zr 1 ∧ ¬ x = 1) ∧ V 0 MX6_textOf 22 [some (vR 5 0), some (vZ x)] [vN] σ post from ⟨(by omega), (by omega), ?_⟩)
  exact V_aret kX6_textOf rfl rfl (hp)
set_option maxHeartbeats 4000000 in
set_option maxRecDepth 100000 in
/-- sheetOf -/
theorem c_N_sheetOf {s : Int} {b : Nat} {σ : zSt} {post : Option VV → zSt → Prop} (s0 : 0 ≤ s) (s1 : s < 4) (hb : 33 + 1 + 2 * s.toNat = b) (hp : post (some (vR 2 b)) σ) : Mc 0 MX6_sheetOf [vR 5 0, vZ s] σ post := by
  subst hb
  show V 0 MX6_sheetOf 0 [some (vR 5 0), some (vZ s)] [] σ post
  refine V_run kX6_sheetOf 12 [0, 0] (show (zr s ∧ 0 ≤ s) ∧ (zr s ∧ zr 4 ∧ s < 4) ∧ (0 ≤ s ∧ s < 4) ∧ V 0 MX6_sheetOf 23 [some (vR 5 0), some (vZ s)] [vR 2 (33 + 1 + 2 * s.toNat)] σ post from ⟨(by omega), (by omega), (by omega), ?_⟩)
  exact V_aret kX6_sheetOf rfl rfl (hp)
set_option maxHeartbeats 4000000 in
set_option maxRecDepth 100000 in
/-- sheetOf, none -/
theorem c_N_sheetOfN {s : Int} {σ : zSt} {post : Option VV → zSt → Prop} (hs : zr s) (hn : ¬ (0 ≤ s ∧ s ≤ 3)) (hp : post (some vN) σ) : Mc 0 MX6_sheetOf [vR 5 0, vZ s] σ post := by
  show V 0 MX6_sheetOf 0 [some (vR 5 0), some (vZ s)] [] σ post
  refine V_run kX6_sheetOf 1 [] (show V 0 MX6_sheetOf 1 [some (vR 5 0), some (vZ s)] [vZ s] σ post from ?_)
  rcases Int.lt_or_le s 0 with h1 | h1
  · skip
    refine V_run kX6_sheetOf 2 [1] (show (zr s ∧ s < 0) ∧ V 0 MX6_sheetOf 23 [some (vR 5 0), some (vZ s)] [vN] σ post from ⟨(by omega), ?_⟩)
    exact V_aret kX6_sheetOf rfl rfl (hp)
  · skip
    refine V_run kX6_sheetOf 5 [0] (show (zr s ∧ 0 ≤ s) ∧ V 0 MX6_sheetOf 10 [some (vR 5 0), some (vZ s)] [vZ 4, vZ s] σ post from ⟨(by omega), ?_⟩)
    refine V_run kX6_sheetOf 2 [1] (show (zr s ∧ zr 4 ∧ 4 ≤ s) ∧ V 0 MX6_sheetOf 23 [some (vR 5 0), some (vZ s)] [vN] σ post from ⟨(by omega), ?_⟩)
    exact V_aret kX6_sheetOf rfl rfl (hp)
set_option maxHeartbeats 4000000 in
set_option maxRecDepth 100000 in
/-- found -/
theorem c_N_found {f : Int} {σ : zSt} {post : Option VV → zSt → Prop} (hp : post (some (vZ (-10 - f))) (uI σ 0 11 f)) : Mc 0 MX6_found [vR 5 0, vZ f] σ post := by
  show V 0 MX6_found 0 [some (vR 5 0), some (vZ f)] [] σ post
  refine V_run kX6_found 6 [] (show V 0 MX6_found 9 [some (vR 5 0), some (vZ f)] [vZ ((-10) - f)] (uI σ 0 11 f) post from ?_)
  exact V_iret kX6_found rfl rfl (hp)
/-- what happen may change -/
def hFr (σ σ' : zSt) : Prop := (∀ a : Nat, a ≠ 0 → a ≠ 23 → σ'.1 a = σ.1 a) ∧ (∀ j : Int, j ≠ 10 → σ'.1 0 j = σ.1 0 j) ∧ σ'.1 0 10 = 0 ∧ ∀ a : Nat, a ≠ 23 → a ≠ 24 → a ≠ 25 → σ'.2 a = σ.2 a
set_option maxHeartbeats 4000000 in
set_option maxRecDepth 100000 in
/-- happen -/
theorem c_N_happen {C : zCf} {σ : zSt} {post : Option VV → zSt → Prop} (hpl : zPl σ 5 C) (hon : ∀ e : Int, 0 ≤ e → e < cE C → cOn C e = true) (hp : ∀ σ', hFr σ σ' → zCo σ' 23 C 24 → post none σ') : Mc 3 MX6_happen [vR 5 0] σ post := by
  show V 3 MX6_happen 0 [some (vR 5 0)] [] σ post
  refine V_run kX6_happen 5 [] (show V 3 MX6_happen 9 [some (vR 5 0)] [vZ (-1), vR 1 5, vR 0 23] σ post from ?_)
  refine V_callV (a := [vR 1 5, vZ (-1)]) (rest := []) kX6_happen rfl oX0_run iX0_run lk_6_182 rfl rfl rfl (Nat.le_of_ble_eq_true rfl) (Nat.le_of_ble_eq_true rfl) (Nat.le_of_ble_eq_true rfl) (post' := fun zv zσ => V 3 MX6_happen 12 [some (vR 5 0)] (zv.toList ++ []) zσ post) (c_C_run (b := 23) (a := 5) zPz5 (by decide) rfl rfl hpl (fun e a b => by rw [hon e a b]; exact zbt_m1 (by have := hpl.2.2.2.2.2.2.2.2.2.1; omega) a) (fun σ1 hco e1 e2 => (show V 3 MX6_happen 12 [some (vR 5 0)] [] σ1 post from ?_))) (fun _ _ h => h)
  refine V_run kX6_happen 3 [] (show (0 = 0 ∨ 0 = 1) ∧ V 3 MX6_happen 17 [some (vR 5 0)] [] (uI σ1 0 10 0) post from ⟨(by omega), ?_⟩)
  exact V_vret kX6_happen rfl rfl (hp _ ⟨fun a x y => by rw [uI_ne x, e1, uI_ne y], fun j x => by rw [uI_at, if_neg x, e1, uI_ne (by decide)], uI_get, fun a x y z => by rw [uI_2]; exact e2 a x y z⟩ (zCo_cong (by rw [uI_ne (by decide)]) rfl rfl rfl hco))
/-- what settle may change -/
def tFr (σ σ' : zSt) : Prop := (∀ a : Nat, a ≠ 0 → a ≠ 5 → a ≠ 6 → a ≠ 7 → a ≠ 8 → a ≠ 12 → a ≠ 23 → σ'.1 a = σ.1 a) ∧ (∀ j : Int, j ≠ 10 → σ'.1 0 j = σ.1 0 j) ∧ σ'.1 0 10 = 0 ∧ ∀ a : Nat, a ≠ 5 → a ≠ 23 → a ≠ 24 → a ≠ 25 → σ'.2 a = σ.2 a
set_option maxHeartbeats 8000000 in
set_option maxRecDepth 100000 in
/-- settle -/
theorem c_N_settle {S : zAb} {σ : zSt} {post : Option VV → zSt → Prop} (hT : RT σ S) (hE : RE σ S) (hX : RX σ) (ho : aOk S) (hp : ∀ σ', tFr σ σ' → zPx σ' 5 (aC S) → zCo σ' 23 (aC S) 24 → post none σ') : Mc 5 MX6_settle [vR 5 0] σ post := by
  have hok := aC_ok ho
  have hT1 := RT_1 hT ho
  have hw1 := RT_w1 hT
  have hw3 := RT_w3 hT
  show V 5 MX6_settle 0 [some (vR 5 0)] [] σ post
  refine V_run kX6_settle 4 [] (show V 5 MX6_settle 8 [some (vR 5 0)] [vR 4 1, vR 1 5] σ post from ?_)
  refine V_callV (a := [vR 4 1]) (rest := []) kX6_settle rfl oX2_readPeople iX2_readPeople lk_6_336 rfl rfl rfl (Nat.le_of_ble_eq_true rfl) (Nat.le_of_ble_eq_true rfl) (Nat.le_of_ble_eq_true rfl) (post' := fun zv zσ => V 5 MX6_settle 11 [some (vR 5 0)] (zv.toList ++ []) zσ post) (c_P_readPeople hT1 hT.1.1 hX (fun σ1 hf1 hn1 hd1 => (show V 5 MX6_settle 11 [some (vR 5 0)] [] σ1 post from ?_))) (fun _ _ h => h)
  have hTb : RT σ1 S := RT_c (hf1.1 1 (by decide) (by decide) (by decide) (by decide)) (hf1.1 2 (by decide) (by decide) (by decide) (by decide)) (hf1.1 3 (by decide) (by decide) (by decide) (by decide)) (hf1.1 4 (by decide) (by decide) (by decide) (by decide)) hT
  have hw3b := RT_w3 hTb
  refine V_run kX6_settle 4 [] (show V 5 MX6_settle 19 [some (vR 5 0)] [vR 4 3, vR 1 5] σ1 post from ?_)
  refine V_callV (a := [vR 4 3]) (rest := []) kX6_settle rfl oX2_readWindows iX2_readWindows lk_6_340 rfl rfl rfl (Nat.le_of_ble_eq_true rfl) (Nat.le_of_ble_eq_true rfl) (Nat.le_of_ble_eq_true rfl) (post' := fun zv zσ => V 5 MX6_settle 22 [some (vR 5 0)] (zv.toList ++ []) zσ post) (c_P_readWindows (RT_3 hTb ho) hTb.2.1 (fun σ2 ha2 e2 hd2 => (show V 5 MX6_settle 22 [some (vR 5 0)] [] σ2 post from ?_))) (fun _ _ h => h)
  rw [hw1.1] at hn1 hd1
  rw [hw3b.1] at hd2
  have hpx : zPx σ2 5 (aC S) := by
    obtain ⟨q1, ⟨w9, w1, w2, w3⟩, q3, q4⟩ := hd1
    obtain ⟨x1, x2, x3⟩ := hE
    have hfit : ∀ k : Int, 0 ≤ k → k < cn (aC S) → 4 * k + 2 < a_pN S := fun k a c => (zwho1_fit (f := a_pF S) (n := a_pN S) ho.1.1 a c).1
    have hf : ∀ i : Int, 0 ≤ i → i < a_pN S → σ.1 2 i = a_pF S i := hT.1.2.2
    refine ⟨⟨by rw [ha2 5 (by decide)]; exact hn1, ?_, fun k a c => ?_, ⟨w9, w1, by rw [e2]; exact w2, fun k a c => ?_⟩, fun t a c => ?_, fun e a c => ?_, fun t a c => ?_, fun t a c => ?_, hok⟩, fun k a c => ?_⟩
    · rw [ha2 5 (by decide), hf1.2.1 5 (by decide)]; exact x1
    · have c := hfit k a c
      show σ2.1 6 k = a_pF S (4 * k) - 97 ∧ σ2.1 7 k = zsgn (a_pF S (4 * k + 1))
      rw [ha2 6 (by decide), ha2 7 (by decide), ← hf (4 * k) (by omega) (by omega), ← hf (4 * k + 1) (by omega) (by omega)]
      exact q1 k a (by assumption)
    · rw [w3 k a c]
      show _ = if k < zwho 1 (a_pF S) (a_pN S) then a_pF S (4 * k + 2) - 48 else 0
      by_cases z : k < zwho 1 (a_pF S) (a_pN S)
      · have z2 := hfit k a z
        rw [if_pos z, if_pos z, hf (4 * k + 2) (by omega) (by omega)]
      · rw [if_neg z, if_neg z]
    · have z9 := hd2 t a c
      show σ2.1 8 t = if t < zwho 0 (a_wF S) (a_wN S) then zopn (a_wF S t) else 1
      rw [z9]
      by_cases z : t < zwho 0 (a_wF S) (a_wN S)
      · have z2 := (zwho0_fit (f := a_wF S) (n := a_wN S) ho.2.1.1 a z).1
        rw [if_pos z, if_pos z, hTb.2.2.2 t a z2]
      · rw [if_neg z, if_neg z]
    · show σ2.1 9 e = _ ∧ σ2.1 10 e = _ ∧ σ2.1 11 e = _
      rw [ha2 9 (by decide), ha2 10 (by decide), ha2 11 (by decide), hf1.1 9 (by decide) (by decide) (by decide) (by decide), hf1.1 10 (by decide) (by decide) (by decide) (by decide), hf1.1 11 (by decide) (by decide) (by decide) (by decide)]
      exact x2 e a c
    · show zr (σ2.1 12 t) ∧ ∀ k : Int, 0 ≤ k → k < 12 → zbt (σ2.1 12 t) k = decide (k < zwho 1 (a_pF S) (a_pN S) ∧ a_pF S (4 * k) - 97 = t)
      rw [ha2 12 (by decide)]
      refine ⟨(q3 t a c).1, fun k k0 k1 => ?_⟩
      rw [(q3 t a c).2 k k0 k1]
      by_cases z : k < zwho 1 (a_pF S) (a_pN S)
      · have z2 := hfit k k0 z
        rw [hf (4 * k) (by omega) (by omega)]
      · rw [decide_eq_false (fun y => z y.1), decide_eq_false (fun y => z y.1)]
    · rw [show σ2.1 (5 + 8) = σ.1 13 by rw [show (5 + 8 : Nat) = 13 from rfl, ha2 13 (by decide), hf1.1 13 (by decide) (by decide) (by decide) (by decide)]]
      exact x3 t a c
    · show 0 ≤ σ2.1 6 k ∧ σ2.1 6 k ≤ 23
      rw [ha2 6 (by decide)]; exact q4 k a c
  refine V_run kX6_settle 1 [] (show V 5 MX6_settle 23 [some (vR 5 0)] [vR 5 0] σ2 post from ?_)
  refine V_callV (a := []) (rest := []) kX6_settle rfl oX6_happen iX6_happen lk_6_115 rfl rfl rfl (Nat.le_of_ble_eq_true rfl) (Nat.le_of_ble_eq_true rfl) (Nat.le_of_ble_eq_true rfl) (post' := fun zv zσ => V 5 MX6_settle 26 [some (vR 5 0)] (zv.toList ++ []) zσ post) (c_N_happen hpx.1 (fun _ _ _ => rfl) (fun σ3 hf3 hco3 => (show V 5 MX6_settle 26 [some (vR 5 0)] [] σ3 post from ?_))) (fun _ _ h => h)
  exact V_vret kX6_settle rfl rfl (hp σ3 ⟨fun a x0 x5 x6 x7 x8 x12 x23 => by rw [hf3.1 a x0 x23, ha2 a x8, hf1.1 a x5 x6 x7 x12], fun j x => by rw [hf3.2.1 j x, ha2 0 (by decide), hf1.1 0 (by decide) (by decide) (by decide) (by decide)], hf3.2.2.1, fun a x5 x23 x24 x25 => by rw [hf3.2.2.2 a x23 x24 x25, e2, hf1.2.2 a x5]⟩ (zPx_cong (fun k a b => hf3.1 k (by omega) (by omega)) (hf3.2.2.2 5 (by decide) (by decide) (by decide)) hpx) hco3)
