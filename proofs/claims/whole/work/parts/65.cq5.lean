def cWith (C : zCf) (f : Int → Bool) : zCf := (cn C, cE C, cCm C, cSo C, cPa C, cWi C, cKi C, cMi C, cPe C, f)
theorem dBeN_on {C : zCf} {f h : Int → Bool} {t : Int} {D : zDy} : ∀ m : Nat, (∀ e : Nat, e < m → f e = h e) → dBeN (cWith C f) t m D = dBeN (cWith C h) t m D
  | 0, _ => rfl
  | m + 1, e => by
    show (if cMi C m = t ∧ f m = true then dBe (cWith C f) m (dBeN (cWith C f) t m D) else dBeN (cWith C f) t m D) = (if cMi C m = t ∧ h m = true then dBe (cWith C h) m (dBeN (cWith C h) t m D) else dBeN (cWith C h) t m D)
    rw [dBeN_on m (fun i x => e i (by omega)), e m (by omega)]
    rfl
theorem dCoN_on {C : zCf} {f h : Int → Bool} {t : Int} {D : zDy} : ∀ m : Nat, dCoN (cWith C f) t m D = dCoN (cWith C h) t m D
  | 0 => rfl
  | m + 1 => by
    show (if cCm C m = t then dCo (cWith C f) m (dCoN (cWith C f) t m D) else dCoN (cWith C f) t m D) = (if cCm C m = t then dCo (cWith C h) m (dCoN (cWith C h) t m D) else dCoN (cWith C h) t m D)
    rw [dCoN_on m]
    rfl
theorem dDay_on {C : zCf} {f h : Int → Bool} (e : ∀ i : Nat, i < (cE C).toNat → f i = h i) : ∀ t : Nat, dDay (cWith C f) t = dDay (cWith C h) t
  | 0 => rfl
  | t + 1 => by
    show dSe (cWith C f) t (dCoN (cWith C f) t (cn C).toNat (dBeN (cWith C f) t (cE C).toNat (dDay (cWith C f) t))) = dSe (cWith C h) t (dCoN (cWith C h) t (cn C).toNat (dBeN (cWith C h) t (cE C).toNat (dDay (cWith C h) t)))
    rw [dDay_on e t, dBeN_on (cE C).toNat e, dCoN_on]
    rfl
theorem zD_on {C : zCf} {x y : Int} {t : Int} (e : ∀ i : Nat, i < (cE C).toNat → zbt x i = !zbt y i) : zD (cOnly C x) t = zD (cNot C y) t :=
  dDay_on (C := C) (f := fun e => zbt x e) (h := fun e => !zbt y e) e (t.toNat + 1)
def cpchk (n x : Nat) : Bool := (List.range n).all (fun e => zbt ((2 ^ n - 1 - x : Nat) : Int) (e : Int) == !zbt (x : Int) (e : Int))
theorem cp_all : (List.range 9).all (fun n => (List.range (2 ^ n)).all (cpchk n)) = true := by decide +kernel
theorem cp_ok {n x e : Nat} (hn : n ≤ 8) (hx : x < 2 ^ n) (he : e < n) : zbt ((2 ^ n - 1 - x : Nat) : Int) (e : Int) = !zbt (x : Int) (e : Int) := by
  have h := List.all_eq_true.mp (List.all_eq_true.mp (List.all_eq_true.mp cp_all n (List.mem_range.mpr (by omega))) x (List.mem_range.mpr hx)) e (List.mem_range.mpr he)
  exact eq_of_beq h
def accU (F : Nat → Nat) : Nat → Nat → Nat
  | 0, _ => 0
  | m + 1, x => F x + accU F m (x + 1)
theorem accU_l {F : Nat → Nat} : ∀ (m x : Nat), accU F (m + 1) x = accU F m x + F (x + m)
  | 0, x => by show F x + 0 = 0 + F (x + 0); rw [Nat.add_zero, Nat.add_zero, Nat.zero_add]
  | m + 1, x => by
    show F x + accU F (m + 1) (x + 1) = F x + accU F m (x + 1) + F (x + (m + 1))
    rw [accU_l m (x + 1), show x + 1 + m = x + (m + 1) by omega]
    omega
theorem accU_rev {F H : Nat → Nat} : ∀ (m x y : Nat), (∀ i : Nat, i < m → F (x + i) = H (y + (m - 1 - i))) → accU F m x = accU H m y
  | 0, _, _, _ => rfl
  | m + 1, x, y, h => by
    rw [accU_l m y]
    show F x + accU F m (x + 1) = _
    have h0 := h 0 (by omega)
    rw [Nat.add_zero, show m + 1 - 1 - 0 = m by omega] at h0
    rw [h0, accU_rev m (x + 1) y (fun i z => by
      have q := h (i + 1) (by omega)
      rw [show x + (i + 1) = x + 1 + i by omega, show m + 1 - 1 - (i + 1) = m - 1 - i by omega] at q
      exact q)]
    omega
/-- the weight of a choice of events that happen -/
def zWc (c x : Int) : Nat → Int → Nat → Nat
  | 0, _, a => a
  | m + 1, e, a => zWc c x m (e + 1) (a * (if zbt x e = true then c.toNat else (16 - c).toNat))
theorem zWc_t {c x y : Int} : ∀ (m : Nat) (e : Nat) (a : Nat), (∀ i : Nat, e ≤ i → i < e + m → zbt x i = !zbt y i) → zWc c x m e a = zWt c y m e a
  | 0, _, _, _ => rfl
  | m + 1, e, a, h => by
    unfold zWc zWt
    have h0 := h e (Nat.le_refl _) (by omega)
    rw [show ((e : Int) + 1) = ((e + 1 : Nat) : Int) from rfl, zWc_t m (e + 1) _ (fun i p q => h i (by omega) (by omega)), h0]
    congr 2
    cases zbt y e
    · rfl
    · rfl
def zSc (C : zCf) (c k : Int) : Nat → Int → Nat → Nat
  | 0, _, a => a
  | m + 1, x, a => zSc C c k m (x + 1) (a + (if dl (zD (cOnly C x) 23) k = 0 then zWc c x (cE C).toNat 0 1 else 0))
theorem zSum_acc {C : zCf} {c k : Int} : ∀ (m i a : Nat), zSum C c k m i a = a + accU (fun i => if dl (zD (cNot C (i : Int)) 23) k = 0 then zWt c i (cE C).toNat 0 1 else 0) m i
  | 0, _, a => rfl
  | m + 1, i, a => by
    unfold zSum
    rw [show ((i : Int) + 1) = ((i + 1 : Nat) : Int) from rfl, zSum_acc m (i + 1)]
    show _ = a + ((if dl (zD (cNot C (i : Int)) 23) k = 0 then zWt c i (cE C).toNat 0 1 else 0) + accU _ m (i + 1))
    omega
theorem zSc_acc {C : zCf} {c k : Int} : ∀ (m i a : Nat), zSc C c k m i a = a + accU (fun i => if dl (zD (cOnly C (i : Int)) 23) k = 0 then zWc c i (cE C).toNat 0 1 else 0) m i
  | 0, _, a => rfl
  | m + 1, i, a => by
    unfold zSc
    rw [show ((i : Int) + 1) = ((i + 1 : Nat) : Int) from rfl, zSc_acc m (i + 1)]
    show _ = a + ((if dl (zD (cOnly C (i : Int)) 23) k = 0 then zWc c i (cE C).toNat 0 1 else 0) + accU _ m (i + 1))
    omega
theorem zSc_sum {C : zCf} {c k : Int} (hE : (cE C).toNat ≤ 8) : zSc C c k (2 ^ (cE C).toNat) 0 0 = zSum C c k (2 ^ (cE C).toNat) 0 0 := by
  have h1 := zSc_acc (C := C) (c := c) (k := k) (2 ^ (cE C).toNat) 0 0
  have h2 := zSum_acc (C := C) (c := c) (k := k) (2 ^ (cE C).toNat) 0 0
  rw [show ((0 : Nat) : Int) = 0 from rfl] at h1 h2
  rw [h1, h2]
  congr 1
  refine accU_rev _ 0 0 (fun i hi => ?_)
  have hb : ∀ e : Nat, e < (cE C).toNat → zbt ((0 + i : Nat) : Int) (e : Int) = !zbt ((0 + (2 ^ (cE C).toNat - 1 - i) : Nat) : Int) (e : Int) := fun e he => by
    rw [Nat.zero_add, Nat.zero_add]
    have q := cp_ok hE hi he
    rw [q, Bool.not_not]
  show (if dl (zD (cOnly C ((0 + i : Nat) : Int)) 23) k = 0 then zWc c ((0 + i : Nat) : Int) (cE C).toNat 0 1 else 0) = (if dl (zD (cNot C ((0 + (2 ^ (cE C).toNat - 1 - i) : Nat) : Int)) 23) k = 0 then zWt c ((0 + (2 ^ (cE C).toNat - 1 - i) : Nat) : Int) (cE C).toNat 0 1 else 0)
  rw [zD_on hb]
  have hw := zWc_t (c := c) (cE C).toNat 0 1 (fun i _ q => hb i (by omega))
  rw [show ((0 : Nat) : Int) = 0 from rfl] at hw
  rw [hw]
theorem zSvb_bt {C : zCf} {j : Int} (j0 : 0 ≤ j) (j1 : j < 32) : ∀ (m : Nat) (v b : Int), 0 ≤ v → v + m ≤ 32 → (zbt (zSvb C m v b) j = true ↔ zbt b j = true ∨ (v ≤ j ∧ j < v + m ∧ dl (zD C 23) j = 0))
  | 0, v, b, _, _ => by
    unfold zSvb
    constructor
    · intro h; exact Or.inl h
    · rintro (h | h)
      · exact h
      · omega
  | m + 1, v, b, h0, h1 => by
    unfold zSvb
    rw [zSvb_bt j0 j1 m (v + 1) _ (by omega) (by omega)]
    by_cases q : dl (zD C 23) v = 0
    · rw [if_pos q, zbt_or, zbt_shl h0 (by omega) j0 j1]
      constructor
      · rintro (h | h)
        · rcases Bool.or_eq_true_iff.mp h with h | h
          · exact Or.inl h
          · have := of_decide_eq_true h; subst this; exact Or.inr ⟨Int.le_refl _, by omega, q⟩
        · exact Or.inr ⟨by omega, by omega, h.2.2⟩
      · rintro (h | h)
        · exact Or.inl (Bool.or_eq_true_iff.mpr (Or.inl h))
        · by_cases z : j = v
          · exact Or.inl (Bool.or_eq_true_iff.mpr (Or.inr (decide_eq_true z)))
          · exact Or.inr ⟨by omega, by omega, h.2.2⟩
    · rw [if_neg q]
      constructor
      · rintro (h | h)
        · exact Or.inl h
        · exact Or.inr ⟨by omega, by omega, h.2.2⟩
      · rintro (h | h)
        · exact Or.inl h
        · by_cases z : j = v
          · rw [z] at h; exact absurd h.2.2 q
          · exact Or.inr ⟨by omega, by omega, h.2.2⟩
theorem odd_gcd {a : Nat} (h : a % 2 = 1) : ∀ t : Nat, Nat.gcd a (2 ^ t) = 1
  | 0 => by rw [Nat.pow_zero, Nat.gcd_one_right]
  | t + 1 => by
    have h2 : Nat.Coprime a 2 := by
      show Nat.gcd a 2 = 1
      rw [Nat.gcd_comm, Nat.gcd_rec, h]
      rfl
    have h3 : Nat.Coprime a (2 ^ t) := odd_gcd h t
    rw [Nat.pow_succ]
    exact Nat.Coprime.mul_right h3 h2
theorem low_ok {s top h tw w : Nat} (e1 : top * 2 ^ h = s) (e2 : tw + h = w) (hd : tw = 0 ∨ top % 2 = 1) : s / Nat.gcd s (2 ^ w) = top ∧ 2 ^ w / Nat.gcd s (2 ^ w) = 2 ^ tw := by
  have hg : Nat.gcd top (2 ^ tw) = 1 := by
    rcases hd with z | z
    · rw [z, Nat.pow_zero, Nat.gcd_one_right]
    · exact odd_gcd z tw
  have hp : 0 < 2 ^ h := Nat.pow_pos (by decide)
  have e3 : 2 ^ w = 2 ^ h * 2 ^ tw := by rw [← e2, Nat.pow_add, Nat.mul_comm]
  have e4 : s = 2 ^ h * top := by rw [← e1, Nat.mul_comm]
  have e5 : Nat.gcd s (2 ^ w) = 2 ^ h := by rw [e3, e4, Nat.gcd_mul_left, hg, Nat.mul_one]
  rw [e5]
  refine ⟨?_, ?_⟩
  · rw [e4, Nat.mul_comm, Nat.mul_div_cancel _ hp]
  · rw [e3, Nat.mul_comm, Nat.mul_div_cancel _ hp]
theorem RC_43 {σ : zSt} {S : zAb} {i v : Int} (hR : RC σ S) (h0 : σ.1 0 10 = 0) : RC (uI σ 43 i v) S := by
  obtain ⟨h1, h2, h3, h4, h5, h6, h7⟩ := hR
  exact ⟨RT_c (uI_ne (by decide)) (uI_ne (by decide)) (uI_ne (by decide)) (uI_ne (by decide)) h1, zPx_cong (fun k a b => uI_ne (by omega)) rfl h2, zCo_cong (by rw [uI_ne (by decide)]) rfl rfl rfl h3, RG_c (uI_ne (by decide)) (uI_ne (by decide)) (uI_ne (by decide)) (uI_ne (by decide)) h4, RS_c (fun a x y => uI_ne (by omega)) h5, RK_0 (by rw [uI_ne (by decide)]; exact h0), by rw [uI_ne (by decide)]; exact h7⟩
theorem RC_kn {σ : zSt} {S : zAb} (hR : RC σ S) (hd : ∀ x : Int, 0 ≤ x → x < ((2 ^ (a_eN S).toNat : Nat) : Int) → σ.1 43 x = zSvb (cOnly (aC S) x) (cn (aC S)).toNat 0 0) : RC (uI σ 0 10 1) S := by
  obtain ⟨h1, h2, h3, h4, h5, h6, h7⟩ := hR
  exact ⟨RT_c (uI_ne (by decide)) (uI_ne (by decide)) (uI_ne (by decide)) (uI_ne (by decide)) h1, zPx_cong (fun k a b => uI_ne (by omega)) rfl h2, zCo_cong (by rw [uI_ne (by decide)]) rfl rfl rfl h3, RG_c (uI_ne (by decide)) (uI_ne (by decide)) (uI_ne (by decide)) (uI_ne (by decide)) h4, RS_c (fun a x y => uI_ne (by omega)) h5, ⟨Or.inr uI_get, fun _ x a b => by rw [uI_ne (by decide)]; exact hd x a b⟩, by rw [uI_at, if_neg (by decide)]; exact h7⟩
set_option maxHeartbeats 4000000 in
set_option maxRecDepth 100000 in
/-- learnServed -/
theorem c_N_learn {S : zAb} {σ : zSt} {post : Option VV → zSt → Prop} (hR : RC σ S) (ho : aOk S) (hp : ∀ σ', dK σ σ' → RC σ' S → σ'.1 0 10 = 1 → post none σ') : Mc 4 MX6_learnServed [vR 5 0] σ post := by
  have hok := aC_ok ho
  have hcn := hok.1
  obtain ⟨hT, hPx, hCo, hG, hS, hK, hF⟩ := id hR
  have hen := ho.2.2.1
  have h28 : 2 ^ (a_eN S).toNat ≤ 256 := Nat.le_trans (Nat.pow_le_pow_right (by decide) (show (a_eN S).toNat ≤ 8 by omega)) (by decide)
  have hsh := zshl1 hen.1 (by omega)
  obtain ⟨B, hB⟩ : ∃ B : Nat, B = 2 ^ (a_eN S).toNat := ⟨_, rfl⟩
  rw [← hB] at hsh h28
  show V 4 MX6_learnServed 0 [some (vR 5 0), none, none] [] σ post
  refine V_run kX6_learnServed 2 [] (show V 4 MX6_learnServed 4 [some (vR 5 0), none, none] [vZ (σ.1 0 10)] σ post from ?_)
  by_cases h1 : σ.1 0 10 = 0
  rotate_left
  · skip
    have h2 : σ.1 0 10 = 1 := hK.1.resolve_left h1
    refine V_run kX6_learnServed 1 [0] (show (zr (σ.1 0 10) ∧ ¬ (σ.1 0 10) = 0) ∧ V 4 MX6_learnServed 7 [some (vR 5 0), none, none] [] σ post from ⟨(by omega), ?_⟩)
    exact V_vret kX6_learnServed rfl rfl (hp σ dK.rf hR h2)
  refine V_run kX6_learnServed 4 [1] (show (zr (σ.1 0 10) ∧ (σ.1 0 10) = 0) ∧ V 4 MX6_learnServed 13 [some (vR 5 0), none, none] [vR 1 5, vZ 1] σ post from ⟨(by omega), ?_⟩)
  refine V_callV (a := []) (rest := [vZ 1]) kX6_learnServed rfl oX2_events iX2_events lk_6_121 rfl rfl rfl (Nat.le_of_ble_eq_true rfl) (Nat.le_of_ble_eq_true rfl) (Nat.le_of_ble_eq_true rfl) (post' := fun zv zσ => V 4 MX6_learnServed 16 [some (vR 5 0), none, none] (zv.toList ++ [vZ 1]) zσ post) (e_P_events (b := 5) (x := a_eN S) hPx.1.2.1 ((show V 4 MX6_learnServed 16 [some (vR 5 0), none, none] [vZ (a_eN S), vZ 1] σ post from ?_))) (fun _ _ h => h)
  refine V_run kX6_learnServed 1 [] (show V 4 MX6_learnServed 17 [some (vR 5 0), none, none] [vZ (zshl 1 (a_eN S))] σ post from ?_)
  refine V_top (hsh) ?_
  refine V_run kX6_learnServed 3 [] (show V 4 MX6_learnServed 20 [some (vR 5 0), some (vZ (B : Int)), some (vZ 0)] [] σ post from ?_)
  have loop : ∀ (m : Nat) (i : Int), 0 ≤ i → i + m = (B : Int) → ∀ σ2 : zSt, dK σ σ2 → RC σ2 S → σ2.1 0 10 = 0 → (∀ x : Int, 0 ≤ x → x < i → σ2.1 43 x = zSvb (cOnly (aC S) x) (cn (aC S)).toNat 0 0) → V 4 MX6_learnServed 20 [some (vR 5 0), some (vZ (B : Int)), some (vZ i)] [] σ2 post := by
    intro m
    induction m with
    | zero =>
      intro i i0 i1 σ2 hk hR2 h10 hd
      refine V_run kX6_learnServed 6 [1] (show (zr i ∧ zr (B : Int) ∧ (B : Int) ≤ i) ∧ (1 = 0 ∨ 1 = 1) ∧ V 4 MX6_learnServed 70 [some (vR 5 0), some (vZ (B : Int)), some (vZ i)] [] (uI σ2 0 10 1) post from ⟨(by omega), (by omega), ?_⟩)
      exact V_vret kX6_learnServed rfl rfl (hp _ (hk.tr (fun a x => ⟨uI_ne (by omega), rfl⟩)) (RC_kn hR2 (fun x a b => hd x a (by omega))) uI_get)
    | succ m ih =>
      intro i i0 i1 σ2 hk hR2 h10 hd
      have hv3 : zCv (cOnly (aC S) i) := hok
      refine V_run kX6_learnServed 13 [0, 0] (show (zr i ∧ zr (B : Int) ∧ i < (B : Int)) ∧ (zr i ∧ zr 256 ∧ i < 256) ∧ V 4 MX6_learnServed 43 [some (vR 5 0), some (vZ (B : Int)), some (vZ i)] [vZ i, vR 1 5, vR 0 26] σ2 post from ⟨(by omega), (by omega), ?_⟩)
      refine V_callV (a := [vR 1 5, vZ i]) (rest := []) kX6_learnServed rfl oX0_run iX0_run lk_6_182 rfl rfl rfl (Nat.le_of_ble_eq_true rfl) (Nat.le_of_ble_eq_true rfl) (Nat.le_of_ble_eq_true rfl) (post' := fun zv zσ => V 4 MX6_learnServed 46 [some (vR 5 0), some (vZ (B : Int)), some (vZ i)] (zv.toList ++ []) zσ post) (c_X_run zPz5 (by decide) (show zPl σ2 5 (cOnly (aC S) i) from hR2.2.1.1) (fun e a b => rfl) (fun σ4 hf4 hco4 => (show V 4 MX6_learnServed 46 [some (vR 5 0), some (vZ (B : Int)), some (vZ i)] [] σ4 post from ?_))) (fun _ _ h => h)
      refine V_run kX6_learnServed 5 [] (show V 4 MX6_learnServed 55 [some (vR 5 0), some (vZ (B : Int)), some (vZ i)] [vR 0 26, vZ i, vR 8 43] σ4 post from ?_)
      refine V_callV (a := []) (rest := [vZ i, vR 8 43]) kX6_learnServed rfl oX0_servedBits iX0_servedBits lk_6_371 rfl rfl rfl (Nat.le_of_ble_eq_true rfl) (Nat.le_of_ble_eq_true rfl) (Nat.le_of_ble_eq_true rfl) (post' := fun zv zσ => V 4 MX6_learnServed 58 [some (vR 5 0), some (vZ (B : Int)), some (vZ i)] (zv.toList ++ [vZ i, vR 8 43]) zσ post) (c_C_servedBits (b := 26) hv3 rfl rfl hco4 ((show V 4 MX6_learnServed 58 [some (vR 5 0), some (vZ (B : Int)), some (vZ i)] [vZ (zSvb (cOnly (aC S) i) (cn (cOnly (aC S) i)).toNat 0 0), vZ i, vR 8 43] σ4 post from ?_))) (fun _ _ h => h)
      refine V_run kX6_learnServed 3 [] (show (0 ≤ i ∧ i < 256) ∧ V 4 MX6_learnServed 20 [some (vR 5 0), some (vZ (B : Int)), some (vZ (i + 1))] [] (uI σ4 43 i (zSvb (cOnly (aC S) i) (cn (cOnly (aC S) i)).toNat 0 0)) post from ⟨(by omega), ?_⟩)
      have h104 : σ4.1 0 10 = 0 := by rw [(hf4 0 (by omega)).1]; exact h10
      refine ih (i + 1) (by omega) (by omega) _ ((hk.tr hf4.d.k).tr (fun a x => ⟨uI_ne (by omega), rfl⟩)) (RC_43 (RC_tr hf4.d hR2) h104) (by rw [uI_ne (by decide)]; exact h104) (fun x a b => ?_)
      rw [uI_at]
      by_cases z : x = i
      · rw [if_pos z, z]; rfl
      · rw [if_neg z, (hf4 43 (by omega)).1]; exact hd x a (by omega)
  exact loop B 0 (by omega) (by omega) σ dK.rf hR h1 (fun x a b => absurd b (by omega))
set_option maxHeartbeats 4000000 in
set_option maxRecDepth 100000 in
/-- weight -/
theorem c_N_weight {x n c : Int} {σ : zSt} {post : Option VV → zSt → Prop} (n0 : 0 ≤ n) (n1 : n ≤ 8) (c0 : 0 ≤ c) (c1 : c ≤ 16) (hp : post (some (vL (lN (zWc c x n.toNat 0 1)))) σ) : Mc 0 MX6_weight [vZ x, vZ n, vZ c] σ post := by
  obtain ⟨v, hv⟩ : ∃ v : Nat, v = zWc c x n.toNat 0 1 := ⟨_, rfl⟩
  rw [← hv] at hp
  have loop : ∀ (m : Nat) (e : Int) (a : Nat), 0 ≤ e → e + m = n → zWc c x m e a = v → V 0 MX6_weight 5 [some (vZ x), some (vZ n), some (vZ c), some (vL (lN a)), none, some (vZ e)] [] σ post := by
    intro m
    induction m with
    | zero =>
      intro e a e0 e1 he
      unfold zWc at he
      rw [← he] at hp
      refine V_run kX6_weight 4 [1] (show (zr e ∧ zr n ∧ n ≤ e) ∧ V 0 MX6_weight 41 [some (vZ x), some (vZ n), some (vZ c), some (vL (lN a)), none, some (vZ e)] [vL (lN a)] σ post from ⟨(by omega), ?_⟩)
      exact V_lret kX6_weight rfl rfl (hp)
    | succ m ih =>
      intro e a e0 e1 he
      unfold zWc at he
      refine V_run kX6_weight 9 [0] (show (zr e ∧ zr n ∧ e < n) ∧ V 0 MX6_weight 18 [some (vZ x), some (vZ n), some (vZ c), some (vL (lN a)), none, some (vZ e)] [vZ (zand (zshr x e) 1), vL (lN a)] σ post from ⟨(by omega), ?_⟩)
      refine V_top (zbt_test e0 (by omega)) ?_
      by_cases h1 : zbt x e = true
      · skip
        rw [if_pos h1] at he
        refine V_top (if_pos h1) ?_
        refine V_run kX6_weight 5 [0] (show (zr 1 ∧ zr 1 ∧ 1 = 1) ∧ V 0 MX6_weight 32 [some (vZ x), some (vZ n), some (vZ c), some (vL (lN a)), none, some (vZ e)] [vL (zi2l c), vL (lN a)] σ post from ⟨(by omega), ?_⟩)
        refine V_topL (zi2l_N (show zr c from ⟨by omega, by omega⟩) (by omega)) ?_
        refine V_run kX6_weight 1 [] (show V 0 MX6_weight 33 [some (vZ x), some (vZ n), some (vZ c), some (vL (lN a)), none, some (vZ e)] [vL ((lN a) * (lN c.toNat))] σ post from ?_)
        refine V_topL (lN_mul _ _) ?_
        refine V_run kX6_weight 3 [] (show V 0 MX6_weight 5 [some (vZ x), some (vZ n), some (vZ c), some (vL (lN (a * c.toNat))), none, some (vZ (e + 1))] [] σ post from ?_)
        exact ih (e + 1) _ (by omega) (by omega) he
      · skip
        rw [if_neg h1] at he
        refine V_top (if_neg h1) ?_
        refine V_run kX6_weight 6 [1] (show (zr 0 ∧ zr 1 ∧ ¬ 0 = 1) ∧ V 0 MX6_weight 32 [some (vZ x), some (vZ n), some (vZ c), some (vL (lN a)), none, some (vZ e)] [vL (zi2l (16 - c)), vL (lN a)] σ post from ⟨(by omega), ?_⟩)
        refine V_topL (zi2l_N (show zr (16 - c) from ⟨by omega, by omega⟩) (by omega)) ?_
        refine V_run kX6_weight 1 [] (show V 0 MX6_weight 33 [some (vZ x), some (vZ n), some (vZ c), some (vL (lN a)), none, some (vZ e)] [vL ((lN a) * (lN (16 - c).toNat))] σ post from ?_)
        refine V_topL (lN_mul _ _) ?_
        refine V_run kX6_weight 3 [] (show V 0 MX6_weight 5 [some (vZ x), some (vZ n), some (vZ c), some (vL (lN (a * (16 - c).toNat))), none, some (vZ (e + 1))] [] σ post from ?_)
        exact ih (e + 1) _ (by omega) (by omega) he
  show V 0 MX6_weight 0 [some (vZ x), some (vZ n), some (vZ c), none, none, none] [] σ post
  refine V_run kX6_weight 4 [] (show V 0 MX6_weight 5 [some (vZ x), some (vZ n), some (vZ c), some (vL (1 : Int64)), none, some (vZ 0)] [] σ post from ?_)
  exact loop n.toNat 0 1 (by omega) (by omega) hv.symm
set_option maxHeartbeats 4000000 in
set_option maxRecDepth 100000 in
/-- inLowestTerms -/
theorem c_N_low {s : Nat} {n x : Int} {σ : zSt} {post : Option VV → zSt → Prop} (hs : s < 2 ^ 63) (n0 : 0 ≤ n) (n1 : n ≤ 32) (hx : zr x) (hp : post (some (vL (zLow s (2 ^ n.toNat) x))) σ) : Mc 0 MX6_inLowestTerms [vL (lN s), vZ n, vZ x] σ post := by
  obtain ⟨W, hW⟩ : ∃ W : Nat, W = n.toNat := ⟨_, rfl⟩
  have hW2 : (W : Int) = n := by omega
  rw [← hW] at hp
  show V 0 MX6_inLowestTerms 0 [some (vL (lN s)), none, some (vZ n), some (vZ x), none, none, none, none] [] σ post
  have last : ∀ (h t tw : Nat), t * 2 ^ h = s → tw + h = W → (tw = 0 ∨ t % 2 = 1) → V 0 MX6_inLowestTerms 41 [some (vL (lN s)), none, some (vZ n), some (vZ x), some (vL (lN t)), none, some (vZ (tw : Int)), some (vZ (h : Int))] [] σ post := by
    intro h t tw e1 e2 hd
    obtain ⟨z1, z2⟩ := low_ok e1 e2 hd
    unfold zLow at hp
    rw [z1, z2] at hp
    refine V_run kX6_inLowestTerms 1 [] (show V 0 MX6_inLowestTerms 42 [some (vL (lN s)), none, some (vZ n), some (vZ x), some (vL (lN t)), none, some (vZ (tw : Int)), some (vZ (h : Int))] [vZ x] σ post from ?_)
    by_cases h3 : x = 0
    · skip
      rw [if_pos h3] at hp
      refine V_run kX6_inLowestTerms 3 [0] (show (zr x ∧ x = 0) ∧ V 0 MX6_inLowestTerms 54 [some (vL (lN s)), none, some (vZ n), some (vZ x), some (vL (lN t)), none, some (vZ (tw : Int)), some (vZ (h : Int))] [vL (lN t)] σ post from ⟨(by omega), ?_⟩)
      exact V_lret kX6_inLowestTerms rfl rfl (hp)
    · skip
      rw [if_neg h3] at hp
      have hz := zlshl_N 1 (a := (tw : Int)) (by omega) (by omega)
      rw [Nat.one_mul, Int.toNat_natCast] at hz
      refine V_run kX6_inLowestTerms 4 [1] (show (zr x ∧ ¬ x = 0) ∧ V 0 MX6_inLowestTerms 54 [some (vL (lN s)), none, some (vZ n), some (vZ x), some (vL (lN t)), none, some (vZ (tw : Int)), some (vZ (h : Int))] [vL (zlshl (1 : Int64) (tw : Int))] σ post from ⟨(by omega), ?_⟩)
      refine V_topL (hz) ?_
      exact V_lret kX6_inLowestTerms rfl rfl (hp)
  have loop : ∀ (m h t tw : Nat), tw = m → tw + h = W → t * 2 ^ h = s → t < 2 ^ 63 → V 0 MX6_inLowestTerms 9 [some (vL (lN s)), none, some (vZ n), some (vZ x), some (vL (lN t)), none, some (vZ (tw : Int)), some (vZ (h : Int))] [] σ post := by
    intro m
    induction m with
    | zero =>
      intro h t tw hm e2 e1 ht2
      refine V_run kX6_inLowestTerms 3 [1] (show (zr (h : Int) ∧ zr n ∧ n ≤ (h : Int)) ∧ V 0 MX6_inLowestTerms 41 [some (vL (lN s)), none, some (vZ n), some (vZ x), some (vL (lN t)), none, some (vZ (tw : Int)), some (vZ (h : Int))] [] σ post from ⟨(by omega), ?_⟩)
      exact last h t tw e1 e2 (Or.inl hm)
    | succ m ih =>
      intro h t tw hm e2 e1 ht2
      refine V_run kX6_inLowestTerms 6 [0] (show (zr (h : Int) ∧ zr n ∧ (h : Int) < n) ∧ V 0 MX6_inLowestTerms 19 [some (vL (lN s)), none, some (vZ n), some (vZ x), some (vL (lN t)), none, some (vZ (tw : Int)), some (vZ (h : Int))] [vL ((lN t) &&& (1 : Int64))] σ post from ⟨(by omega), ?_⟩)
      refine V_topL (wb_a1 (by omega)) ?_
      refine V_run kX6_inLowestTerms 2 [] (show V 0 MX6_inLowestTerms 21 [some (vL (lN s)), none, some (vZ n), some (vZ x), some (vL (lN t)), none, some (vZ (tw : Int)), some (vZ (h : Int))] [vZ (zlcmp (lN (t % 2)) (0 : Int64))] σ post from ?_)
      have hce2 : zlcmp (lN (t % 2)) (0 : Int64) = 0 ↔ t % 2 = 0 := zcmp0.trans (lN_inj (by omega) (by decide))
      have hcr2 := zcmp_rng (lN (t % 2)) (0 : Int64)
      obtain ⟨cn9, hcn9⟩ : ∃ q : Int, q = zlcmp (lN (t % 2)) (0 : Int64) := ⟨_, rfl⟩
      rw [← hcn9] at hce2 hcr2 ⊢
      by_cases h3 : cn9 = 0
      rotate_left
      · skip
        refine V_run kX6_inLowestTerms 1 [1] (show (zr cn9 ∧ ¬ cn9 = 0) ∧ V 0 MX6_inLowestTerms 41 [some (vL (lN s)), none, some (vZ n), some (vZ x), some (vL (lN t)), none, some (vZ (tw : Int)), some (vZ (h : Int))] [] σ post from ⟨(by omega), ?_⟩)
        have h4 : ¬ t % 2 = 0 := fun q => h3 (hce2.mpr q)
        exact last h t tw e1 e2 (Or.inr (by omega))
      have h4 := hce2.mp h3
      refine V_run kX6_inLowestTerms 4 [0] (show (zr cn9 ∧ cn9 = 0) ∧ (¬ (2 : Int64) = 0) ∧ V 0 MX6_inLowestTerms 30 [some (vL (lN s)), none, some (vZ n), some (vZ x), some (vL (lN t)), none, some (vZ (tw : Int)), some (vZ (h : Int))] [vL ((lN t) / (2 : Int64))] σ post from ⟨(by omega), (by decide), ?_⟩)
      refine V_topL (pk_lDiv (b := 2) ht2 (by decide) (by decide)) ?_
      refine V_run kX6_inLowestTerms 4 [] (show V 0 MX6_inLowestTerms 9 [some (vL (lN s)), none, some (vZ n), some (vZ x), some (vL (lN (t / 2))), none, some (vZ ((tw : Int) + (-1))), some (vZ ((h : Int) + 1))] [] σ post from ?_)
      have h5 : ((tw : Int) + -1) = ((tw - 1 : Nat) : Int) := by omega
      rw [h5, show ((h : Int) + 1) = ((h + 1 : Nat) : Int) from rfl]
      exact ih (h + 1) (t / 2) (tw - 1) (by omega) (by omega) (by rw [Nat.pow_succ, ← e1, Nat.mul_comm (2 ^ h) 2, ← Nat.mul_assoc]; congr 1; omega) (by omega)
  refine V_run kX6_inLowestTerms 6 [] (show V 0 MX6_inLowestTerms 9 [some (vL (lN s)), none, some (vZ n), some (vZ x), some (vL (lN s)), none, some (vZ n), some (vZ 0)] [] σ post from ?_)
  have h := loop W 0 s W rfl (by omega) (by rw [Nat.pow_zero, Nat.mul_one]) hs
  rw [hW2] at h
  exact h
theorem zWc_le {c x : Int} (h0 : 0 ≤ c) (h : c ≤ 16) : ∀ (m : Nat) (e : Int) (a : Nat), zWc c x m e a ≤ 16 ^ m * a
  | 0, _, a => by unfold zWc; omega
  | m + 1, e, a => by
    unfold zWc
    refine Nat.le_trans (zWc_le h0 h m (e + 1) _) ?_
    have q : (if zbt x e = true then c.toNat else (16 - c).toNat) ≤ 16 := by split <;> omega
    have q2 := Nat.mul_le_mul_left a q
    have q3 := Nat.mul_le_mul_left (16 ^ m) q2
    rw [Nat.pow_succ]
    calc _ ≤ _ := q3
      _ = 16 ^ m * 16 * a := by rw [Nat.mul_comm a 16, Nat.mul_assoc]
theorem zWc_lt {c x : Int} (h0 : 0 ≤ c) (h : c ≤ 16) {n : Nat} (hn : n ≤ 8) : zWc c x n 0 1 ≤ 16 ^ 8 := by
  have h1 := zWc_le (x := x) h0 h n 0 1
  have h2 : (16 : Nat) ^ n ≤ 16 ^ 8 := Nat.pow_le_pow_right (by decide) hn
  omega
set_option maxHeartbeats 8000000 in
set_option maxRecDepth 100000 in
/-- chance -/
theorem c_N_chance {c k x : Int} {S : zAb} {σ : zSt} {post : Option VV → zSt → Prop} (hR : RC σ S) (ho : aOk S) (hc : zr c) (hk : zr k) (hx : zr x) (hp : ∀ σ', dK σ σ' → RC σ' S → post (some (vL (aChance S c k x))) σ') : Mc 5 MX6_chance [vR 5 0, vZ c, vZ k, vZ x] σ post := by
  have hok := aC_ok ho
  have hcn := hok.1
  obtain ⟨hT, hPx, hCo, hG, hS, hK, hF⟩ := id hR
  have hen := ho.2.2.1
  have h28 : 2 ^ (a_eN S).toNat ≤ 256 := Nat.le_trans (Nat.pow_le_pow_right (by decide) (show (a_eN S).toNat ≤ 8 by omega)) (by decide)
  have hsh := zshl1 hen.1 (by omega)
  show V 5 MX6_chance 0 [some (vR 5 0), some (vZ c), some (vZ k), some (vZ x), none, none, none, none] [] σ post
  refine V_run kX6_chance 2 [] (show V 5 MX6_chance 3 [some (vR 5 0), some (vZ c), some (vZ k), some (vZ x), none, none, none, none] [vZ 16, vZ c] σ post from ?_)
  refine V_callS (a := [vZ c, vZ 16]) (rest := []) kX6_chance rfl oX6_isFrom0To iX6_isFrom0To lk_6_91 rfl rfl (Nat.le_of_ble_eq_true rfl) (Nat.le_of_ble_eq_true rfl) (Nat.le_of_ble_eq_true rfl) (post' := fun zv zσ => V 5 MX6_chance 6 [some (vR 5 0), some (vZ c), some (vZ k), some (vZ x), none, none, none, none] (zv.toList ++ []) zσ post) (c_N_from (by omega) (by omega) ((show V 5 MX6_chance 6 [some (vR 5 0), some (vZ c), some (vZ k), some (vZ x), none, none, none, none] [vZ (if 0 ≤ c ∧ c ≤ 16 then 1 else 0)] σ post from ?_))) (fun _ _ h => h)
  by_cases h1 : 0 ≤ c ∧ c ≤ 16
  rotate_left
  · skip
    refine V_top (if_neg h1) ?_
    refine V_run kX6_chance 2 [1] (show (zr 0 ∧ 0 = 0) ∧ V 5 MX6_chance 28 [some (vR 5 0), some (vZ c), some (vZ k), some (vZ x), none, none, none, none] [vL (-9223372036854775806 : Int64)] σ post from ⟨(by omega), ?_⟩)
    have e9 : aChance S c k x = lN 9223372036854775810 := if_neg (by omega)
    rw [e9] at hp
    exact V_lret kX6_chance rfl rfl (hp σ dK.rf hR)
  refine V_top (if_pos h1) ?_
  refine V_run kX6_chance 3 [0] (show (zr 1 ∧ ¬ 1 = 0) ∧ V 5 MX6_chance 11 [some (vR 5 0), some (vZ c), some (vZ k), some (vZ x), none, none, none, none] [vZ k, vR 5 0] σ post from ⟨(by omega), ?_⟩)
  refine V_callV (a := [vZ k]) (rest := []) kX6_chance rfl oX6_isPerson iX6_isPerson lk_6_88 rfl rfl rfl (Nat.le_of_ble_eq_true rfl) (Nat.le_of_ble_eq_true rfl) (Nat.le_of_ble_eq_true rfl) (post' := fun zv zσ => V 5 MX6_chance 14 [some (vR 5 0), some (vZ c), some (vZ k), some (vZ x), none, none, none, none] (zv.toList ++ []) zσ post) (c_N_isPerson hok hPx.1.1 (by omega) ((show V 5 MX6_chance 14 [some (vR 5 0), some (vZ c), some (vZ k), some (vZ x), none, none, none, none] [vZ (if 0 ≤ k ∧ k < cn (aC S) then 1 else 0)] σ post from ?_))) (fun _ _ h => h)
  by_cases h2 : 0 ≤ k ∧ k < cn (aC S)
  rotate_left
  · skip
    refine V_top (if_neg h2) ?_
    refine V_run kX6_chance 2 [1] (show (zr 0 ∧ 0 = 0) ∧ V 5 MX6_chance 28 [some (vR 5 0), some (vZ c), some (vZ k), some (vZ x), none, none, none, none] [vL (-9223372036854775806 : Int64)] σ post from ⟨(by omega), ?_⟩)
    have e9 : aChance S c k x = lN 9223372036854775810 := if_neg (by omega)
    rw [e9] at hp
    exact V_lret kX6_chance rfl rfl (hp σ dK.rf hR)
  refine V_top (if_pos h2) ?_
  refine V_run kX6_chance 3 [0] (show (zr 1 ∧ ¬ 1 = 0) ∧ V 5 MX6_chance 19 [some (vR 5 0), some (vZ c), some (vZ k), some (vZ x), none, none, none, none] [vZ 1, vZ x] σ post from ⟨(by omega), ?_⟩)
  refine V_callS (a := [vZ x, vZ 1]) (rest := []) kX6_chance rfl oX6_isFrom0To iX6_isFrom0To lk_6_91 rfl rfl (Nat.le_of_ble_eq_true rfl) (Nat.le_of_ble_eq_true rfl) (Nat.le_of_ble_eq_true rfl) (post' := fun zv zσ => V 5 MX6_chance 22 [some (vR 5 0), some (vZ c), some (vZ k), some (vZ x), none, none, none, none] (zv.toList ++ []) zσ post) (c_N_from (by omega) (by omega) ((show V 5 MX6_chance 22 [some (vR 5 0), some (vZ c), some (vZ k), some (vZ x), none, none, none, none] [vZ (if 0 ≤ x ∧ x ≤ 1 then 1 else 0)] σ post from ?_))) (fun _ _ h => h)
  by_cases h3 : 0 ≤ x ∧ x ≤ 1
  rotate_left
  · skip
    refine V_top (if_neg h3) ?_
    refine V_run kX6_chance 2 [0] (show (zr 0 ∧ 0 = 0) ∧ V 5 MX6_chance 28 [some (vR 5 0), some (vZ c), some (vZ k), some (vZ x), none, none, none, none] [vL (-9223372036854775806 : Int64)] σ post from ⟨(by omega), ?_⟩)
    have e9 : aChance S c k x = lN 9223372036854775810 := if_neg (by omega)
    rw [e9] at hp
    exact V_lret kX6_chance rfl rfl (hp σ dK.rf hR)
  refine V_top (if_pos h3) ?_
  refine V_run kX6_chance 2 [1] (show (zr 1 ∧ ¬ 1 = 0) ∧ V 5 MX6_chance 30 [some (vR 5 0), some (vZ c), some (vZ k), some (vZ x), none, none, none, none] [vR 5 0] σ post from ⟨(by omega), ?_⟩)
  have e9 : aChance S c k x = zCha S c k x := if_pos ⟨h1, h2, h3⟩
  rw [e9] at hp
  unfold zCha at hp
  rw [show a_eN S = cE (aC S) from rfl] at hp
  rw [← zSc_sum (show (cE (aC S)).toNat ≤ 8 by have : cE (aC S) = a_eN S := rfl; omega), show cE (aC S) = a_eN S from rfl] at hp
  obtain ⟨B, hB⟩ : ∃ B : Nat, B = 2 ^ (a_eN S).toNat := ⟨_, rfl⟩
  rw [← hB] at hsh h28 hp
  obtain ⟨v, hv⟩ : ∃ v : Nat, v = zSc (aC S) c k B 0 0 := ⟨_, rfl⟩
  rw [← hv] at hp
  refine V_callV (a := []) (rest := []) kX6_chance rfl oX6_learnServed iX6_learnServed lk_6_231 rfl rfl rfl (Nat.le_of_ble_eq_true rfl) (Nat.le_of_ble_eq_true rfl) (Nat.le_of_ble_eq_true rfl) (post' := fun zv zσ => V 5 MX6_chance 33 [some (vR 5 0), some (vZ c), some (vZ k), some (vZ x), none, none, none, none] (zv.toList ++ []) zσ post) (c_N_learn hR ho (fun σ1 hk1 hR1 h10 => (show V 5 MX6_chance 33 [some (vR 5 0), some (vZ c), some (vZ k), some (vZ x), none, none, none, none] [] σ1 post from ?_))) (fun _ _ h => h)
  have hd := hR1.2.2.2.2.2.1.2 h10
  rw [← hB] at hd
  have hp := hp σ1 hk1 hR1
  refine V_run kX6_chance 2 [] (show V 5 MX6_chance 37 [some (vR 5 0), some (vZ c), some (vZ k), some (vZ x), none, none, none, none] [vR 1 5] σ1 post from ?_)
  refine V_callV (a := []) (rest := []) kX6_chance rfl oX2_events iX2_events lk_6_121 rfl rfl rfl (Nat.le_of_ble_eq_true rfl) (Nat.le_of_ble_eq_true rfl) (Nat.le_of_ble_eq_true rfl) (post' := fun zv zσ => V 5 MX6_chance 40 [some (vR 5 0), some (vZ c), some (vZ k), some (vZ x), none, none, none, none] (zv.toList ++ []) zσ post) (e_P_events (b := 5) (x := a_eN S) hR1.2.1.1.2.1 ((show V 5 MX6_chance 40 [some (vR 5 0), some (vZ c), some (vZ k), some (vZ x), none, none, none, none] [vZ (a_eN S)] σ1 post from ?_))) (fun _ _ h => h)
  refine V_run kX6_chance 5 [] (show V 5 MX6_chance 48 [some (vR 5 0), some (vZ c), some (vZ k), some (vZ x), some (vZ (a_eN S)), some (vL (0 : Int64)), none, some (vZ 0)] [] σ1 post from ?_)
  have loop : ∀ (m : Nat) (i : Int) (a : Nat), 0 ≤ i → i + m = (B : Int) → a + m * 16 ^ 8 ≤ 256 * 16 ^ 8 → zSc (aC S) c k m i a = v → V 5 MX6_chance 48 [some (vR 5 0), some (vZ c), some (vZ k), some (vZ x), some (vZ (a_eN S)), some (vL (lN a)), none, some (vZ i)] [] σ1 post := by
    intro m
    induction m with
    | zero =>
      intro i a i0 i1 hb he
      unfold zSc at he
      rw [← he] at hp
      refine V_run kX6_chance 4 [] (show V 5 MX6_chance 54 [some (vR 5 0), some (vZ c), some (vZ k), some (vZ x), some (vZ (a_eN S)), some (vL (lN a)), none, some (vZ i)] [vZ (zshl 1 (a_eN S)), vZ i] σ1 post from ?_)
      refine V_top (hsh) ?_
      refine V_run kX6_chance 6 [1] (show (zr i ∧ zr (B : Int) ∧ (B : Int) ≤ i) ∧ V 5 MX6_chance 108 [some (vR 5 0), some (vZ c), some (vZ k), some (vZ x), some (vZ (a_eN S)), some (vL (lN a)), none, some (vZ i)] [vZ x, vZ (4 * (a_eN S)), vL (lN a)] σ1 post from ⟨(by omega), ?_⟩)
      refine V_callS (a := [vL (lN a), vZ (4 * (a_eN S)), vZ x]) (rest := []) kX6_chance rfl oX6_inLowestTerms iX6_inLowestTerms lk_6_238 rfl rfl (Nat.le_of_ble_eq_true rfl) (Nat.le_of_ble_eq_true rfl) (Nat.le_of_ble_eq_true rfl) (post' := fun zv zσ => V 5 MX6_chance 111 [some (vR 5 0), some (vZ c), some (vZ k), some (vZ x), some (vZ (a_eN S)), some (vL (lN a)), none, some (vZ i)] (zv.toList ++ []) zσ post) (c_N_low (by omega) (by omega) (by omega) (by omega) ((show V 5 MX6_chance 111 [some (vR 5 0), some (vZ c), some (vZ k), some (vZ x), some (vZ (a_eN S)), some (vL (lN a)), none, some (vZ i)] [vL (zLow a (2 ^ (4 * a_eN S).toNat) x)] σ1 post from ?_))) (fun _ _ h => h)
      exact V_lret kX6_chance rfl rfl (hp)
    | succ m ih =>
      intro i a i0 i1 hb he
      unfold zSc at he
      have hb2 : a + m * 16 ^ 8 ≤ 256 * 16 ^ 8 := Nat.le_trans (Nat.add_le_add_left (Nat.mul_le_mul_right _ (Nat.le_succ m)) a) hb
      have hrow := hd i i0 (by omega)
      have hbit := zSvb_bt (C := cOnly (aC S) i) (j := k) h2.1 (by omega) (cn (aC S)).toNat 0 0 (by omega) (by omega)
      rw [zbt_0] at hbit
      have hWl : zWc c i (cE (aC S)).toNat 0 1 ≤ 16 ^ 8 := zWc_lt h1.1 h1.2 (by have : cE (aC S) = a_eN S := rfl; omega)
      refine V_run kX6_chance 4 [] (show V 5 MX6_chance 54 [some (vR 5 0), some (vZ c), some (vZ k), some (vZ x), some (vZ (a_eN S)), some (vL (lN a)), none, some (vZ i)] [vZ (zshl 1 (a_eN S)), vZ i] σ1 post from ?_)
      refine V_top (hsh) ?_
      refine V_run kX6_chance 10 [0, 0] (show (zr i ∧ zr (B : Int) ∧ i < (B : Int)) ∧ (zr i ∧ zr 256 ∧ i < 256) ∧ (0 ≤ i ∧ i < 256) ∧ V 5 MX6_chance 74 [some (vR 5 0), some (vZ c), some (vZ k), some (vZ x), some (vZ (a_eN S)), some (vL (lN a)), none, some (vZ i)] [vZ (σ1.1 43 i)] σ1 post from ⟨(by omega), (by omega), (by omega), ?_⟩)
      refine V_top (hrow) ?_
      refine V_run kX6_chance 4 [] (show V 5 MX6_chance 78 [some (vR 5 0), some (vZ c), some (vZ k), some (vZ x), some (vZ (a_eN S)), some (vL (lN a)), none, some (vZ i)] [vZ (zand (zshr (zSvb (cOnly (aC S) i) (cn (aC S)).toNat 0 0) k) 1)] σ1 post from ?_)
      refine V_top (zbt_test h2.1 (by omega)) ?_
      by_cases h5 : dl (zD (cOnly (aC S) i) 23) k = 0
      · skip
        rw [if_pos h5] at he
        have h6 := hbit.mpr (Or.inr ⟨h2.1, by omega, h5⟩)
        refine V_top (if_pos h6) ?_
        refine V_run kX6_chance 6 [0] (show (zr 1 ∧ zr 1 ∧ 1 = 1) ∧ V 5 MX6_chance 89 [some (vR 5 0), some (vZ c), some (vZ k), some (vZ x), some (vZ (a_eN S)), some (vL (lN a)), none, some (vZ i)] [vZ c, vZ (a_eN S), vZ i, vL (lN a)] σ1 post from ⟨(by omega), ?_⟩)
        refine V_callS (a := [vZ i, vZ (a_eN S), vZ c]) (rest := [vL (lN a)]) kX6_chance rfl oX6_weight iX6_weight lk_6_234 rfl rfl (Nat.le_of_ble_eq_true rfl) (Nat.le_of_ble_eq_true rfl) (Nat.le_of_ble_eq_true rfl) (post' := fun zv zσ => V 5 MX6_chance 92 [some (vR 5 0), some (vZ c), some (vZ k), some (vZ x), some (vZ (a_eN S)), some (vL (lN a)), none, some (vZ i)] (zv.toList ++ [vL (lN a)]) zσ post) (c_N_weight hen.1 hen.2.1 h1.1 h1.2 ((show V 5 MX6_chance 92 [some (vR 5 0), some (vZ c), some (vZ k), some (vZ x), some (vZ (a_eN S)), some (vL (lN a)), none, some (vZ i)] [vL (lN (zWc c i (a_eN S).toNat 0 1)), vL (lN a)] σ1 post from ?_))) (fun _ _ h => h)
        refine V_run kX6_chance 1 [] (show V 5 MX6_chance 93 [some (vR 5 0), some (vZ c), some (vZ k), some (vZ x), some (vZ (a_eN S)), some (vL (lN a)), none, some (vZ i)] [vL ((lN a) + (lN (zWc c i (a_eN S).toNat 0 1)))] σ1 post from ?_)
        refine V_topL (lN_add _ _) ?_
        refine V_run kX6_chance 3 [] (show V 5 MX6_chance 48 [some (vR 5 0), some (vZ c), some (vZ k), some (vZ x), some (vZ (a_eN S)), some (vL (lN (a + zWc c i (a_eN S).toNat 0 1))), none, some (vZ (i + 1))] [] σ1 post from ?_)
        obtain ⟨w9, hw9⟩ : ∃ q : Nat, q = zWc c i (a_eN S).toNat 0 1 := ⟨_, rfl⟩
        rw [← hw9]
        have hWl : w9 ≤ 16 ^ 8 := hw9 ▸ hWl
        have he : zSc (aC S) c k m (i + 1) (a + w9) = v := by rw [hw9]; exact he
        exact ih (i + 1) _ (by omega) (by omega) (by omega) he
      · skip
        rw [if_neg h5, Nat.add_zero] at he
        have h6 : ¬ zbt (zSvb (cOnly (aC S) i) (cn (aC S)).toNat 0 0) k = true := fun q => (hbit.mp q).elim (fun z => absurd z (by decide)) (fun z => h5 z.2.2)
        refine V_top (if_neg h6) ?_
        refine V_run kX6_chance 4 [1] (show (zr 0 ∧ zr 1 ∧ ¬ 0 = 1) ∧ V 5 MX6_chance 48 [some (vR 5 0), some (vZ c), some (vZ k), some (vZ x), some (vZ (a_eN S)), some (vL (lN a)), none, some (vZ (i + 1))] [] σ1 post from ⟨(by omega), ?_⟩)
        exact ih (i + 1) a (by omega) (by omega) hb2 he
  have hstart : 0 + B * 16 ^ 8 ≤ 256 * 16 ^ 8 := by rw [Nat.zero_add]; exact Nat.mul_le_mul_right _ h28
  exact loop B 0 0 (by omega) (by omega) hstart hv.symm
