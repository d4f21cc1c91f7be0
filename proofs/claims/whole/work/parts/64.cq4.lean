/-- the parcels that fit -/
def zfl (S : zAb) (k : Int) : Nat → Int → List Int
  | 0, _ => []
  | m + 1, v => if aFit S (cParc (aC S) k v) = true then v :: zfl S k m (v + 1) else zfl S k m (v + 1)
theorem zfl_len {S : zAb} {k : Int} : ∀ (m : Nat) (v : Int), (zfl S k m v).length ≤ m
  | 0, _ => Nat.le_refl _
  | m + 1, v => by
    unfold zfl
    have h := zfl_len (S := S) (k := k) m (v + 1)
    split
    · rw [List.length_cons]; omega
    · omega
theorem zfl_rng {S : zAb} {k : Int} : ∀ (m : Nat) (v x : Int), x ∈ zfl S k m v → v ≤ x ∧ x < v + m ∧ aFit S (cParc (aC S) k x) = true
  | 0, _, _, h => absurd h (List.not_mem_nil)
  | m + 1, v, x, h => by
    unfold zfl at h
    by_cases q : aFit S (cParc (aC S) k v) = true
    · rw [if_pos q] at h
      rcases List.mem_cons.mp h with e | e
      · rw [e]; exact ⟨Int.le_refl _, by omega, q⟩
      · have z := zfl_rng m (v + 1) x e; exact ⟨by omega, by omega, z.2.2⟩
    · rw [if_neg q] at h
      have z := zfl_rng m (v + 1) x h; exact ⟨by omega, by omega, z.2.2⟩
theorem zdropc : ∀ {l : List Int} {n : Nat} {v : Int} {t : List Int}, l.drop n = v :: t → l.getD n 0 = v ∧ l.drop (n + 1) = t ∧ n < l.length
  | [], n, v, t, h => by rw [List.drop_nil] at h; exact absurd h (List.cons_ne_nil _ _).symm
  | a :: l, 0, v, t, h => by
    have h : a :: l = v :: t := h
    have h1 := List.cons.inj h
    exact ⟨h1.1, h1.2, Nat.succ_pos _⟩
  | a :: l, n + 1, v, t, h => by
    have z := zdropc (l := l) (n := n) h
    exact ⟨z.1, z.2.1, Nat.succ_lt_succ z.2.2⟩
theorem zdropn : ∀ {l : List Int} {n : Nat}, n < l.length → l.drop n = l.getD n 0 :: l.drop (n + 1)
  | [], _, h => absurd h (Nat.not_lt_zero _)
  | a :: l, 0, _ => rfl
  | a :: l, n + 1, h => zdropn (l := l) (n := n) (Nat.lt_of_succ_lt_succ h)
theorem zgetm : ∀ {l : List Int} {n : Nat}, n < l.length → l.getD n 0 ∈ l
  | [], _, h => absurd h (Nat.not_lt_zero _)
  | a :: l, 0, _ => List.mem_cons_self
  | a :: l, n + 1, h => List.mem_cons_of_mem _ (zgetm (l := l) (n := n) (Nat.lt_of_succ_lt_succ h))
theorem zPab_bt {S : zAb} {k j : Int} (j0 : 0 ≤ j) (j1 : j < 32) : ∀ (m : Nat) (v b : Int), 0 ≤ v → v + m ≤ 32 → (zbt (zPab S k m v b) j = true ↔ zbt b j = true ∨ (v ≤ j ∧ j < v + m ∧ aFit S (cParc (aC S) k j) = true))
  | 0, v, b, _, _ => by
    unfold zPab
    constructor
    · intro h; exact Or.inl h
    · rintro (h | h)
      · exact h
      · omega
  | m + 1, v, b, h0, h1 => by
    unfold zPab
    rw [zPab_bt j0 j1 m (v + 1) _ (by omega) (by omega)]
    by_cases q : aFit S (cParc (aC S) k v) = true
    · rw [if_pos q, zbt_or, zbt_shl h0 (by omega) j0 j1]
      constructor
      · rintro (h | h)
        · rcases Bool.or_eq_true_iff.mp h with h | h
          · exact Or.inl h
          · have := of_decide_eq_true h; subst this; exact Or.inr ⟨Int.le_refl _, by omega, q⟩
        · exact Or.inr ⟨by omega, by omega, h.2.2⟩
      · rintro (h | h)
        · exact Or.inl (Bool.or_eq_true_iff.mpr (Or.inl h))
        · by_cases z : j = v
          · exact Or.inl (Bool.or_eq_true_iff.mpr (Or.inr (decide_eq_true z)))
          · exact Or.inr ⟨by omega, by omega, h.2.2⟩
    · rw [if_neg q]
      constructor
      · rintro (h | h)
        · exact Or.inl h
        · exact Or.inr ⟨by omega, by omega, h.2.2⟩
      · rintro (h | h)
        · exact Or.inl h
        · by_cases z : j = v
          · rw [z] at h; exact absurd h.2.2 q
          · exact Or.inr ⟨by omega, by omega, h.2.2⟩
theorem zPab_pop {S : zAb} {k : Int} : ∀ (m p : Nat) (b a : Int), p + m ≤ 12 → 0 ≤ b → b < ((2 ^ p : Nat) : Int) → zpop b = a → zpop (zPab S k m p b) = a + (zfl S k m p).length ∧ 0 ≤ zPab S k m p b ∧ zPab S k m p b < 4096
  | 0, p, b, a, hp, h0, h, e => by
    refine ⟨by show zpop b = a + ((0 : Nat) : Int); omega, h0, ?_⟩
    have : (2 : Nat) ^ p ≤ 2 ^ 12 := Nat.pow_le_pow_right (by decide) (by omega)
    have e2 : (2 : Nat) ^ 12 = 4096 := by decide
    show b < 4096
    omega
  | m + 1, p, b, a, hp, h0, h, e => by
    have hpw : (2 : Nat) ^ (p + 1) = 2 * 2 ^ p := by rw [Nat.pow_succ, Nat.mul_comm]
    have hpp : 0 < (2 : Nat) ^ p := Nat.pow_pos (by decide)
    unfold zPab zfl
    rw [show ((p : Int) + 1) = ((p + 1 : Nat) : Int) from rfl]
    by_cases q : aFit S (cParc (aC S) k p) = true
    · rw [if_pos q, if_pos q, List.length_cons]
      obtain ⟨o1, o2⟩ := or_ok (p := p) (b := b) (by omega) h0 h
      have z := zPab_pop (S := S) (k := k) m (p + 1) (zor b (zshl 1 p)) (a + 1) (by omega) (by rw [o1]; omega) (by rw [o1]; omega) (by rw [o1, o2, e])
      exact ⟨by rw [z.1]; omega, z.2⟩
    · rw [if_neg q, if_neg q]
      exact zPab_pop (S := S) (k := k) m (p + 1) b a (by omega) h0 (by omega) e
def cntL (f : Int → Bool) : List Int → Int → Int
  | [], n => n
  | v :: l, n => cntL f l (if f v = true then n + 1 else n)
def maxL (h : Int → Int) : List Int → Int → Int
  | [], y => y
  | v :: l, y => maxL h l (if y < h v then h v else y)
theorem cntL_b {f : Int → Bool} : ∀ (l : List Int) (n : Int), n ≤ cntL f l n ∧ cntL f l n ≤ n + l.length
  | [], n => ⟨Int.le_refl _, by show n ≤ n + ((0 : Nat) : Int); omega⟩
  | v :: l, n => by
    unfold cntL
    rw [List.length_cons]
    split
    · have := cntL_b (f := f) l (n + 1); omega
    · have := cntL_b (f := f) l n; omega
theorem maxL_b {h : Int → Int} {B : Int} (hh : ∀ v, h v ≤ B) : ∀ (l : List Int) (y : Int), 0 ≤ y → y ≤ B → 0 ≤ maxL h l y ∧ maxL h l y ≤ B
  | [], y, h0, h1 => ⟨h0, h1⟩
  | v :: l, y, h0, h1 => by
    unfold maxL
    have := hh v
    split
    · exact maxL_b hh l _ (by omega) this
    · exact maxL_b hh l y h0 h1
theorem zAn_L {S : zAb} {k bits t a : Int} (ha : zbt bits a = true) : ∀ (m : Nat) (b n : Int), (∀ v : Int, b ≤ v → v < b + m → (zbt bits v = true ↔ aFit S (cParc (aC S) k v) = true)) → zAn (aC S) k bits t a m b n = cntL (fun v => decide (zRk (cParc (aC S) k a) t = zRk (cParc (aC S) k v) t)) (zfl S k m b) n
  | 0, _, _, _ => rfl
  | m + 1, b, n, h => by
    unfold zAn zfl
    have hb := h b (Int.le_refl _) (by omega)
    have ih := fun n => zAn_L (t := t) ha m (b + 1) n (fun v x y => h v (by omega) (by omega))
    by_cases q : aFit S (cParc (aC S) k b) = true
    · rw [if_pos q]
      unfold cntL
      rw [ih]
      by_cases z : zRk (cParc (aC S) k a) t = zRk (cParc (aC S) k b) t
      · rw [if_pos ⟨⟨ha, hb.mpr q⟩, z⟩, if_pos (decide_eq_true z)]
      · rw [if_neg (fun y => z y.2), if_neg (fun y => z (of_decide_eq_true y))]
    · rw [if_neg q, if_neg (fun y => q (hb.mp y.1.2))]
      exact ih n
theorem zAn_0 {C : zCf} {k bits t a : Int} (ha : ¬ zbt bits a = true) : ∀ (m : Nat) (b n : Int), zAn C k bits t a m b n = n
  | 0, _, _ => rfl
  | m + 1, b, n => by
    unfold zAn
    rw [if_neg (fun y => ha y.1.1)]
    exact zAn_0 ha m (b + 1) n
/-- how many are like v -/
def likeL (S : zAb) (k t v : Int) : Int := cntL (fun u => decide (zRk (cParc (aC S) k v) t = zRk (cParc (aC S) k u) t)) (zfl S k 9 1) 0
theorem zAm_L {S : zAb} {k bits t : Int} (hb : ∀ v : Int, 1 ≤ v → v < 10 → (zbt bits v = true ↔ aFit S (cParc (aC S) k v) = true)) : ∀ (m : Nat) (a y : Int), 1 ≤ a → a + m ≤ 10 → 0 ≤ y → zAm (aC S) k bits t m a y = maxL (likeL S k t) (zfl S k m a) y
  | 0, _, _, _, _, _ => rfl
  | m + 1, a, y, a0, a1, y0 => by
    unfold zAm zfl
    have q0 := hb a a0 (by omega)
    by_cases q : aFit S (cParc (aC S) k a) = true
    · have e : zAn (aC S) k bits t a 9 1 0 = likeL S k t a := zAn_L (q0.mpr q) 9 1 0 (fun v x z => hb v x (by omega))
      have hl := cntL_b (f := fun u => decide (zRk (cParc (aC S) k a) t = zRk (cParc (aC S) k u) t)) (zfl S k 9 1) 0
      have hl : 0 ≤ likeL S k t a := hl.1
      rw [if_pos q, e]
      unfold maxL
      refine zAm_L hb m (a + 1) _ (by omega) (by omega) ?_
      split <;> omega
    · rw [if_neg q, zAn_0 (fun z => q (q0.mp z)), if_neg (by omega)]
      exact zAm_L hb m (a + 1) y (by omega) (by omega) y0
theorem zRh_inj {C D : zCf} (hC : zCv C) (hD : zCv D) {t : Int} : ∀ (m : Nat) (p : Int) (a b : Nat), 0 ≤ p → (zRh C t m p a = zRh D t m p b ↔ a = b ∧ ∀ j : Int, p ≤ j → j < p + m → zWho C t j = zWho D t j)
  | 0, p, a, b, _ => by
    show a = b ↔ _
    exact ⟨fun h => ⟨h, fun j x y => absurd y (by omega)⟩, fun h => h.1⟩
  | m + 1, p, a, b, p0 => by
    show zRh C t m (p + 1) (16 * a + (zWho C t p + 1).toNat) = zRh D t m (p + 1) (16 * b + (zWho D t p + 1).toNat) ↔ _
    have h1 := zWho_rng hC t p0
    have h2 := zWho_rng hD t p0
    rw [zRh_inj hC hD m (p + 1) _ _ (by omega)]
    constructor
    · rintro ⟨e, h⟩
      refine ⟨by omega, fun j x y => ?_⟩
      by_cases z : j = p
      · rw [z]; omega
      · exact h j (by omega) (by omega)
    · rintro ⟨e, h⟩
      have := h p (Int.le_refl _) (by omega)
      exact ⟨by omega, fun j x y => h j (by omega) (by omega)⟩
theorem key_eq {C D : zCf} {t : Int} {r q : Nat} (hC : zCv C) (hD : zCv D) (hr : zRq r (zD C t)) (hq : zRq q (zD D t)) : lN r = lN q ↔ zRk C t = zRk D t := by
  rw [lN_inj (r12 hr.1) (r12 hq.1)]
  unfold zRk
  rw [zRh_inj hC hD 12 0 0 0 (Int.le_refl _)]
  have d1 : ∀ j : Int, 0 ≤ j → j < 12 → dgt r j = zWho C t j + 1 := fun j a b => by
    rw [hr.2 j a b]; unfold zWho; split <;> rfl
  have d2 : ∀ j : Int, 0 ≤ j → j < 12 → dgt q j = zWho D t j + 1 := fun j a b => by
    rw [hq.2 j a b]; unfold zWho; split <;> rfl
  constructor
  · intro e
    refine ⟨rfl, fun j a b => ?_⟩
    have x := d1 j a (by omega)
    have y := d2 j a (by omega)
    rw [e] at x
    omega
  · rintro ⟨-, h⟩
    exact row_ext12 hr.1 hq.1 (fun j a b => by rw [d1 j a b, d2 j a b, h j a (by omega)])
/-- the kept standings: row r is of the r-th parcel that fits -/
def zStn (σ : zSt) (S : zAb) (k : Int) (n : Nat) : Prop := ∀ r : Nat, r < n → ∀ t : Int, 0 ≤ t → t < 24 → ∃ q : Nat, σ.2 42 ((r : Int) * 24 + t) = lN q ∧ zRq q (zD (cParc (aC S) k ((zfl S k 9 1).getD r 0)) t)
set_option maxHeartbeats 4000000 in
set_option maxRecDepth 100000 in
/-- keepStanding -/
theorem c_N_keep {n : Int} {σ : zSt} {post : Option VV → zSt → Prop} (n0 : 0 ≤ n) (n1 : n < 9) (hp : ∀ σ' : zSt, σ'.1 = σ.1 → (∀ a : Nat, a ≠ 42 → σ'.2 a = σ.2 a) → (∀ j : Int, σ'.2 42 j = if n * 24 ≤ j ∧ j < n * 24 + 24 then σ.2 27 (j - n * 24) else σ.2 42 j) → post none σ') : Mc 1 MX6_keepStanding [vR 5 0, vZ n] σ post := by
  have loop : ∀ (m : Nat) (t : Int), 0 ≤ t → t + m = 24 → ∀ σ2 : zSt, σ2.1 = σ.1 → (∀ a : Nat, a ≠ 42 → σ2.2 a = σ.2 a) → (∀ j : Int, σ2.2 42 j = if n * 24 ≤ j ∧ j < n * 24 + t then σ.2 27 (j - n * 24) else σ.2 42 j) → V 1 MX6_keepStanding 2 [some (vR 5 0), some (vZ n), some (vZ t), none] [] σ2 post := by
    intro m
    induction m with
    | zero =>
      intro t t0 t1 σ2 e1 e2 e3
      have ht : t = 24 := by omega
      subst ht
      refine V_run kX6_keepStanding 3 [1] (show (zr 24 ∧ zr 24 ∧ 24 ≤ 24) ∧ V 1 MX6_keepStanding 48 [some (vR 5 0), some (vZ n), some (vZ 24), none] [] σ2 post from ⟨(by omega), ?_⟩)
      exact V_vret kX6_keepStanding rfl rfl (hp σ2 e1 e2 e3)
    | succ m ih =>
      intro t t0 t1 σ2 e1 e2 e3
      refine V_run kX6_keepStanding 22 [0, 0, 0] (show (zr t ∧ zr 24 ∧ t < 24) ∧ (zr ((n * 24) + t) ∧ 0 ≤ ((n * 24) + t)) ∧ (zr ((n * 24) + t) ∧ zr 216 ∧ ((n * 24) + t) < 216) ∧ V 1 MX6_keepStanding 38 [some (vR 5 0), some (vZ n), some (vZ t), some (vZ ((n * 24) + t))] [vZ t, vR 0 26, vZ ((n * 24) + t), vR 9 42] σ2 post from ⟨(by omega), (by omega), (by omega), ?_⟩)
      refine V_callV (a := [vZ t]) (rest := [vZ ((n * 24) + t), vR 9 42]) kX6_keepStanding rfl oX0_queueBehind iX0_queueBehind lk_6_360 rfl rfl rfl (Nat.le_of_ble_eq_true rfl) (Nat.le_of_ble_eq_true rfl) (Nat.le_of_ble_eq_true rfl) (post' := fun zv zσ => V 1 MX6_keepStanding 41 [some (vR 5 0), some (vZ n), some (vZ t), some (vZ ((n * 24) + t))] (zv.toList ++ [vZ ((n * 24) + t), vR 9 42]) zσ post) (e_C_qb (b := 23 + 3) (x := σ.2 27 t) rfl t0 (by omega) (show σ2.2 27 t = σ.2 27 t by rw [e2 27 (by decide)]) ((show V 1 MX6_keepStanding 41 [some (vR 5 0), some (vZ n), some (vZ t), some (vZ ((n * 24) + t))] [vL (σ.2 27 t), vZ ((n * 24) + t), vR 9 42] σ2 post from ?_))) (fun _ _ h => h)
      refine V_run kX6_keepStanding 3 [] (show (0 ≤ ((n * 24) + t) ∧ ((n * 24) + t) < 216) ∧ V 1 MX6_keepStanding 2 [some (vR 5 0), some (vZ n), some (vZ (t + 1)), some (vZ ((n * 24) + t))] [] (uL σ2 42 ((n * 24) + t) (σ.2 27 t)) post from ⟨(by omega), ?_⟩)
      refine V_drop (L := [some (vR 5 0), some (vZ n), some (vZ (t + 1)), none]) ⟨rfl, ⟨rfl, ⟨rfl, trivial⟩⟩⟩ ?_
      refine ih (t + 1) (by omega) (by omega) _ e1 (fun a x => by rw [uL_ne x]; exact e2 a x) (fun j => ?_)
      rw [uL_at]
      by_cases z : j = n * 24 + t
      · rw [if_pos z, if_pos (by omega), z, show n * 24 + t - n * 24 = t by omega]
      · rw [if_neg z, e3]
        by_cases z2 : n * 24 ≤ j ∧ j < n * 24 + t
        · rw [if_pos z2, if_pos (by omega)]
        · rw [if_neg z2, if_neg (by omega)]
  show V 1 MX6_keepStanding 0 [some (vR 5 0), some (vZ n), none, none] [] σ post
  refine V_run kX6_keepStanding 2 [] (show V 1 MX6_keepStanding 2 [some (vR 5 0), some (vZ n), some (vZ 0), none] [] σ post from ?_)
  exact loop 24 0 (by omega) (by omega) σ rfl (fun _ _ => rfl) (fun j => by rw [if_neg (by omega)])
set_option maxHeartbeats 8000000 in
set_option maxRecDepth 100000 in
/-- fittingParcels -/
theorem c_N_parcels {k : Int} {S : zAb} {σ : zSt} {post : Option VV → zSt → Prop} (hR : RC σ S) (ho : aOk S) (k0 : 0 ≤ k) (k1 : k < cn (aC S)) (hp : ∀ σ', dTr σ σ' → zStn σ' S k (zfl S k 9 1).length → post (some (vZ (zPab S k 9 1 0))) σ') : Mc 3 MX6_fittingParcels [vR 5 0, vZ k] σ post := by
  have hok := aC_ok ho
  have hcn := hok.1
  obtain ⟨hT, hPx, hCo, hG, hS, hK, hF⟩ := id hR
  have hE : cE (aC S) ≤ 9 := hok.2.1.2
  have hL9 := zfl_len (S := S) (k := k) 9 1
  obtain ⟨v, hv⟩ : ∃ v : Int, v = zPab S k 9 1 0 := ⟨_, rfl⟩
  rw [← hv] at hp
  show V 3 MX6_fittingParcels 0 [some (vR 5 0), some (vZ k), none, none, none] [] σ post
  refine V_run kX6_fittingParcels 8 [] (show V 3 MX6_fittingParcels 12 [some (vR 5 0), some (vZ k), some (vZ 0), some (vZ 0), none] [vR 1 5, vR 1 14] σ post from ?_)
  refine V_callV (a := [vR 1 5]) (rest := []) kX6_fittingParcels rfl oX2_take iX2_take lk_6_174 rfl rfl rfl (Nat.le_of_ble_eq_true rfl) (Nat.le_of_ble_eq_true rfl) (Nat.le_of_ble_eq_true rfl) (post' := fun zv zσ => V 3 MX6_fittingParcels 15 [some (vR 5 0), some (vZ k), some (vZ 0), some (vZ 0), none] (zv.toList ++ []) zσ post) (c_P_take (b := 14) (a := 5) zPz14 zPz5 ((show V 3 MX6_fittingParcels 15 [some (vR 5 0), some (vZ k), some (vZ 0), some (vZ 0), none] [] (sTake σ 14 5) post from ?_))) (fun _ _ h => h)
  refine V_run kX6_fittingParcels 2 [] (show V 3 MX6_fittingParcels 18 [some (vR 5 0), some (vZ k), some (vZ 0), some (vZ 0), some (vZ 1)] [] (sTake σ 14 5) post from ?_)
  have loop : ∀ (m : Nat) (i a : Int) (n : Nat), 1 ≤ i → i + m = 10 → zr a → zPab S k m i a = v → (zfl S k 9 1).drop n = zfl S k m i → n ≤ (zfl S k 9 1).length → ∀ (C2 : zCf) (σ2 : zSt), dTr σ σ2 → zPx σ2 14 C2 → cn C2 = cn (aC S) → (∀ y, cParc C2 k y = cParc (aC S) k y) → zStn σ2 S k n → V 3 MX6_fittingParcels 18 [some (vR 5 0), some (vZ k), some (vZ a), some (vZ (n : Int)), some (vZ i)] [] σ2 post := by
    intro m
    induction m with
    | zero =>
      intro i a n i0 i1 hz he hd hn C2 σ2 hk hc hcn2 hC2 hs
      unfold zPab at he
      have hnl : n = (zfl S k 9 1).length := by
        have z := congrArg List.length hd
        rw [List.length_drop] at z
        have z : (zfl S k 9 1).length - n = 0 := z
        omega
      rw [hnl] at hs
      have hp := hp σ2 hk hs
      rw [← he] at hp
      refine V_run kX6_fittingParcels 4 [1] (show (zr i ∧ zr 9 ∧ 9 < i) ∧ V 3 MX6_fittingParcels 83 [some (vR 5 0), some (vZ k), some (vZ a), some (vZ (n : Int)), some (vZ i)] [vZ a] σ2 post from ⟨(by omega), ?_⟩)
      exact V_iret kX6_fittingParcels rfl rfl (hp)
    | succ m ih =>
      intro i a n i0 i1 hz he hd hn C2 σ2 hk hc hcn2 hC2 hs
      unfold zPab at he
      have hd : (zfl S k 9 1).drop n = if aFit S (cParc (aC S) k i) = true then i :: zfl S k m (i + 1) else zfl S k m (i + 1) := hd
      obtain ⟨w9, w1, w2, w3⟩ := hc.1.2.2.2.1
      have hc3 := zPx_parc (v := i) hc w1 w2 w3 k0 (by omega) i0 (by omega)
      rw [hC2] at hc3
      have hv3 := zPl_u3 hc3.1
      refine V_run kX6_fittingParcels 7 [0] (show (zr i ∧ zr 9 ∧ i ≤ 9) ∧ V 3 MX6_fittingParcels 32 [some (vR 5 0), some (vZ k), some (vZ a), some (vZ (n : Int)), some (vZ i)] [vZ i, vZ k, vR 1 14] σ2 post from ⟨(by omega), ?_⟩)
      refine V_callV (a := [vZ k, vZ i]) (rest := []) kX6_fittingParcels rfl oX2_setParcel iX2_setParcel lk_6_353 rfl rfl rfl (Nat.le_of_ble_eq_true rfl) (Nat.le_of_ble_eq_true rfl) (Nat.le_of_ble_eq_true rfl) (post' := fun zv zσ => V 3 MX6_fittingParcels 35 [some (vR 5 0), some (vZ k), some (vZ a), some (vZ (n : Int)), some (vZ i)] (zv.toList ++ []) zσ post) (c_P_setParcel (b := 14) w1 w2 k0 (by omega) (by omega) (by omega) ((show V 3 MX6_fittingParcels 35 [some (vR 5 0), some (vZ k), some (vZ a), some (vZ (n : Int)), some (vZ i)] [] (uL σ2 14 3 (lN (rRep w9 k i))) post from ?_))) (fun _ _ h => h)
      refine V_run kX6_fittingParcels 5 [] (show V 3 MX6_fittingParcels 44 [some (vR 5 0), some (vZ k), some (vZ a), some (vZ (n : Int)), some (vZ i)] [vZ (-1), vR 1 14, vR 0 26] (uL σ2 14 3 (lN (rRep w9 k i))) post from ?_)
      refine V_callV (a := [vR 1 14, vZ (-1)]) (rest := []) kX6_fittingParcels rfl oX0_run iX0_run lk_6_182 rfl rfl rfl (Nat.le_of_ble_eq_true rfl) (Nat.le_of_ble_eq_true rfl) (Nat.le_of_ble_eq_true rfl) (post' := fun zv zσ => V 3 MX6_fittingParcels 47 [some (vR 5 0), some (vZ k), some (vZ a), some (vZ (n : Int)), some (vZ i)] (zv.toList ++ []) zσ post) (c_X_run zPz14 (by decide) hc3.1 (on_m1 hE (fun _ => rfl)) (fun σ4 hf4 hco4 => (show V 3 MX6_fittingParcels 47 [some (vR 5 0), some (vZ k), some (vZ a), some (vZ (n : Int)), some (vZ i)] [] σ4 post from ?_))) (fun _ _ h => h)
      refine V_run kX6_fittingParcels 4 [] (show V 3 MX6_fittingParcels 55 [some (vR 5 0), some (vZ k), some (vZ a), some (vZ (n : Int)), some (vZ i)] [vR 0 26, vR 3 29] σ4 post from ?_)
      have hk4 := (hk.tr (dTr_l (k := 14) (j := 3) (v := lN (rRep w9 k i)) (by decide))).tr hf4.d
      have hx4 := hf4.px (by decide) hc3
      have hR4 := RC_tr hk4 hR
      have hs4 : zStn σ4 S k n := fun r x t t0 t1 => by rw [(hf4 42 (by omega)).2, uL_ne (by decide)]; exact hs r x t t0 t1
      have e9 : ∀ y, cParc (cParc (aC S) k i) k y = cParc (aC S) k y := fun y => by unfold cParc; rw [fPut_fPut]
      refine V_callV (a := [vR 0 26]) (rest := []) kX6_fittingParcels rfl oX4_fit iX4_fit lk_6_216 rfl rfl rfl (Nat.le_of_ble_eq_true rfl) (Nat.le_of_ble_eq_true rfl) (Nat.le_of_ble_eq_true rfl) (post' := fun zv zσ => V 3 MX6_fittingParcels 58 [some (vR 5 0), some (vZ k), some (vZ a), some (vZ (n : Int)), some (vZ i)] (zv.toList ++ []) zσ post) (c_N_fit hR4.2.2.2.1 ho hv3 hco4 ((show V 3 MX6_fittingParcels 58 [some (vR 5 0), some (vZ k), some (vZ a), some (vZ (n : Int)), some (vZ i)] [vZ (if aFit S (cParc (aC S) k i) = true then 1 else 0)] σ4 post from ?_))) (fun _ _ h => h)
      by_cases h1 : aFit S (cParc (aC S) k i) = true
      rotate_left
      · skip
        rw [if_neg h1] at he hd
        refine V_top (if_neg h1) ?_
        refine V_run kX6_fittingParcels 3 [1] (show (zr 0 ∧ 0 = 0) ∧ V 3 MX6_fittingParcels 18 [some (vR 5 0), some (vZ k), some (vZ a), some (vZ (n : Int)), some (vZ (i + 1))] [] σ4 post from ⟨(by omega), ?_⟩)
        exact ih (i + 1) a n (by omega) (by omega) hz he hd hn _ σ4 hk4 hx4 rfl e9 hs4
      rw [if_pos h1] at he hd
      obtain ⟨d1, d2, d3⟩ := zdropc hd
      refine V_top (if_pos h1) ?_
      refine V_run kX6_fittingParcels 9 [0] (show (zr 1 ∧ ¬ 1 = 0) ∧ V 3 MX6_fittingParcels 70 [some (vR 5 0), some (vZ k), some (vZ (zor a (zshl 1 i))), some (vZ (n : Int)), some (vZ i)] [vZ (n : Int), vR 5 0] σ4 post from ⟨(by omega), ?_⟩)
      refine V_callV (a := [vZ (n : Int)]) (rest := []) kX6_fittingParcels rfl oX6_keepStanding iX6_keepStanding lk_6_356 rfl rfl rfl (Nat.le_of_ble_eq_true rfl) (Nat.le_of_ble_eq_true rfl) (Nat.le_of_ble_eq_true rfl) (post' := fun zv zσ => V 3 MX6_fittingParcels 73 [some (vR 5 0), some (vZ k), some (vZ (zor a (zshl 1 i))), some (vZ (n : Int)), some (vZ i)] (zv.toList ++ []) zσ post) (c_N_keep (by omega) (by omega) (fun σ5 g1 g2 g3 => (show V 3 MX6_fittingParcels 73 [some (vR 5 0), some (vZ k), some (vZ (zor a (zshl 1 i))), some (vZ (n : Int)), some (vZ i)] [] σ5 post from ?_))) (fun _ _ h => h)
      refine V_run kX6_fittingParcels 3 [] (show V 3 MX6_fittingParcels 18 [some (vR 5 0), some (vZ k), some (vZ (zor a (zshl 1 i))), some (vZ ((n : Int) + 1)), some (vZ (i + 1))] [] σ5 post from ?_)
      refine ih (i + 1) _ (n + 1) (by omega) (by omega) (zor_zr _ _) he d2 d3 _ σ5 (hk4.tr (fun a x => ⟨by rw [g1], g2 a (by omega)⟩)) (zPx_cong (fun k _ _ => by rw [g1]) (g2 14 (by decide)) hx4) rfl e9 (fun r x t t0 t1 => ?_)
      rw [g3]
      by_cases z : r = n
      · have e := zCo_at hco4 t0 t1
        obtain ⟨r1, y1, x1, x2, -⟩ := e
        rw [if_pos (by omega), show ((r : Int) * 24 + t - (n : Int) * 24) = t by omega, z, d1]
        exact ⟨r1, x1, x2⟩
      · rw [if_neg (by omega)]; exact hs4 r (by omega) t t0 t1
  exact loop 9 1 0 0 (by omega) (by omega) (by decide) hv.symm rfl (Nat.zero_le _) (aC S) _ dTr_take (zPx_take (by decide) hPx) rfl (fun _ => rfl) (fun r x => absurd x (Nat.not_lt_zero _))
set_option maxHeartbeats 4000000 in
set_option maxRecDepth 100000 in
/-- was -/
theorem c_N_was {k x : Int} {S : zAb} {σ : zSt} {post : Option VV → zSt → Prop} (hR : RC σ S) (ho : aOk S) (hk : zr k) (hx : zr x) (hp : ∀ σ', dK σ σ' → RC σ' S → post (some (vZ (aWas S k x))) σ') : Mc 4 MX6_was [vR 5 0, vZ k, vZ x] σ post := by
  have hok := aC_ok ho
  have hcn := hok.1
  obtain ⟨hT, hPx, hCo, hG, hS, hK, hF⟩ := id hR
  show V 4 MX6_was 0 [some (vR 5 0), some (vZ k), some (vZ x)] [] σ post
  refine V_run kX6_was 2 [] (show V 4 MX6_was 2 [some (vR 5 0), some (vZ k), some (vZ x)] [vZ k, vR 5 0] σ post from ?_)
  refine V_callV (a := [vZ k]) (rest := []) kX6_was rfl oX6_isPerson iX6_isPerson lk_6_88 rfl rfl rfl (Nat.le_of_ble_eq_true rfl) (Nat.le_of_ble_eq_true rfl) (Nat.le_of_ble_eq_true rfl) (post' := fun zv zσ => V 4 MX6_was 5 [some (vR 5 0), some (vZ k), some (vZ x)] (zv.toList ++ []) zσ post) (c_N_isPerson hok hPx.1.1 (by omega) ((show V 4 MX6_was 5 [some (vR 5 0), some (vZ k), some (vZ x)] [vZ (if 0 ≤ k ∧ k < cn (aC S) then 1 else 0)] σ post from ?_))) (fun _ _ h => h)
  by_cases h1 : 0 ≤ k ∧ k < cn (aC S)
  rotate_left
  · skip
    refine V_top (if_neg h1) ?_
    refine V_run kX6_was 2 [1] (show (zr 0 ∧ 0 = 0) ∧ V 4 MX6_was 18 [some (vR 5 0), some (vZ k), some (vZ x)] [vZ (-2)] σ post from ⟨(by omega), ?_⟩)
    have e9 : aWas S k x = -2 := if_neg (by omega)
    rw [e9] at hp
    exact V_iret kX6_was rfl rfl (hp σ dK.rf hR)
  refine V_top (if_pos h1) ?_
  refine V_run kX6_was 3 [0] (show (zr 1 ∧ ¬ 1 = 0) ∧ V 4 MX6_was 10 [some (vR 5 0), some (vZ k), some (vZ x)] [vZ 1, vZ x] σ post from ⟨(by omega), ?_⟩)
  refine V_callS (a := [vZ x, vZ 1]) (rest := []) kX6_was rfl oX6_isFrom0To iX6_isFrom0To lk_6_91 rfl rfl (Nat.le_of_ble_eq_true rfl) (Nat.le_of_ble_eq_true rfl) (Nat.le_of_ble_eq_true rfl) (post' := fun zv zσ => V 4 MX6_was 13 [some (vR 5 0), some (vZ k), some (vZ x)] (zv.toList ++ []) zσ post) (c_N_from (by omega) (by omega) ((show V 4 MX6_was 13 [some (vR 5 0), some (vZ k), some (vZ x)] [vZ (if 0 ≤ x ∧ x ≤ 1 then 1 else 0)] σ post from ?_))) (fun _ _ h => h)
  by_cases h2 : 0 ≤ x ∧ x ≤ 1
  rotate_left
  · skip
    refine V_top (if_neg h2) ?_
    refine V_run kX6_was 2 [0] (show (zr 0 ∧ 0 = 0) ∧ V 4 MX6_was 18 [some (vR 5 0), some (vZ k), some (vZ x)] [vZ (-2)] σ post from ⟨(by omega), ?_⟩)
    have e9 : aWas S k x = -2 := if_neg (by omega)
    rw [e9] at hp
    exact V_iret kX6_was rfl rfl (hp σ dK.rf hR)
  refine V_top (if_pos h2) ?_
  refine V_run kX6_was 2 [1] (show (zr 1 ∧ ¬ 1 = 0) ∧ V 4 MX6_was 20 [some (vR 5 0), some (vZ k), some (vZ x)] [vZ x] σ post from ⟨(by omega), ?_⟩)
  have e9 : aWas S k x = if x = 0 then zSos S k 3 0 0 else zPab S k 9 1 0 := if_pos ⟨h1, h2⟩
  rw [e9] at hp
  by_cases h3 : x = 0
  · skip
    rw [if_pos h3] at hp
    refine V_run kX6_was 3 [0] (show (zr x ∧ x = 0) ∧ V 4 MX6_was 25 [some (vR 5 0), some (vZ k), some (vZ x)] [vZ k, vR 5 0] σ post from ⟨(by omega), ?_⟩)
    refine V_callV (a := [vZ k]) (rest := []) kX6_was rfl oX6_fittingSorts iX6_fittingSorts lk_6_220 rfl rfl rfl (Nat.le_of_ble_eq_true rfl) (Nat.le_of_ble_eq_true rfl) (Nat.le_of_ble_eq_true rfl) (post' := fun zv zσ => V 4 MX6_was 28 [some (vR 5 0), some (vZ k), some (vZ x)] (zv.toList ++ []) zσ post) (c_N_sorts hR ho h1.1 h1.2 (fun σ9 hk9 => (show V 4 MX6_was 28 [some (vR 5 0), some (vZ k), some (vZ x)] [vZ (zSos S k 3 0 0)] σ9 post from ?_))) (fun _ _ h => h)
    refine V_run kX6_was 1 [] (show V 4 MX6_was 36 [some (vR 5 0), some (vZ k), some (vZ x)] [vZ (zSos S k 3 0 0)] σ9 post from ?_)
    exact V_iret kX6_was rfl rfl (hp σ9 hk9.k (RC_tr hk9 hR))
  · skip
    rw [if_neg h3] at hp
    refine V_run kX6_was 3 [1] (show (zr x ∧ ¬ x = 0) ∧ V 4 MX6_was 33 [some (vR 5 0), some (vZ k), some (vZ x)] [vZ k, vR 5 0] σ post from ⟨(by omega), ?_⟩)
    refine V_callV (a := [vZ k]) (rest := []) kX6_was rfl oX6_fittingParcels iX6_fittingParcels lk_6_223 rfl rfl rfl (Nat.le_of_ble_eq_true rfl) (Nat.le_of_ble_eq_true rfl) (Nat.le_of_ble_eq_true rfl) (post' := fun zv zσ => V 4 MX6_was 36 [some (vR 5 0), some (vZ k), some (vZ x)] (zv.toList ++ []) zσ post) (c_N_parcels hR ho h1.1 h1.2 (fun σ9 hk9 _ => (show V 4 MX6_was 36 [some (vR 5 0), some (vZ k), some (vZ x)] [vZ (zPab S k 9 1 0)] σ9 post from ?_))) (fun _ _ h => h)
    exact V_iret kX6_was rfl rfl (hp σ9 hk9.k (RC_tr hk9 hR))
set_option maxHeartbeats 4000000 in
set_option maxRecDepth 100000 in
/-- standing -/
theorem c_N_standing {r t : Int} {σ : zSt} {post : Option VV → zSt → Prop} (r0 : 0 ≤ r) (r1 : r < 9) (t0 : 0 ≤ t) (t1 : t < 24) (hp : post (some (vL (σ.2 42 (r * 24 + t)))) σ) : Mc 0 MX6_standing [vR 5 0, vZ r, vZ t] σ post := by
  show V 0 MX6_standing 0 [some (vR 5 0), some (vZ r), some (vZ t), none] [] σ post
  refine V_run kX6_standing 18 [0, 0] (show (zr ((r * 24) + t) ∧ 0 ≤ ((r * 24) + t)) ∧ (zr ((r * 24) + t) ∧ zr 216 ∧ ((r * 24) + t) < 216) ∧ (0 ≤ ((r * 24) + t) ∧ ((r * 24) + t) < 216) ∧ V 0 MX6_standing 30 [some (vR 5 0), some (vZ r), some (vZ t), some (vZ ((r * 24) + t))] [vL (σ.2 42 ((r * 24) + t))] σ post from ⟨(by omega), (by omega), (by omega), ?_⟩)
  exact V_lret kX6_standing rfl rfl (hp)
set_option maxHeartbeats 8000000 in
set_option maxRecDepth 100000 in
/-- mostAlike -/
theorem c_N_mostAlike {k t : Int} {S : zAb} {σ : zSt} {post : Option VV → zSt → Prop} (ho : aOk S) (hs : zStn σ S k (zfl S k 9 1).length) (t0 : 0 ≤ t) (t1 : t < 24) (hp : post (some (vZ (maxL (likeL S k t) (zfl S k 9 1) 0))) σ) : Mc 1 MX6_mostAlike [vR 5 0, vZ t, vZ ((zfl S k 9 1).length : Int)] σ post := by
  have hok := aC_ok ho
  have hL9 := zfl_len (S := S) (k := k) 9 1
  obtain ⟨L, hL⟩ : ∃ L, L = zfl S k 9 1 := ⟨_, rfl⟩
  have hmem : ∀ r : Nat, r < L.length → 1 ≤ L.getD r 0 ∧ L.getD r 0 ≤ 9 := fun r x => by
    have z := zfl_rng 9 1 (L.getD r 0) (by rw [← hL]; exact zgetm x)
    omega
  obtain ⟨v, hv⟩ : ∃ v : Int, v = maxL (likeL S k t) L 0 := ⟨_, rfl⟩
  unfold zStn at hs
  rw [← hL] at hp hs hL9 ⊢
  rw [← hv] at hp
  have hkey : ∀ r q : Nat, r < L.length → q < L.length → (σ.2 42 ((r : Int) * 24 + t) = σ.2 42 ((q : Int) * 24 + t) ↔ zRk (cParc (aC S) k (L.getD r 0)) t = zRk (cParc (aC S) k (L.getD q 0)) t) := fun r q x y => by
    obtain ⟨a, a1, a2⟩ := hs r x t t0 t1
    obtain ⟨b, b1, b2⟩ := hs q y t t0 t1
    rw [a1, b1]
    exact key_eq (cParc_v hok (hmem r x).1 (hmem r x).2) (cParc_v hok (hmem q y).1 (hmem q y).2) a2 b2
  have hlk : ∀ v : Int, likeL S k t v = cntL (fun u => decide (zRk (cParc (aC S) k v) t = zRk (cParc (aC S) k u) t)) L 0 := fun v => by unfold likeL; rw [← hL]
  have loop : ∀ (m o : Nat) (y : Int), o + m = L.length → (0 ≤ y ∧ y ≤ 9) → maxL (likeL S k t) (L.drop o) y = v → V 1 MX6_mostAlike 5 [some (vR 5 0), some (vZ t), some (vZ (L.length : Int)), some (vZ y), some (vZ (o : Int)), none, none] [] σ post := by
    intro m
    induction m with
    | zero =>
      intro o y ho1 hy he
      rw [List.drop_of_length_le (by omega)] at he
      have he : y = v := he
      rw [← he] at hp
      refine V_run kX6_mostAlike 4 [1] (show (zr (o : Int) ∧ zr (L.length : Int) ∧ (L.length : Int) ≤ (o : Int)) ∧ V 1 MX6_mostAlike 64 [some (vR 5 0), some (vZ t), some (vZ (L.length : Int)), some (vZ y), some (vZ (o : Int)), none, none] [vZ y] σ post from ⟨(by omega), ?_⟩)
      exact V_iret kX6_mostAlike rfl rfl (hp)
    | succ m ih =>
      intro o y ho1 hy he
      have hol : o < L.length := by omega
      rw [zdropn hol] at he
      have he : maxL (likeL S k t) (L.drop (o + 1)) (if y < likeL S k t (L.getD o 0) then likeL S k t (L.getD o 0) else y) = v := he
      obtain ⟨n9, hn9⟩ : ∃ n : Int, n = likeL S k t (L.getD o 0) := ⟨_, rfl⟩
      rw [← hn9] at he
      have hnb := cntL_b (f := fun u => decide (zRk (cParc (aC S) k (L.getD o 0)) t = zRk (cParc (aC S) k u) t)) L 0
      rw [← hlk, ← hn9] at hnb
      have inner : ∀ (m2 q : Nat) (n : Int), q + m2 = L.length → (0 ≤ n ∧ n ≤ q) → cntL (fun u => decide (zRk (cParc (aC S) k (L.getD o 0)) t = zRk (cParc (aC S) k u) t)) (L.drop q) n = n9 → V 1 MX6_mostAlike 17 [some (vR 5 0), some (vZ t), some (vZ (L.length : Int)), some (vZ y), some (vZ (o : Int)), some (vZ n), some (vZ (q : Int))] [] σ post := by
        intro m2
        induction m2 with
        | zero =>
          intro q n hq1 hn hB
          rw [List.drop_of_length_le (by omega)] at hB
          have hB : n = n9 := hB
          subst hB
          refine V_run kX6_mostAlike 5 [1] (show (zr (q : Int) ∧ zr (L.length : Int) ∧ (L.length : Int) ≤ (q : Int)) ∧ V 1 MX6_mostAlike 53 [some (vR 5 0), some (vZ t), some (vZ (L.length : Int)), some (vZ y), some (vZ (o : Int)), some (vZ n), some (vZ (q : Int))] [vZ n, vZ y] σ post from ⟨(by omega), ?_⟩)
          refine V_max kX6_mostAlike rfl lk_6_368 (by decide) (by decide) (by omega) (by omega) (show V 1 MX6_mostAlike 56 [some (vR 5 0), some (vZ t), some (vZ (L.length : Int)), some (vZ y), some (vZ (o : Int)), some (vZ n), some (vZ (q : Int))] [vZ (if y < n then n else y)] σ post from ?_)
          refine V_run kX6_mostAlike 3 [] (show V 1 MX6_mostAlike 5 [some (vR 5 0), some (vZ t), some (vZ (L.length : Int)), some (vZ (if y < n then n else y)), some (vZ ((o : Int) + 1)), some (vZ n), some (vZ (q : Int))] [] σ post from ?_)
          refine V_drop (L := [some (vR 5 0), some (vZ t), some (vZ (L.length : Int)), some (vZ (if y < n then n else y)), some (vZ ((o : Int) + 1)), none, none]) ⟨rfl, ⟨rfl, ⟨rfl, ⟨rfl, ⟨rfl, trivial⟩⟩⟩⟩⟩ ?_
          exact ih (o + 1) _ (by omega) (by split <;> omega) he
        | succ m2 ih2 =>
          intro q n hq1 hn hB
          have hql : q < L.length := by omega
          rw [zdropn hql] at hB
          have hB : cntL (fun u => decide (zRk (cParc (aC S) k (L.getD o 0)) t = zRk (cParc (aC S) k u) t)) (L.drop (q + 1)) (if decide (zRk (cParc (aC S) k (L.getD o 0)) t = zRk (cParc (aC S) k (L.getD q 0)) t) = true then n + 1 else n) = n9 := hB
          refine V_run kX6_mostAlike 6 [0] (show (zr (q : Int) ∧ zr (L.length : Int) ∧ (q : Int) < (L.length : Int)) ∧ V 1 MX6_mostAlike 27 [some (vR 5 0), some (vZ t), some (vZ (L.length : Int)), some (vZ y), some (vZ (o : Int)), some (vZ n), some (vZ (q : Int))] [vZ t, vZ (o : Int), vR 5 0] σ post from ⟨(by omega), ?_⟩)
          refine V_callV (a := [vZ (o : Int), vZ t]) (rest := []) kX6_mostAlike rfl oX6_standing iX6_standing lk_6_364 rfl rfl rfl (Nat.le_of_ble_eq_true rfl) (Nat.le_of_ble_eq_true rfl) (Nat.le_of_ble_eq_true rfl) (post' := fun zv zσ => V 1 MX6_mostAlike 30 [some (vR 5 0), some (vZ t), some (vZ (L.length : Int)), some (vZ y), some (vZ (o : Int)), some (vZ n), some (vZ (q : Int))] (zv.toList ++ []) zσ post) (c_N_standing (by omega) (by omega) t0 t1 ((show V 1 MX6_mostAlike 30 [some (vR 5 0), some (vZ t), some (vZ (L.length : Int)), some (vZ y), some (vZ (o : Int)), some (vZ n), some (vZ (q : Int))] [vL (σ.2 42 ((o : Int) * 24 + t))] σ post from ?_))) (fun _ _ h => h)
          refine V_run kX6_mostAlike 3 [] (show V 1 MX6_mostAlike 34 [some (vR 5 0), some (vZ t), some (vZ (L.length : Int)), some (vZ y), some (vZ (o : Int)), some (vZ n), some (vZ (q : Int))] [vZ t, vZ (q : Int), vR 5 0, vL (σ.2 42 ((o : Int) * 24 + t))] σ post from ?_)
          refine V_callV (a := [vZ (q : Int), vZ t]) (rest := [vL (σ.2 42 ((o : Int) * 24 + t))]) kX6_mostAlike rfl oX6_standing iX6_standing lk_6_364 rfl rfl rfl (Nat.le_of_ble_eq_true rfl) (Nat.le_of_ble_eq_true rfl) (Nat.le_of_ble_eq_true rfl) (post' := fun zv zσ => V 1 MX6_mostAlike 37 [some (vR 5 0), some (vZ t), some (vZ (L.length : Int)), some (vZ y), some (vZ (o : Int)), some (vZ n), some (vZ (q : Int))] (zv.toList ++ [vL (σ.2 42 ((o : Int) * 24 + t))]) zσ post) (c_N_standing (by omega) (by omega) t0 t1 ((show V 1 MX6_mostAlike 37 [some (vR 5 0), some (vZ t), some (vZ (L.length : Int)), some (vZ y), some (vZ (o : Int)), some (vZ n), some (vZ (q : Int))] [vL (σ.2 42 ((q : Int) * 24 + t)), vL (σ.2 42 ((o : Int) * 24 + t))] σ post from ?_))) (fun _ _ h => h)
          refine V_run kX6_mostAlike 1 [] (show V 1 MX6_mostAlike 38 [some (vR 5 0), some (vZ t), some (vZ (L.length : Int)), some (vZ y), some (vZ (o : Int)), some (vZ n), some (vZ (q : Int))] [vZ (zlcmp (σ.2 42 ((o : Int) * 24 + t)) (σ.2 42 ((q : Int) * 24 + t)))] σ post from ?_)
          have hce : zlcmp (σ.2 42 ((o : Int) * 24 + t)) (σ.2 42 ((q : Int) * 24 + t)) = 0 ↔ zRk (cParc (aC S) k (L.getD o 0)) t = zRk (cParc (aC S) k (L.getD q 0)) t := zcmp0.trans (hkey o q hol hql)
          have hcr := zcmp_rng (σ.2 42 ((o : Int) * 24 + t)) (σ.2 42 ((q : Int) * 24 + t))
          obtain ⟨cm, hcm⟩ : ∃ c : Int, c = zlcmp (σ.2 42 ((o : Int) * 24 + t)) (σ.2 42 ((q : Int) * 24 + t)) := ⟨_, rfl⟩
          rw [← hcm] at hce hcr ⊢
          by_cases h3 : cm = 0
          · skip
            rw [if_pos (decide_eq_true (hce.mp h3))] at hB
            refine V_run kX6_mostAlike 4 [0] (show (zr cm ∧ cm = 0) ∧ V 1 MX6_mostAlike 17 [some (vR 5 0), some (vZ t), some (vZ (L.length : Int)), some (vZ y), some (vZ (o : Int)), some (vZ (n + 1)), some (vZ ((q : Int) + 1))] [] σ post from ⟨(by omega), ?_⟩)
            exact ih2 (q + 1) (n + 1) (by omega) (by omega) hB
          · skip
            rw [if_neg (fun z => h3 (hce.mpr (of_decide_eq_true z)))] at hB
            refine V_run kX6_mostAlike 3 [1] (show (zr cm ∧ ¬ cm = 0) ∧ V 1 MX6_mostAlike 17 [some (vR 5 0), some (vZ t), some (vZ (L.length : Int)), some (vZ y), some (vZ (o : Int)), some (vZ n), some (vZ ((q : Int) + 1))] [] σ post from ⟨(by omega), ?_⟩)
            exact ih2 (q + 1) n (by omega) (by omega) hB
      refine V_run kX6_mostAlike 7 [0] (show (zr (o : Int) ∧ zr (L.length : Int) ∧ (o : Int) < (L.length : Int)) ∧ V 1 MX6_mostAlike 17 [some (vR 5 0), some (vZ t), some (vZ (L.length : Int)), some (vZ y), some (vZ (o : Int)), some (vZ 0), some (vZ 0)] [] σ post from ⟨(by omega), ?_⟩)
      exact inner L.length 0 0 (by omega) (by omega) (by rw [hn9, hlk]; rfl)
  show V 1 MX6_mostAlike 0 [some (vR 5 0), some (vZ t), some (vZ (L.length : Int)), none, none, none, none] [] σ post
  refine V_run kX6_mostAlike 4 [] (show V 1 MX6_mostAlike 5 [some (vR 5 0), some (vZ t), some (vZ (L.length : Int)), some (vZ 0), some (vZ 0), none, none] [] σ post from ?_)
  exact loop L.length 0 0 (by omega) (by omega) hv.symm
set_option maxHeartbeats 8000000 in
set_option maxRecDepth 100000 in
/-- ask -/
theorem c_N_ask {k : Int} {S : zAb} {σ : zSt} {post : Option VV → zSt → Prop} (hR : RC σ S) (ho : aOk S) (hk : zr k) (hp : ∀ σ', dK σ σ' → RC σ' S → post (some (vZ (aAsk S k))) σ') : Mc 4 MX6_ask [vR 5 0, vZ k] σ post := by
  have hok := aC_ok ho
  have hcn := hok.1
  obtain ⟨hT, hPx, hCo, hG, hS, hK, hF⟩ := id hR
  show V 4 MX6_ask 0 [some (vR 5 0), some (vZ k), none, none, none, none, none] [] σ post
  refine V_run kX6_ask 2 [] (show V 4 MX6_ask 2 [some (vR 5 0), some (vZ k), none, none, none, none, none] [vZ k, vR 5 0] σ post from ?_)
  refine V_callV (a := [vZ k]) (rest := []) kX6_ask rfl oX6_isPerson iX6_isPerson lk_6_88 rfl rfl rfl (Nat.le_of_ble_eq_true rfl) (Nat.le_of_ble_eq_true rfl) (Nat.le_of_ble_eq_true rfl) (post' := fun zv zσ => V 4 MX6_ask 5 [some (vR 5 0), some (vZ k), none, none, none, none, none] (zv.toList ++ []) zσ post) (c_N_isPerson hok hPx.1.1 (by omega) ((show V 4 MX6_ask 5 [some (vR 5 0), some (vZ k), none, none, none, none, none] [vZ (if 0 ≤ k ∧ k < cn (aC S) then 1 else 0)] σ post from ?_))) (fun _ _ h => h)
  by_cases h1 : 0 ≤ k ∧ k < cn (aC S)
  rotate_left
  · skip
    refine V_top (if_neg h1) ?_
    refine V_run kX6_ask 2 [0] (show (zr 0 ∧ 0 = 0) ∧ V 4 MX6_ask 10 [some (vR 5 0), some (vZ k), none, none, none, none, none] [vZ (-2)] σ post from ⟨(by omega), ?_⟩)
    have e9 : aAsk S k = -2 := if_neg (by omega)
    rw [e9] at hp
    exact V_iret kX6_ask rfl rfl (hp σ dK.rf hR)
  refine V_top (if_pos h1) ?_
  refine V_run kX6_ask 3 [1] (show (zr 1 ∧ ¬ 1 = 0) ∧ V 4 MX6_ask 13 [some (vR 5 0), some (vZ k), none, none, none, none, none] [vZ k, vR 5 0] σ post from ⟨(by omega), ?_⟩)
  have e9 : aAsk S k = zAk (aC S) k (zPab S k 9 1 0) 24 0 (-1) 0 := if_pos h1
  rw [e9] at hp
  have hpop := zPab_pop (S := S) (k := k) 9 1 0 0 (by omega) (by omega) (by decide) (by decide)
  have hL9 := zfl_len (S := S) (k := k) 9 1
  have hbt : ∀ v : Int, 1 ≤ v → v < 10 → (zbt (zPab S k 9 1 0) v = true ↔ aFit S (cParc (aC S) k v) = true) := fun v a b => by
    rw [zPab_bt (by omega) (by omega) 9 1 0 (by omega) (by omega), zbt_0]
    constructor
    · rintro (h | h)
      · exact absurd h (by decide)
      · exact h.2.2
    · intro h; exact Or.inr ⟨by omega, by omega, h⟩
  have hAm : ∀ t : Int, zAm (aC S) k (zPab S k 9 1 0) t 9 1 0 = maxL (likeL S k t) (zfl S k 9 1) 0 := fun t => zAm_L hbt 9 1 0 (by omega) (by omega) (by omega)
  have hAb : ∀ t : Int, 0 ≤ maxL (likeL S k t) (zfl S k 9 1) 0 ∧ maxL (likeL S k t) (zfl S k 9 1) 0 ≤ ((zfl S k 9 1).length : Int) := fun t => maxL_b (fun v => by
    have z := cntL_b (f := fun u => decide (zRk (cParc (aC S) k v) t = zRk (cParc (aC S) k u) t)) (zfl S k 9 1) 0
    have z : likeL S k t v ≤ 0 + ((zfl S k 9 1).length : Int) := z.2
    omega) _ 0 (Int.le_refl _) (by omega)
  obtain ⟨v, hv⟩ : ∃ v : Int, v = zAk (aC S) k (zPab S k 9 1 0) 24 0 (-1) 0 := ⟨_, rfl⟩
  rw [← hv] at hp
  refine V_callV (a := [vZ k]) (rest := []) kX6_ask rfl oX6_fittingParcels iX6_fittingParcels lk_6_223 rfl rfl rfl (Nat.le_of_ble_eq_true rfl) (Nat.le_of_ble_eq_true rfl) (Nat.le_of_ble_eq_true rfl) (post' := fun zv zσ => V 4 MX6_ask 16 [some (vR 5 0), some (vZ k), none, none, none, none, none] (zv.toList ++ []) zσ post) (c_N_parcels hR ho h1.1 h1.2 (fun σ9 hk9 hs9 => (show V 4 MX6_ask 16 [some (vR 5 0), some (vZ k), none, none, none, none, none] [vZ (zPab S k 9 1 0)] σ9 post from ?_))) (fun _ _ h => h)
  have hp := hp σ9 hk9.k (RC_tr hk9 hR)
  refine V_callS (a := [vZ (zPab S k 9 1 0)]) (rest := []) kX6_ask rfl oJ6_bitCount_0f7a4 iJ6_bitCount_0f7a4 lk_6_202 rfl rfl (Nat.le_of_ble_eq_true rfl) (Nat.le_of_ble_eq_true rfl) (Nat.le_of_ble_eq_true rfl) (post' := fun zv zσ => V 4 MX6_ask 19 [some (vR 5 0), some (vZ k), none, none, none, none, none] (zv.toList ++ []) zσ post) (c_bitCount hpop.2.1 hpop.2.2 ((show V 4 MX6_ask 19 [some (vR 5 0), some (vZ k), none, none, none, none, none] [vZ (zpop (zPab S k 9 1 0))] σ9 post from ?_))) (fun _ _ h => h)
  refine V_top (hpop.1.trans (Int.zero_add _)) ?_
  refine V_run kX6_ask 7 [] (show V 4 MX6_ask 28 [some (vR 5 0), some (vZ k), some (vZ ((zfl S k 9 1).length : Int)), some (vZ 0), some (vZ ((zfl S k 9 1).length : Int)), some (vZ 0), none] [] σ9 post from ?_)
  have loop : ∀ (m : Nat) (t a l ar lr : Int), 0 ≤ t → t + m = 24 → (0 ≤ a ∧ a ≤ 23) → (0 ≤ l ∧ l ≤ 9) → ((t = 0 ∧ ar = -1 ∧ a = 0 ∧ l = ((zfl S k 9 1).length : Int)) ∨ (0 < t ∧ a = ar ∧ l = lr)) → zAk (aC S) k (zPab S k 9 1 0) m t ar lr = v → V 4 MX6_ask 28 [some (vR 5 0), some (vZ k), some (vZ ((zfl S k 9 1).length : Int)), some (vZ a), some (vZ l), some (vZ t), none] [] σ9 post := by
    intro m
    induction m with
    | zero =>
      intro t a l ar lr t0 t1 ha hl hrel he
      unfold zAk at he
      have e8 : a = v := by omega
      rw [← e8] at hp
      refine V_run kX6_ask 4 [1] (show (zr t ∧ zr 24 ∧ 24 ≤ t) ∧ V 4 MX6_ask 65 [some (vR 5 0), some (vZ k), some (vZ ((zfl S k 9 1).length : Int)), some (vZ a), some (vZ l), some (vZ t), none] [vZ a] σ9 post from ⟨(by omega), ?_⟩)
      exact V_iret kX6_ask rfl rfl (hp)
    | succ m ih =>
      intro t a l ar lr t0 t1 ha hl hrel he
      unfold zAk at he
      rw [hAm] at he
      have hb := hAb t
      refine V_run kX6_ask 6 [0] (show (zr t ∧ zr 24 ∧ t < 24) ∧ V 4 MX6_ask 39 [some (vR 5 0), some (vZ k), some (vZ ((zfl S k 9 1).length : Int)), some (vZ a), some (vZ l), some (vZ t), none] [vZ ((zfl S k 9 1).length : Int), vZ t, vR 5 0] σ9 post from ⟨(by omega), ?_⟩)
      refine V_callV (a := [vZ t, vZ ((zfl S k 9 1).length : Int)]) (rest := []) kX6_ask rfl oX6_mostAlike iX6_mostAlike lk_6_226 rfl rfl rfl (Nat.le_of_ble_eq_true rfl) (Nat.le_of_ble_eq_true rfl) (Nat.le_of_ble_eq_true rfl) (post' := fun zv zσ => V 4 MX6_ask 42 [some (vR 5 0), some (vZ k), some (vZ ((zfl S k 9 1).length : Int)), some (vZ a), some (vZ l), some (vZ t), none] (zv.toList ++ []) zσ post) (c_N_mostAlike ho hs9 t0 (by omega) ((show V 4 MX6_ask 42 [some (vR 5 0), some (vZ k), some (vZ ((zfl S k 9 1).length : Int)), some (vZ a), some (vZ l), some (vZ t), none] [vZ (maxL (likeL S k t) (zfl S k 9 1) 0)] σ9 post from ?_))) (fun _ _ h => h)
      obtain ⟨y, hy⟩ : ∃ y : Int, y = maxL (likeL S k t) (zfl S k 9 1) 0 := ⟨_, rfl⟩
      rw [← hy] at he hb
      rw [← hy]
      refine V_run kX6_ask 3 [] (show V 4 MX6_ask 48 [some (vR 5 0), some (vZ k), some (vZ ((zfl S k 9 1).length : Int)), some (vZ a), some (vZ l), some (vZ t), some (vZ y)] [vZ l, vZ y] σ9 post from ?_)
      rcases Int.lt_or_le y l with h3 | h3
      · skip
        rw [if_pos (by omega)] at he
        refine V_run kX6_ask 7 [0] (show (zr y ∧ zr l ∧ y < l) ∧ V 4 MX6_ask 28 [some (vR 5 0), some (vZ k), some (vZ ((zfl S k 9 1).length : Int)), some (vZ t), some (vZ y), some (vZ (t + 1)), some (vZ y)] [] σ9 post from ⟨(by omega), ?_⟩)
        refine V_drop (L := [some (vR 5 0), some (vZ k), some (vZ ((zfl S k 9 1).length : Int)), some (vZ t), some (vZ y), some (vZ (t + 1)), none]) ⟨rfl, ⟨rfl, ⟨rfl, ⟨rfl, ⟨rfl, ⟨rfl, trivial⟩⟩⟩⟩⟩⟩ ?_
        exact ih (t + 1) t y t y (by omega) (by omega) (by omega) (by omega) (by omega) he
      · skip
        refine V_run kX6_ask 3 [1] (show (zr y ∧ zr l ∧ l ≤ y) ∧ V 4 MX6_ask 28 [some (vR 5 0), some (vZ k), some (vZ ((zfl S k 9 1).length : Int)), some (vZ a), some (vZ l), some (vZ (t + 1)), some (vZ y)] [] σ9 post from ⟨(by omega), ?_⟩)
        refine V_drop (L := [some (vR 5 0), some (vZ k), some (vZ ((zfl S k 9 1).length : Int)), some (vZ a), some (vZ l), some (vZ (t + 1)), none]) ⟨rfl, ⟨rfl, ⟨rfl, ⟨rfl, ⟨rfl, ⟨rfl, trivial⟩⟩⟩⟩⟩⟩ ?_
        rcases hrel with ⟨q1, q2, q3, q4⟩ | ⟨q1, q2, q3⟩
        · rw [if_pos (Or.inl q2)] at he; exact ih (t + 1) a l t y (by omega) (by omega) ha hl (by omega) he
        · rw [if_neg (by omega)] at he; exact ih (t + 1) a l ar lr (by omega) (by omega) ha hl (by omega) he
  exact loop 24 0 0 _ (-1) 0 (by omega) (by omega) (by omega) (by omega) (Or.inl ⟨rfl, rfl, rfl, rfl⟩) hv.symm
