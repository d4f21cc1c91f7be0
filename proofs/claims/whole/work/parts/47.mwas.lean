/-- a minute's queue as one number, the first place highest -/
def zRh (C : zCf) (t : Int) : Nat → Int → Nat → Nat
  | 0, _, a => a
  | m + 1, p, a => zRh C t m (p + 1) (16 * a + (zWho C t p + 1).toNat)
def zRk (C : zCf) (t : Int) : Nat := zRh C t 12 0 0
theorem zRh_lt {C : zCf} (hC : zCv C) {t : Int} : ∀ (m p a : Nat), p + m = 12 → a < 16 ^ p → zRh C t m p a < 16 ^ 12
  | 0, p, a, e, h => by
    have e : p = 12 := by omega
    subst e; exact h
  | m + 1, p, a, e, h => by
    have hw := zWho_rng hC t (j := (p : Int)) (by omega)
    have h9 : (16 : Nat) ^ (p + 1) = 16 * 16 ^ p := by rw [Nat.pow_succ, Nat.mul_comm]
    exact zRh_lt hC m (p + 1) _ (by omega) (by rw [h9]; omega)
theorem zRk_lt {C : zCf} (hC : zCv C) (t : Int) : zRk C t < 16 ^ 12 := zRh_lt hC 12 0 0 rfl (by decide)
theorem w1_all : ∀ n : Nat, n < 13 → zi2l ((n : Int) - 1) + 1 = lN n := by decide +kernel
theorem zN_add (a b : Nat) : lN a + lN b = lN (a + b) := wb_inj (by rw [Int64.toBitVec_add, wb_tb, wb_tb, wb_tb]; apply BitVec.eq_of_toNat_eq; simp [BitVec.toNat_add, BitVec.toNat_ofNat])
theorem zN_mul (a b : Nat) : lN a * lN b = lN (a * b) := wb_inj (by rw [Int64.toBitVec_mul, wb_tb, wb_tb, wb_tb]; apply BitVec.eq_of_toNat_eq; simp [BitVec.toNat_mul, BitVec.toNat_ofNat, Nat.mul_mod])
theorem row_horner {a : Nat} {w : Int} (h0 : -1 ≤ w) (h : w < 12) : (16 : Int64) * lN a + zi2l w + 1 = lN (16 * a + (w + 1).toNat) := by
  have h1 := w1_all (w + 1).toNat (by omega)
  rw [show (((w + 1).toNat : Nat) : Int) - 1 = w by omega] at h1
  rw [Int64.add_assoc, h1, show (16 : Int64) = lN 16 from rfl, zN_mul, zN_add]
def zSos (S : zAb) (k : Int) : Nat → Int → Int → Int
  | 0, _, b => b
  | m + 1, v, b => zSos S k m (v + 1) (if aFit S (cSort (aC S) k v) = true then zor b (zshl 1 v) else b)
def zPab (S : zAb) (k : Int) : Nat → Int → Int → Int
  | 0, _, b => b
  | m + 1, v, b => zPab S k m (v + 1) (if aFit S (cParc (aC S) k v) = true then zor b (zshl 1 v) else b)
def zRb (σ : zSt) (C : zCf) (k i t : Int) : Prop := ∀ v u : Int, 1 ≤ v → 0 ≤ u → u < 24 → (v < i ∨ (v = i ∧ u < t)) → σ.2 69 (24 * v + u) = lN (zRk (cParc C k v) u)
def zAn (C : zCf) (k bits t a : Int) : Nat → Int → Int → Int
  | 0, _, n => n
  | m + 1, b, n => zAn C k bits t a m (b + 1) (if (zbt bits a = true ∧ zbt bits b = true) ∧ zRk (cParc C k a) t = zRk (cParc C k b) t then n + 1 else n)
def zAm (C : zCf) (k bits t : Int) : Nat → Int → Int → Int
  | 0, _, y => y
  | m + 1, a, y => zAm C k bits t m (a + 1) (if y < zAn C k bits t a 9 1 0 then zAn C k bits t a 9 1 0 else y)
def zAk (C : zCf) (k bits : Int) : Nat → Int → Int → Int → Int
  | 0, _, b, _ => b
  | m + 1, t, b, l => if b = -1 ∨ zAm C k bits t 9 1 0 < l then zAk C k bits m (t + 1) t (zAm C k bits t 9 1 0) else zAk C k bits m (t + 1) b l
def aWas (S : zAb) (k x : Int) : Int := if (0 ≤ k ∧ k < cn (aC S)) ∧ 0 ≤ x ∧ x ≤ 1 then (if x = 0 then zSos S k 3 0 0 else zPab S k 9 1 0) else -2
def aAsk (S : zAb) (k : Int) : Int := if 0 ≤ k ∧ k < cn (aC S) then zAk (aC S) k (zPab S k 9 1 0) 24 0 (-1) 0 else -2
theorem zAn_b {C : zCf} {k bits t a : Int} : ∀ (m : Nat) (b n : Int), n ≤ zAn C k bits t a m b n ∧ zAn C k bits t a m b n ≤ n + m
  | 0, _, n => by unfold zAn; omega
  | m + 1, b, n => by
    unfold zAn
    have h := zAn_b (C := C) (k := k) (bits := bits) (t := t) (a := a) m (b + 1)
    split
    · have := h (n + 1); omega
    · have := h n; omega
theorem zAm_b {C : zCf} {k bits t : Int} : ∀ (m : Nat) (a y : Int), 0 ≤ y → y ≤ 9 → 0 ≤ zAm C k bits t m a y ∧ zAm C k bits t m a y ≤ 9
  | 0, _, y, h0, h => by unfold zAm; omega
  | m + 1, a, y, h0, h => by
    unfold zAm
    have hb := zAn_b (C := C) (k := k) (bits := bits) (t := t) (a := a) 9 1 0
    split
    · exact zAm_b m (a + 1) _ (by omega) (by omega)
    · exact zAm_b m (a + 1) _ h0 h
set_option maxHeartbeats 4000000 in
set_option maxRecDepth 100000 in
/-- sortsBy -/
theorem c_M_sortsBy {k : Int} {S : zAb} {σ : zSt} {post : Option VV → zSt → Prop} (hR : RM σ S) (ho : aOk S) (k0 : 0 ≤ k) (k1 : k < cn (aC S)) (hp : ∀ σ', mKeep σ σ' → post (some (vZ (zSos S k 3 0 0))) σ') : Mc 7 MX7_sortsBy [vR 6 44, vZ k] σ post := by
  have hok := aC_ok ho
  have hcn := hok.1
  obtain ⟨v, hv⟩ : ∃ v : Int, v = zSos S k 3 0 0 := ⟨_, rfl⟩
  rw [← hv] at hp
  show V 7 MX7_sortsBy 0 [some (vR 6 44), some (vZ k), none, none, none] [] σ post
  refine V_run kX7_sortsBy 1 [] (show V 7 MX7_sortsBy 1 [some (vR 6 44), some (vZ k), none, none, none] [vR 6 44] σ post from ?_)
  refine V_callV (a := []) (rest := []) kX7_sortsBy rfl oX7_asTold iX7_asTold lk_7_213 rfl rfl rfl (Nat.le_of_ble_eq_true rfl) (Nat.le_of_ble_eq_true rfl) (Nat.le_of_ble_eq_true rfl) (post' := fun zv zσ => V 7 MX7_sortsBy 4 [some (vR 6 44), some (vZ k), none, none, none] (zv.toList ++ []) zσ post) (c_M_asTold hR ho (fun σ1 hk1 hc1 hn1 => (show V 7 MX7_sortsBy 4 [some (vR 6 44), some (vZ k), none, none, none] [] σ1 post from ?_))) (fun _ _ h => h)
  have hc9 := hok.2.2.1 k k0 k1
  have ht9 := (hc1.2.2.1 k k0 k1).2.1
  refine V_run kX7_sortsBy 4 [] (show (0 ≤ k ∧ k < 13) ∧ V 7 MX7_sortsBy 10 [some (vR 6 44), some (vZ k), none, none, none] [vZ (σ1.1 48 k)] σ1 post from ⟨(by omega), ?_⟩)
  refine V_top (ht9) ?_
  have loop : ∀ (m : Nat) (i a : Int), 0 ≤ i → i + m = 3 → zr a → zSos S k m i a = v → ∀ (C2 : zCf) (σ2 : zSt), mKeep σ σ2 → zMc σ2 C2 → (∀ y, cSort C2 k y = cSort (aC S) k y) → V 7 MX7_sortsBy 16 [some (vR 6 44), some (vZ k), some (vZ (cSo (aC S) k)), some (vZ a), some (vZ i)] [] σ2 post := by
    intro m
    induction m with
    | zero =>
      intro i a i0 i1 hz he C2 σ2 hk hc hC2
      unfold zSos at he
      rw [← he] at hp
      refine V_run kX7_sortsBy 9 [1] (show (zr i ∧ zr 3 ∧ 3 ≤ i) ∧ (0 ≤ k ∧ k < 13) ∧ V 7 MX7_sortsBy 62 [some (vR 6 44), some (vZ k), some (vZ (cSo (aC S) k)), some (vZ a), some (vZ i)] [vZ a] (uI σ2 48 k (cSo (aC S) k)) post from ⟨(by omega), (by omega), ?_⟩)
      exact V_iret kX7_sortsBy rfl rfl (hp _ (hk.u (by decide)))
    | succ m ih =>
      intro i a i0 i1 hz he C2 σ2 hk hc hC2
      unfold zSos at he
      have hc3 := zMc_sort (k := k) (v := i) hc i0 (by omega)
      rw [hC2] at hc3
      have hk3 := hk.u (k := 48) (j := k) (v := i) (by decide)
      have hR3 := RM_k hk3 hR
      refine V_run kX7_sortsBy 10 [0] (show (zr i ∧ zr 3 ∧ i < 3) ∧ (0 ≤ k ∧ k < 13) ∧ V 7 MX7_sortsBy 32 [some (vR 6 44), some (vZ k), some (vZ (cSo (aC S) k)), some (vZ a), some (vZ i)] [vR 6 44, vZ a] (uI σ2 48 k i) post from ⟨(by omega), (by omega), ?_⟩)
      refine V_callV (a := []) (rest := [vZ a]) kX7_sortsBy rfl oX7_isSeen iX7_isSeen lk_7_279 rfl rfl rfl (Nat.le_of_ble_eq_true rfl) (Nat.le_of_ble_eq_true rfl) (Nat.le_of_ble_eq_true rfl) (post' := fun zv zσ => V 7 MX7_sortsBy 35 [some (vR 6 44), some (vZ k), some (vZ (cSo (aC S) k)), some (vZ a), some (vZ i)] (zv.toList ++ [vZ a]) zσ post) (c_M_isSeen hR3 ho hc3 (fun σ4 hf4 hm4 hr4 => (show V 7 MX7_sortsBy 35 [some (vR 6 44), some (vZ k), some (vZ (cSo (aC S) k)), some (vZ a), some (vZ i)] [vZ (if aFit S (cSort (aC S) k i) = true then 1 else 0), vZ a] σ4 post from ?_))) (fun _ _ h => h)
      have go := fun a2 hz2 h2 => ih (i + 1) a2 (by omega) (by omega) hz2 h2 _ σ4 (hk3.tr hf4.k) (zMc_nf hf4 hc3) (fun y => (show cSort (cSort (aC S) k i) k y = cSort (aC S) k y by unfold cSort; rw [fPut_fPut]))
      by_cases h1 : aFit S (cSort (aC S) k i) = true
      · skip
        rw [if_pos h1] at he
        refine V_top (if_pos h1) ?_
        refine V_run kX7_sortsBy 9 [0] (show (zr 1 ∧ ¬ 1 = 0) ∧ V 7 MX7_sortsBy 16 [some (vR 6 44), some (vZ k), some (vZ (cSo (aC S) k)), some (vZ (zor a (zshl 1 i))), some (vZ (i + 1))] [] σ4 post from ⟨(by omega), ?_⟩)
        exact go _ (zor_zr _ _) he
      · skip
        rw [if_neg h1] at he
        refine V_top (if_neg h1) ?_
        refine V_run kX7_sortsBy 6 [1] (show (zr 0 ∧ 0 = 0) ∧ V 7 MX7_sortsBy 16 [some (vR 6 44), some (vZ k), some (vZ (cSo (aC S) k)), some (vZ (zor a 0)), some (vZ (i + 1))] [] σ4 post from ⟨(by omega), ?_⟩)
        rw [zor_0 hz]
        exact go _ hz he
  refine V_run kX7_sortsBy 5 [] (show V 7 MX7_sortsBy 16 [some (vR 6 44), some (vZ k), some (vZ (cSo (aC S) k)), some (vZ 0), some (vZ 0)] [] σ1 post from ?_)
  exact loop 3 0 0 (by omega) (by omega) (by decide) hv.symm (aC S) σ1 hk1 hc1 (fun _ => rfl)
set_option maxHeartbeats 4000000 in
set_option maxRecDepth 100000 in
/-- rowAt -/
theorem c_M_rowAt {C : zCf} {t : Int} {σ : zSt} {post : Option VV → zSt → Prop} (hC : zCv C) (hrec : zRec σ C 24) (t0 : 0 ≤ t) (t1 : t < 24) (hp : post (some (vL (lN (zRk C t)))) σ) : Mc 0 MX7_rowAt [vR 6 44, vZ t] σ post := by
  obtain ⟨v, hv⟩ : ∃ v : Nat, v = zRk C t := ⟨_, rfl⟩
  rw [← hv] at hp
  have loop : ∀ (m : Nat) (p : Int) (a : Nat), 0 ≤ p → p + m = 12 → zRh C t m p a = v → V 0 MX7_rowAt 5 [some (vR 6 44), some (vZ t), some (vL (lN a)), none, some (vZ p)] [] σ post := by
    intro m
    induction m with
    | zero =>
      intro p a p0 p1 he
      unfold zRh at he
      rw [← he] at hp
      refine V_run kX7_rowAt 4 [1] (show (zr p ∧ zr 12 ∧ 12 ≤ p) ∧ V 0 MX7_rowAt 41 [some (vR 6 44), some (vZ t), some (vL (lN a)), none, some (vZ p)] [vL (lN a)] σ post from ⟨(by omega), ?_⟩)
      exact V_lret kX7_rowAt rfl rfl (hp)
    | succ m ih =>
      intro p a p0 p1 he
      unfold zRh at he
      have h3 := ((hrec t t0 t1).1 p p0 (by omega)).1
      have hw := zWho_rng hC t (j := p) p0
      refine V_run kX7_rowAt 14 [0] (show (zr p ∧ zr 12 ∧ p < 12) ∧ (0 ≤ ((12 * t) + p) ∧ ((12 * t) + p) < 288) ∧ V 0 MX7_rowAt 29 [some (vR 6 44), some (vZ t), some (vL (lN a)), none, some (vZ p)] [vZ (σ.1 61 ((12 * t) + p)), vL ((16 : Int64) * (lN a))] σ post from ⟨(by omega), (by omega), ?_⟩)
      refine V_top (h3) ?_
      refine V_run kX7_rowAt 4 [] (show V 0 MX7_rowAt 33 [some (vR 6 44), some (vZ t), some (vL (lN a)), none, some (vZ p)] [vL ((((16 : Int64) * (lN a)) + (zi2l (zWho C t p))) + (1 : Int64))] σ post from ?_)
      refine V_topL (row_horner hw.1 hw.2) ?_
      refine V_run kX7_rowAt 3 [] (show V 0 MX7_rowAt 5 [some (vR 6 44), some (vZ t), some (vL (lN (16 * a + (zWho C t p + 1).toNat))), none, some (vZ (p + 1))] [] σ post from ?_)
      exact ih (p + 1) _ (by omega) (by omega) he
  show V 0 MX7_rowAt 0 [some (vR 6 44), some (vZ t), none, none, none] [] σ post
  refine V_run kX7_rowAt 4 [] (show V 0 MX7_rowAt 5 [some (vR 6 44), some (vZ t), some (vL (0 : Int64)), none, some (vZ 0)] [] σ post from ?_)
  exact loop 12 0 0 (by omega) (by omega) hv.symm
set_option maxHeartbeats 4000000 in
set_option maxRecDepth 100000 in
/-- parcelsBy -/
theorem c_M_parcelsBy {k : Int} {S : zAb} {σ : zSt} {post : Option VV → zSt → Prop} (hR : RM σ S) (ho : aOk S) (k0 : 0 ≤ k) (k1 : k < cn (aC S)) (hp : ∀ σ', mKeep σ σ' → (∀ v u : Int, 1 ≤ v → v ≤ 9 → 0 ≤ u → u < 24 → σ'.2 69 (24 * v + u) = lN (zRk (cParc (aC S) k v) u)) → post (some (vZ (zPab S k 9 1 0))) σ') : Mc 7 MX7_parcelsBy [vR 6 44, vZ k] σ post := by
  have hok := aC_ok ho
  have hcn := hok.1
  obtain ⟨v, hv⟩ : ∃ v : Int, v = zPab S k 9 1 0 := ⟨_, rfl⟩
  rw [← hv] at hp
  show V 7 MX7_parcelsBy 0 [some (vR 6 44), some (vZ k), none, none, none, none] [] σ post
  refine V_run kX7_parcelsBy 1 [] (show V 7 MX7_parcelsBy 1 [some (vR 6 44), some (vZ k), none, none, none, none] [vR 6 44] σ post from ?_)
  refine V_callV (a := []) (rest := []) kX7_parcelsBy rfl oX7_asTold iX7_asTold lk_7_213 rfl rfl rfl (Nat.le_of_ble_eq_true rfl) (Nat.le_of_ble_eq_true rfl) (Nat.le_of_ble_eq_true rfl) (post' := fun zv zσ => V 7 MX7_parcelsBy 4 [some (vR 6 44), some (vZ k), none, none, none, none] (zv.toList ++ []) zσ post) (c_M_asTold hR ho (fun σ1 hk1 hc1 hn1 => (show V 7 MX7_parcelsBy 4 [some (vR 6 44), some (vZ k), none, none, none, none] [] σ1 post from ?_))) (fun _ _ h => h)
  have hc9 := hok.2.2.1 k k0 k1
  have ht9 := (hc1.2.2.1 k k0 k1).2.2
  refine V_run kX7_parcelsBy 4 [] (show (0 ≤ k ∧ k < 13) ∧ V 7 MX7_parcelsBy 10 [some (vR 6 44), some (vZ k), none, none, none, none] [vZ (σ1.1 49 k)] σ1 post from ⟨(by omega), ?_⟩)
  refine V_top (ht9) ?_
  have loop : ∀ (m : Nat) (i a : Int), 1 ≤ i → i + m = 10 → zr a → zPab S k m i a = v → ∀ (C2 : zCf) (σ2 : zSt), mKeep σ σ2 → zMc σ2 C2 → (∀ y, cParc C2 k y = cParc (aC S) k y) → zRb σ2 (aC S) k i 0 → V 7 MX7_parcelsBy 16 [some (vR 6 44), some (vZ k), some (vZ (cPa (aC S) k)), some (vZ a), some (vZ i), none] [] σ2 post := by
    intro m
    induction m with
    | zero =>
      intro i a i0 i1 hz he C2 σ2 hk hc hC2 hb
      unfold zPab at he
      have hi : i = 10 := by omega
      subst hi
      refine V_run kX7_parcelsBy 9 [1] (show (zr 10 ∧ zr 10 ∧ 10 ≤ 10) ∧ (0 ≤ k ∧ k < 13) ∧ V 7 MX7_parcelsBy 98 [some (vR 6 44), some (vZ k), some (vZ (cPa (aC S) k)), some (vZ a), some (vZ 10), none] [vZ a] (uI σ2 49 k (cPa (aC S) k)) post from ⟨(by omega), (by omega), ?_⟩)
      have hp := hp _ (hk.u (k := 49) (j := k) (v := cPa (aC S) k) (by decide)) (fun x u x0 x1 u0 u1 => hb x u x0 u0 u1 (Or.inl (by omega)))
      rw [← he] at hp
      exact V_iret kX7_parcelsBy rfl rfl (hp)
    | succ m ih =>
      intro i a i0 i1 hz he C2 σ2 hk hc hC2 hb
      unfold zPab at he
      have hc3 := zMc_parc (k := k) (v := i) hc i0 (by omega)
      rw [hC2] at hc3
      have hv3 := zMc_C hc3
      have hk3 := hk.u (k := 49) (j := k) (v := i) (by decide)
      have hR3 := RM_k hk3 hR
      refine V_run kX7_parcelsBy 10 [0] (show (zr i ∧ zr 10 ∧ i < 10) ∧ (0 ≤ k ∧ k < 13) ∧ V 7 MX7_parcelsBy 33 [some (vR 6 44), some (vZ k), some (vZ (cPa (aC S) k)), some (vZ a), some (vZ i), none] [vR 6 44, vZ a] (uI σ2 49 k i) post from ⟨(by omega), (by omega), ?_⟩)
      refine V_callV (a := []) (rest := [vZ a]) kX7_parcelsBy rfl oX7_isSeen iX7_isSeen lk_7_279 rfl rfl rfl (Nat.le_of_ble_eq_true rfl) (Nat.le_of_ble_eq_true rfl) (Nat.le_of_ble_eq_true rfl) (post' := fun zv zσ => V 7 MX7_parcelsBy 36 [some (vR 6 44), some (vZ k), some (vZ (cPa (aC S) k)), some (vZ a), some (vZ i), none] (zv.toList ++ [vZ a]) zσ post) (c_M_isSeen hR3 ho hc3 (fun σ4 hf4 hm4 hr4 => (show V 7 MX7_parcelsBy 36 [some (vR 6 44), some (vZ k), some (vZ (cPa (aC S) k)), some (vZ a), some (vZ i), none] [vZ (if aFit S (cParc (aC S) k i) = true then 1 else 0), vZ a] σ4 post from ?_))) (fun _ _ h => h)
      have inner : ∀ (a2 : Int), zr a2 → zPab S k m (i + 1) a2 = v → ∀ (m2 : Nat) (t : Int), 0 ≤ t → t + m2 = 24 → ∀ σ5 : zSt, σ5.1 = σ4.1 → mKeep σ σ5 → zRb σ5 (aC S) k i t → V 7 MX7_parcelsBy 52 [some (vR 6 44), some (vZ k), some (vZ (cPa (aC S) k)), some (vZ a2), some (vZ i), some (vZ t)] [] σ5 post := by
        intro a2 hz2 h2 m2
        induction m2 with
        | zero =>
          intro t t0 t1 σ5 e5 hk5 hb5
          refine V_run kX7_parcelsBy 5 [1] (show (zr t ∧ zr 24 ∧ 24 ≤ t) ∧ V 7 MX7_parcelsBy 16 [some (vR 6 44), some (vZ k), some (vZ (cPa (aC S) k)), some (vZ a2), some (vZ (i + 1)), some (vZ t)] [] σ5 post from ⟨(by omega), ?_⟩)
          refine V_drop (L := [some (vR 6 44), some (vZ k), some (vZ (cPa (aC S) k)), some (vZ a2), some (vZ (i + 1)), none]) ⟨rfl, ⟨rfl, ⟨rfl, ⟨rfl, ⟨rfl, trivial⟩⟩⟩⟩⟩ ?_
          refine ih (i + 1) a2 (by omega) (by omega) hz2 h2 _ σ5 hk5 (show zMc σ5 (cParc (aC S) k i) from ?_) (fun y => (show cParc (cParc (aC S) k i) k y = cParc (aC S) k y by unfold cParc; rw [fPut_fPut])) (fun x u x0 u0 u1 q => hb5 x u x0 u0 u1 (by omega))
          have z := zMc_nf hf4 hc3
          unfold zMc at z ⊢
          rw [e5]
          exact z
        | succ m2 ih2 =>
          intro t t0 t1 σ5 e5 hk5 hb5
          have hr5 : zRec σ5 (cParc (aC S) k i) 24 := by unfold zRec at hr4 ⊢; rw [e5]; exact hr4
          refine V_run kX7_parcelsBy 12 [0] (show (zr t ∧ zr 24 ∧ t < 24) ∧ V 7 MX7_parcelsBy 74 [some (vR 6 44), some (vZ k), some (vZ (cPa (aC S) k)), some (vZ a2), some (vZ i), some (vZ t)] [vZ t, vR 6 44, vZ ((24 * i) + t), vR 9 69] σ5 post from ⟨(by omega), ?_⟩)
          refine V_callV (a := [vZ t]) (rest := [vZ ((24 * i) + t), vR 9 69]) kX7_parcelsBy rfl oX7_rowAt iX7_rowAt lk_7_288 rfl rfl rfl (Nat.le_of_ble_eq_true rfl) (Nat.le_of_ble_eq_true rfl) (Nat.le_of_ble_eq_true rfl) (post' := fun zv zσ => V 7 MX7_parcelsBy 77 [some (vR 6 44), some (vZ k), some (vZ (cPa (aC S) k)), some (vZ a2), some (vZ i), some (vZ t)] (zv.toList ++ [vZ ((24 * i) + t), vR 9 69]) zσ post) (c_M_rowAt hv3 hr5 t0 (by omega) ((show V 7 MX7_parcelsBy 77 [some (vR 6 44), some (vZ k), some (vZ (cPa (aC S) k)), some (vZ a2), some (vZ i), some (vZ t)] [vL (lN (zRk (cParc (aC S) k i) t)), vZ ((24 * i) + t), vR 9 69] σ5 post from ?_))) (fun _ _ h => h)
          refine V_run kX7_parcelsBy 3 [] (show (0 ≤ ((24 * i) + t) ∧ ((24 * i) + t) < 240) ∧ V 7 MX7_parcelsBy 52 [some (vR 6 44), some (vZ k), some (vZ (cPa (aC S) k)), some (vZ a2), some (vZ i), some (vZ (t + 1))] [] (uL σ5 69 ((24 * i) + t) (lN (zRk (cParc (aC S) k i) t))) post from ⟨(by omega), ?_⟩)
          refine ih2 (t + 1) (by omega) (by omega) _ e5 (hk5.l (by decide)) (fun x u x0 u0 u1 q => ?_)
          rw [uL_at]
          by_cases z : 24 * x + u = 24 * i + t
          · have zx : x = i := by omega
            have zu : u = t := by omega
            rw [if_pos z, zx, zu]
          · rw [if_neg z]; exact hb5 x u x0 u0 u1 (by omega)
      have go := fun a2 hz2 h2 => inner a2 hz2 h2 24 0 (by omega) (by omega) σ4 rfl (hk3.tr hf4.k) (fun x u x0 u0 u1 q => by rw [hf4.1]; exact hb x u x0 u0 u1 q)
      by_cases h1 : aFit S (cParc (aC S) k i) = true
      · skip
        rw [if_pos h1] at he
        refine V_top (if_pos h1) ?_
        refine V_run kX7_parcelsBy 9 [0] (show (zr 1 ∧ ¬ 1 = 0) ∧ V 7 MX7_parcelsBy 52 [some (vR 6 44), some (vZ k), some (vZ (cPa (aC S) k)), some (vZ (zor a (zshl 1 i))), some (vZ i), some (vZ 0)] [] σ4 post from ⟨(by omega), ?_⟩)
        exact go _ (zor_zr _ _) he
      · skip
        rw [if_neg h1] at he
        refine V_top (if_neg h1) ?_
        refine V_run kX7_parcelsBy 6 [1] (show (zr 0 ∧ 0 = 0) ∧ V 7 MX7_parcelsBy 52 [some (vR 6 44), some (vZ k), some (vZ (cPa (aC S) k)), some (vZ (zor a 0)), some (vZ i), some (vZ 0)] [] σ4 post from ⟨(by omega), ?_⟩)
        rw [zor_0 hz]
        exact go _ hz he
  refine V_run kX7_parcelsBy 5 [] (show V 7 MX7_parcelsBy 16 [some (vR 6 44), some (vZ k), some (vZ (cPa (aC S) k)), some (vZ 0), some (vZ 1), none] [] σ1 post from ?_)
  exact loop 9 1 0 (by omega) (by omega) (by decide) hv.symm (aC S) σ1 hk1 hc1 (fun _ => rfl) (fun x u x0 u0 u1 q => absurd q (by omega))
set_option maxHeartbeats 4000000 in
set_option maxRecDepth 100000 in
/-- was -/
theorem c_M_was {k x : Int} {S : zAb} {σ : zSt} {post : Option VV → zSt → Prop} (hR : RM σ S) (ho : aOk S) (hk : zr k) (hx : zr x) (hp : ∀ σ', mKeep σ σ' → post (some (vZ (aWas S k x))) σ') : Mc 8 MX7_was [vR 6 44, vZ k, vZ x] σ post := by
  show V 8 MX7_was 0 [some (vR 6 44), some (vZ k), some (vZ x)] [] σ post
  refine V_run kX7_was 2 [] (show V 8 MX7_was 2 [some (vR 6 44), some (vZ k), some (vZ x)] [vZ k, vR 6 44] σ post from ?_)
  refine V_callV (a := [vZ k]) (rest := []) kX7_was rfl oX7_isPerson iX7_isPerson lk_7_146 rfl rfl rfl (Nat.le_of_ble_eq_true rfl) (Nat.le_of_ble_eq_true rfl) (Nat.le_of_ble_eq_true rfl) (post' := fun zv zσ => V 8 MX7_was 5 [some (vR 6 44), some (vZ k), some (vZ x)] (zv.toList ++ []) zσ post) (c_M_isPerson hR ho (by omega) (fun σp1 hkp1 htd1 => (show V 8 MX7_was 5 [some (vR 6 44), some (vZ k), some (vZ x)] [vZ (if 0 ≤ k ∧ k < cn (aC S) then 1 else 0)] σp1 post from ?_))) (fun _ _ h => h)
  have hRp1 := RM_k hkp1 hR
  by_cases h1 : 0 ≤ k ∧ k < cn (aC S)
  rotate_left
  · skip
    refine V_top (if_neg h1) ?_
    refine V_run kX7_was 2 [1] (show (zr 0 ∧ 0 = 0) ∧ V 8 MX7_was 37 [some (vR 6 44), some (vZ k), some (vZ x)] [vZ (-2)] σp1 post from ⟨(by omega), ?_⟩)
    have e9 : aWas S k x = -2 := if_neg (by omega)
    rw [e9] at hp
    exact V_iret kX7_was rfl rfl (hp _ hkp1)
  refine V_top (if_pos h1) ?_
  refine V_run kX7_was 2 [0] (show (zr 1 ∧ ¬ 1 = 0) ∧ V 8 MX7_was 9 [some (vR 6 44), some (vZ k), some (vZ x)] [vZ x] σp1 post from ⟨(by omega), ?_⟩)
  refine V_callS (a := [vZ x]) (rest := []) kX7_was rfl oX7_isTwo iX7_isTwo lk_7_246 rfl rfl (Nat.le_of_ble_eq_true rfl) (Nat.le_of_ble_eq_true rfl) (Nat.le_of_ble_eq_true rfl) (post' := fun zv zσ => V 8 MX7_was 12 [some (vR 6 44), some (vZ k), some (vZ x)] (zv.toList ++ []) zσ post) (c_M_isTwo (by omega) ((show V 8 MX7_was 12 [some (vR 6 44), some (vZ k), some (vZ x)] [vZ (if 0 ≤ x ∧ x ≤ 1 then 1 else 0)] σp1 post from ?_))) (fun _ _ h => h)
  by_cases h2 : 0 ≤ x ∧ x ≤ 1
  rotate_left
  · skip
    refine V_top (if_neg h2) ?_
    refine V_run kX7_was 2 [1] (show (zr 0 ∧ 0 = 0) ∧ V 8 MX7_was 37 [some (vR 6 44), some (vZ k), some (vZ x)] [vZ (-2)] σp1 post from ⟨(by omega), ?_⟩)
    have e9 : aWas S k x = -2 := if_neg (by omega)
    rw [e9] at hp
    exact V_iret kX7_was rfl rfl (hp _ hkp1)
  refine V_top (if_pos h2) ?_
  refine V_run kX7_was 2 [0] (show (zr 1 ∧ ¬ 1 = 0) ∧ V 8 MX7_was 16 [some (vR 6 44), some (vZ k), some (vZ x)] [vZ x] σp1 post from ⟨(by omega), ?_⟩)
  have e9 : aWas S k x = if x = 0 then zSos S k 3 0 0 else zPab S k 9 1 0 := if_pos ⟨h1, h2⟩
  rw [e9] at hp
  by_cases h3 : x = 0
  · skip
    rw [if_pos h3] at hp
    refine V_run kX7_was 3 [0] (show (zr x ∧ x = 0) ∧ V 8 MX7_was 21 [some (vR 6 44), some (vZ k), some (vZ x)] [vZ k, vR 6 44] σp1 post from ⟨(by omega), ?_⟩)
    refine V_callV (a := [vZ k]) (rest := []) kX7_was rfl oX7_sortsBy iX7_sortsBy lk_7_292 rfl rfl rfl (Nat.le_of_ble_eq_true rfl) (Nat.le_of_ble_eq_true rfl) (Nat.le_of_ble_eq_true rfl) (post' := fun zv zσ => V 8 MX7_was 24 [some (vR 6 44), some (vZ k), some (vZ x)] (zv.toList ++ []) zσ post) (c_M_sortsBy hRp1 ho h1.1 h1.2 (fun σ9 hk9 => (show V 8 MX7_was 24 [some (vR 6 44), some (vZ k), some (vZ x)] [vZ (zSos S k 3 0 0)] σ9 post from ?_))) (fun _ _ h => h)
    refine V_run kX7_was 1 [] (show V 8 MX7_was 37 [some (vR 6 44), some (vZ k), some (vZ x)] [vZ (zSos S k 3 0 0)] σ9 post from ?_)
    exact V_iret kX7_was rfl rfl (hp _ (hkp1.tr hk9))
  · skip
    rw [if_neg h3] at hp
    refine V_run kX7_was 3 [1] (show (zr x ∧ ¬ x = 0) ∧ V 8 MX7_was 29 [some (vR 6 44), some (vZ k), some (vZ x)] [vZ k, vR 6 44] σp1 post from ⟨(by omega), ?_⟩)
    refine V_callV (a := [vZ k]) (rest := []) kX7_was rfl oX7_parcelsBy iX7_parcelsBy lk_7_295 rfl rfl rfl (Nat.le_of_ble_eq_true rfl) (Nat.le_of_ble_eq_true rfl) (Nat.le_of_ble_eq_true rfl) (post' := fun zv zσ => V 8 MX7_was 32 [some (vR 6 44), some (vZ k), some (vZ x)] (zv.toList ++ []) zσ post) (c_M_parcelsBy hRp1 ho h1.1 h1.2 (fun σ9 hk9 _ => (show V 8 MX7_was 32 [some (vR 6 44), some (vZ k), some (vZ x)] [vZ (zPab S k 9 1 0)] σ9 post from ?_))) (fun _ _ h => h)
    refine V_run kX7_was 1 [] (show V 8 MX7_was 37 [some (vR 6 44), some (vZ k), some (vZ x)] [vZ (zPab S k 9 1 0)] σ9 post from ?_)
    exact V_iret kX7_was rfl rfl (hp _ (hkp1.tr hk9))
set_option maxHeartbeats 4000000 in
set_option maxRecDepth 100000 in
/-- askOf -/
theorem c_M_askOf {k : Int} {S : zAb} {σ : zSt} {post : Option VV → zSt → Prop} (hR : RM σ S) (ho : aOk S) (k0 : 0 ≤ k) (k1 : k < cn (aC S)) (hp : ∀ σ', mKeep σ σ' → post (some (vZ (zAk (aC S) k (zPab S k 9 1 0) 24 0 (-1) 0))) σ') : Mc 8 MX7_askOf [vR 6 44, vZ k] σ post := by
  have hok := aC_ok ho
  obtain ⟨v, hv⟩ : ∃ v : Int, v = zAk (aC S) k (zPab S k 9 1 0) 24 0 (-1) 0 := ⟨_, rfl⟩
  rw [← hv] at hp
  obtain ⟨bt9, hbt⟩ : ∃ b : Int, b = zPab S k 9 1 0 := ⟨_, rfl⟩
  rw [← hbt] at hv
  show V 8 MX7_askOf 0 [some (vR 6 44), some (vZ k), none, none, none, none, none, none, none, none] [] σ post
  refine V_run kX7_askOf 2 [] (show V 8 MX7_askOf 2 [some (vR 6 44), some (vZ k), none, none, none, none, none, none, none, none] [vZ k, vR 6 44] σ post from ?_)
  refine V_callV (a := [vZ k]) (rest := []) kX7_askOf rfl oX7_parcelsBy iX7_parcelsBy lk_7_295 rfl rfl rfl (Nat.le_of_ble_eq_true rfl) (Nat.le_of_ble_eq_true rfl) (Nat.le_of_ble_eq_true rfl) (post' := fun zv zσ => V 8 MX7_askOf 5 [some (vR 6 44), some (vZ k), none, none, none, none, none, none, none, none] (zv.toList ++ []) zσ post) (c_M_parcelsBy hR ho k0 k1 (fun σ1 hk1 hb1 => (show V 8 MX7_askOf 5 [some (vR 6 44), some (vZ k), none, none, none, none, none, none, none, none] [vZ (zPab S k 9 1 0)] σ1 post from ?_))) (fun _ _ h => h)
  rw [← hbt]
  have loop : ∀ (m : Nat) (t a l : Int), 0 ≤ t → t + m = 24 → (-1 ≤ a ∧ a ≤ 23) → (0 ≤ l ∧ l ≤ 9) → zAk (aC S) k bt9 m t a l = v → V 8 MX7_askOf 14 [some (vR 6 44), some (vZ k), some (vZ bt9), some (vZ a), some (vZ l), some (vZ t), none, none, none, none] [] σ1 post := by
    intro m
    induction m with
    | zero =>
      intro t a l t0 t1 ha hl he
      unfold zAk at he
      have hp := hp σ1 hk1
      rw [← he] at hp
      refine V_run kX7_askOf 4 [1] (show (zr t ∧ zr 24 ∧ 24 ≤ t) ∧ V 8 MX7_askOf 185 [some (vR 6 44), some (vZ k), some (vZ bt9), some (vZ a), some (vZ l), some (vZ t), none, none, none, none] [vZ a] σ1 post from ⟨(by omega), ?_⟩)
      exact V_iret kX7_askOf rfl rfl (hp)
    | succ m ih =>
      intro t a l t0 t1 ha hl he
      unfold zAk at he
      have hM := zAm_b (C := aC S) (k := k) (bits := bt9) (t := t) 9 1 0 (by omega) (by omega)
      obtain ⟨n9, hn9⟩ : ∃ n : Int, n = zAm (aC S) k bt9 t 9 1 0 := ⟨_, rfl⟩
      rw [← hn9] at he hM
      have loopA : ∀ (m1 : Nat) (i y : Int), 1 ≤ i → i + m1 = 10 → (0 ≤ y ∧ y ≤ 9) → zAm (aC S) k bt9 t m1 i y = n9 → V 8 MX7_askOf 27 [some (vR 6 44), some (vZ k), some (vZ bt9), some (vZ a), some (vZ l), some (vZ t), some (vZ y), some (vZ i), none, none] [] σ1 post := by
        intro m1
        induction m1 with
        | zero =>
          intro i y i0 i1 hy hA
          unfold zAm at hA
          subst hA
          refine V_run kX7_askOf 5 [1] (show (zr i ∧ zr 10 ∧ 10 ≤ i) ∧ V 8 MX7_askOf 135 [some (vR 6 44), some (vZ k), some (vZ bt9), some (vZ a), some (vZ l), some (vZ t), some (vZ y), some (vZ i), none, none] [vZ (-1), vZ a] σ1 post from ⟨(by omega), ?_⟩)
          by_cases h1 : a = -1
          · skip
            rw [if_pos (Or.inl h1)] at he
            refine V_run kX7_askOf 16 [1, 0, 0] (show (zr a ∧ zr (-1) ∧ a = (-1)) ∧ (zr 1 ∧ ¬ 1 = 0) ∧ (zr 1 ∧ ¬ 1 = 0) ∧ V 8 MX7_askOf 14 [some (vR 6 44), some (vZ k), some (vZ bt9), some (vZ t), some (vZ y), some (vZ (t + 1)), some (vZ y), some (vZ 1), none, none] [] σ1 post from ⟨(by omega), (by omega), (by omega), ?_⟩)
            refine V_drop (L := [some (vR 6 44), some (vZ k), some (vZ bt9), some (vZ t), some (vZ y), some (vZ (t + 1)), none, none, none, none]) ⟨rfl, ⟨rfl, ⟨rfl, ⟨rfl, ⟨rfl, ⟨rfl, trivial⟩⟩⟩⟩⟩⟩ ?_
            exact ih (t + 1) _ _ (by omega) (by omega) (by omega) hM he
          · skip
            refine V_run kX7_askOf 3 [0] (show (zr a ∧ zr (-1) ∧ ¬ a = (-1)) ∧ V 8 MX7_askOf 142 [some (vR 6 44), some (vZ k), some (vZ bt9), some (vZ a), some (vZ l), some (vZ t), some (vZ y), some (vZ i), none, none] [vZ l, vZ y] σ1 post from ⟨(by omega), ?_⟩)
            rcases Int.lt_or_le y l with h3 | h3
            · skip
              rw [if_pos (Or.inr h3)] at he
              refine V_run kX7_askOf 16 [0, 0, 0] (show (zr y ∧ zr l ∧ y < l) ∧ (zr 1 ∧ ¬ 1 = 0) ∧ (zr 1 ∧ ¬ 1 = 0) ∧ V 8 MX7_askOf 14 [some (vR 6 44), some (vZ k), some (vZ bt9), some (vZ t), some (vZ y), some (vZ (t + 1)), some (vZ y), some (vZ 1), none, none] [] σ1 post from ⟨(by omega), (by omega), (by omega), ?_⟩)
              refine V_drop (L := [some (vR 6 44), some (vZ k), some (vZ bt9), some (vZ t), some (vZ y), some (vZ (t + 1)), none, none, none, none]) ⟨rfl, ⟨rfl, ⟨rfl, ⟨rfl, ⟨rfl, ⟨rfl, trivial⟩⟩⟩⟩⟩⟩ ?_
              exact ih (t + 1) _ _ (by omega) (by omega) (by omega) hM he
            · skip
              rw [if_neg (fun q => q.elim h1 (by omega))] at he
              refine V_run kX7_askOf 13 [1, 1, 1] (show (zr y ∧ zr l ∧ l ≤ y) ∧ (zr 0 ∧ 0 = 0) ∧ (zr 0 ∧ 0 = 0) ∧ V 8 MX7_askOf 14 [some (vR 6 44), some (vZ k), some (vZ bt9), some (vZ a), some (vZ l), some (vZ (t + 1)), some (vZ y), some (vZ 0), none, none] [] σ1 post from ⟨(by omega), (by omega), (by omega), ?_⟩)
              refine V_drop (L := [some (vR 6 44), some (vZ k), some (vZ bt9), some (vZ a), some (vZ l), some (vZ (t + 1)), none, none, none, none]) ⟨rfl, ⟨rfl, ⟨rfl, ⟨rfl, ⟨rfl, ⟨rfl, trivial⟩⟩⟩⟩⟩⟩ ?_
              exact ih (t + 1) _ _ (by omega) (by omega) ha hl he
        | succ m1 ihA =>
          intro i y i0 i1 hy hA
          unfold zAm at hA
          have hN := zAn_b (C := aC S) (k := k) (bits := bt9) (t := t) (a := i) 9 1 0
          obtain ⟨n8, hn8⟩ : ∃ n : Int, n = zAn (aC S) k bt9 t i 9 1 0 := ⟨_, rfl⟩
          rw [← hn8] at hA hN
          have loopB : ∀ (m2 : Nat) (j n : Int), 1 ≤ j → j + m2 = 10 → zr n → zAn (aC S) k bt9 t i m2 j n = n8 → V 8 MX7_askOf 40 [some (vR 6 44), some (vZ k), some (vZ bt9), some (vZ a), some (vZ l), some (vZ t), some (vZ y), some (vZ i), some (vZ n), some (vZ j)] [] σ1 post := by
            intro m2
            induction m2 with
            | zero =>
              intro j n j0 j1 hn hB
              unfold zAn at hB
              subst hB
              refine V_run kX7_askOf 5 [1] (show (zr j ∧ zr 10 ∧ 10 ≤ j) ∧ V 8 MX7_askOf 115 [some (vR 6 44), some (vZ k), some (vZ bt9), some (vZ a), some (vZ l), some (vZ t), some (vZ y), some (vZ i), some (vZ n), some (vZ j)] [vZ y, vZ n] σ1 post from ⟨(by omega), ?_⟩)
              rcases Int.lt_or_le y n with h3 | h3
              · skip
                rw [if_pos h3] at hA
                refine V_run kX7_askOf 6 [0] (show (zr n ∧ zr y ∧ y < n) ∧ V 8 MX7_askOf 27 [some (vR 6 44), some (vZ k), some (vZ bt9), some (vZ a), some (vZ l), some (vZ t), some (vZ n), some (vZ (i + 1)), some (vZ n), some (vZ j)] [] σ1 post from ⟨(by omega), ?_⟩)
                refine V_drop (L := [some (vR 6 44), some (vZ k), some (vZ bt9), some (vZ a), some (vZ l), some (vZ t), some (vZ n), some (vZ (i + 1)), none, none]) ⟨rfl, ⟨rfl, ⟨rfl, ⟨rfl, ⟨rfl, ⟨rfl, ⟨rfl, ⟨rfl, trivial⟩⟩⟩⟩⟩⟩⟩⟩ ?_
                exact ihA (i + 1) _ (by omega) (by omega) (by omega) hA
              · skip
                rw [if_neg (by omega)] at hA
                refine V_run kX7_askOf 5 [1] (show (zr n ∧ zr y ∧ n ≤ y) ∧ V 8 MX7_askOf 27 [some (vR 6 44), some (vZ k), some (vZ bt9), some (vZ a), some (vZ l), some (vZ t), some (vZ y), some (vZ (i + 1)), some (vZ n), some (vZ j)] [] σ1 post from ⟨(by omega), ?_⟩)
                refine V_drop (L := [some (vR 6 44), some (vZ k), some (vZ bt9), some (vZ a), some (vZ l), some (vZ t), some (vZ y), some (vZ (i + 1)), none, none]) ⟨rfl, ⟨rfl, ⟨rfl, ⟨rfl, ⟨rfl, ⟨rfl, ⟨rfl, ⟨rfl, trivial⟩⟩⟩⟩⟩⟩⟩⟩ ?_
                exact ihA (i + 1) _ (by omega) (by omega) (by omega) hA
            | succ m2 ihB =>
              intro j n j0 j1 hn hB
              unfold zAn at hB
              have hnb := zAn_b (C := aC S) (k := k) (bits := bt9) (t := t) (a := i) m2 (j + 1)
              refine V_run kX7_askOf 6 [0] (show (zr j ∧ zr 10 ∧ j < 10) ∧ V 8 MX7_askOf 52 [some (vR 6 44), some (vZ k), some (vZ bt9), some (vZ a), some (vZ l), some (vZ t), some (vZ y), some (vZ i), some (vZ n), some (vZ j)] [vZ i, vZ bt9, vZ n] σ1 post from ⟨(by omega), ?_⟩)
              refine V_callS (a := [vZ bt9, vZ i]) (rest := [vZ n]) kX7_askOf rfl oX7_isIn iX7_isIn lk_7_197 rfl rfl (Nat.le_of_ble_eq_true rfl) (Nat.le_of_ble_eq_true rfl) (Nat.le_of_ble_eq_true rfl) (post' := fun zv zσ => V 8 MX7_askOf 55 [some (vR 6 44), some (vZ k), some (vZ bt9), some (vZ a), some (vZ l), some (vZ t), some (vZ y), some (vZ i), some (vZ n), some (vZ j)] (zv.toList ++ [vZ n]) zσ post) (c_M_isIn (by omega) (by omega) ((show V 8 MX7_askOf 55 [some (vR 6 44), some (vZ k), some (vZ bt9), some (vZ a), some (vZ l), some (vZ t), some (vZ y), some (vZ i), some (vZ n), some (vZ j)] [vZ (if zbt bt9 i = true then 1 else 0), vZ n] σ1 post from ?_))) (fun _ _ h => h)
              by_cases h1 : zbt bt9 i = true
              rotate_left
              · skip
                rw [if_neg (fun q => h1 q.1.1)] at hB
                refine V_top (if_neg h1) ?_
                refine V_run kX7_askOf 6 [1] (show (zr 0 ∧ 0 = 0) ∧ V 8 MX7_askOf 40 [some (vR 6 44), some (vZ k), some (vZ bt9), some (vZ a), some (vZ l), some (vZ t), some (vZ y), some (vZ i), some (vZ (n + 0)), some (vZ (j + 1))] [] σ1 post from ⟨(by omega), ?_⟩)
                rw [show n + 0 = n from Int.add_zero n]
                exact ihB (j + 1) n (by omega) (by omega) hn hB
              refine V_top (if_pos h1) ?_
              refine V_run kX7_askOf 3 [0] (show (zr 1 ∧ ¬ 1 = 0) ∧ V 8 MX7_askOf 61 [some (vR 6 44), some (vZ k), some (vZ bt9), some (vZ a), some (vZ l), some (vZ t), some (vZ y), some (vZ i), some (vZ n), some (vZ j)] [vZ j, vZ bt9, vZ n] σ1 post from ⟨(by omega), ?_⟩)
              refine V_callS (a := [vZ bt9, vZ j]) (rest := [vZ n]) kX7_askOf rfl oX7_isIn iX7_isIn lk_7_197 rfl rfl (Nat.le_of_ble_eq_true rfl) (Nat.le_of_ble_eq_true rfl) (Nat.le_of_ble_eq_true rfl) (post' := fun zv zσ => V 8 MX7_askOf 64 [some (vR 6 44), some (vZ k), some (vZ bt9), some (vZ a), some (vZ l), some (vZ t), some (vZ y), some (vZ i), some (vZ n), some (vZ j)] (zv.toList ++ [vZ n]) zσ post) (c_M_isIn (by omega) (by omega) ((show V 8 MX7_askOf 64 [some (vR 6 44), some (vZ k), some (vZ bt9), some (vZ a), some (vZ l), some (vZ t), some (vZ y), some (vZ i), some (vZ n), some (vZ j)] [vZ (if zbt bt9 j = true then 1 else 0), vZ n] σ1 post from ?_))) (fun _ _ h => h)
              by_cases h2 : zbt bt9 j = true
              rotate_left
              · skip
                rw [if_neg (fun q => h2 q.1.2)] at hB
                refine V_top (if_neg h2) ?_
                refine V_run kX7_askOf 6 [1] (show (zr 0 ∧ 0 = 0) ∧ V 8 MX7_askOf 40 [some (vR 6 44), some (vZ k), some (vZ bt9), some (vZ a), some (vZ l), some (vZ t), some (vZ y), some (vZ i), some (vZ (n + 0)), some (vZ (j + 1))] [] σ1 post from ⟨(by omega), ?_⟩)
                rw [show n + 0 = n from Int.add_zero n]
                exact ihB (j + 1) n (by omega) (by omega) hn hB
              refine V_top (if_pos h2) ?_
              refine V_run kX7_askOf 9 [0] (show (zr 1 ∧ ¬ 1 = 0) ∧ (0 ≤ ((24 * i) + t) ∧ ((24 * i) + t) < 240) ∧ V 8 MX7_askOf 80 [some (vR 6 44), some (vZ k), some (vZ bt9), some (vZ a), some (vZ l), some (vZ t), some (vZ y), some (vZ i), some (vZ n), some (vZ j)] [vL (σ1.2 69 ((24 * i) + t)), vZ n] σ1 post from ⟨(by omega), (by omega), ?_⟩)
              refine V_topL (hb1 i t i0 (by omega) t0 (by omega)) ?_
              refine V_run kX7_askOf 8 [] (show (0 ≤ ((24 * j) + t) ∧ ((24 * j) + t) < 240) ∧ V 8 MX7_askOf 93 [some (vR 6 44), some (vZ k), some (vZ bt9), some (vZ a), some (vZ l), some (vZ t), some (vZ y), some (vZ i), some (vZ n), some (vZ j)] [vL (σ1.2 69 ((24 * j) + t)), vL (lN (zRk (cParc (aC S) k i) t)), vZ n] σ1 post from ⟨(by omega), ?_⟩)
              refine V_topL (hb1 j t j0 (by omega) t0 (by omega)) ?_
              have hi9 := zRk_lt (cParc_v (k := k) hok i0 (by omega)) t
              have hj9 := zRk_lt (cParc_v (k := k) hok j0 (by omega)) t
              refine V_run kX7_askOf 1 [] (show V 8 MX7_askOf 94 [some (vR 6 44), some (vZ k), some (vZ bt9), some (vZ a), some (vZ l), some (vZ t), some (vZ y), some (vZ i), some (vZ n), some (vZ j)] [vZ (zlcmp (lN (zRk (cParc (aC S) k i) t)) (lN (zRk (cParc (aC S) k j) t))), vZ n] σ1 post from ?_)
              have hcr := zcmp_rng (lN (zRk (cParc (aC S) k i) t)) (lN (zRk (cParc (aC S) k j) t))
              have hce : zlcmp (lN (zRk (cParc (aC S) k i) t)) (lN (zRk (cParc (aC S) k j) t)) = 0 ↔ zRk (cParc (aC S) k i) t = zRk (cParc (aC S) k j) t := zcmp0.trans (lN_inj (r12 hi9) (r12 hj9))
              obtain ⟨cm, hcm⟩ : ∃ c : Int, c = zlcmp (lN (zRk (cParc (aC S) k i) t)) (lN (zRk (cParc (aC S) k j) t)) := ⟨_, rfl⟩
              rw [← hcm] at hcr hce ⊢
              by_cases h3 : cm = 0
              · skip
                rw [if_pos ⟨⟨h1, h2⟩, hce.mp h3⟩] at hB
                have hn3 := hnb (n + 1)
                refine V_run kX7_askOf 7 [0] (show (zr cm ∧ cm = 0) ∧ V 8 MX7_askOf 40 [some (vR 6 44), some (vZ k), some (vZ bt9), some (vZ a), some (vZ l), some (vZ t), some (vZ y), some (vZ i), some (vZ (n + 1)), some (vZ (j + 1))] [] σ1 post from ⟨(by omega), ?_⟩)
                exact ihB (j + 1) (n + 1) (by omega) (by omega) (by omega) hB
              · skip
                rw [if_neg (fun q => h3 (hce.mpr q.2))] at hB
                refine V_run kX7_askOf 6 [1] (show (zr cm ∧ ¬ cm = 0) ∧ V 8 MX7_askOf 40 [some (vR 6 44), some (vZ k), some (vZ bt9), some (vZ a), some (vZ l), some (vZ t), some (vZ y), some (vZ i), some (vZ (n + 0)), some (vZ (j + 1))] [] σ1 post from ⟨(by omega), ?_⟩)
                rw [show n + 0 = n from Int.add_zero n]
                exact ihB (j + 1) n (by omega) (by omega) hn hB
          refine V_run kX7_askOf 7 [0] (show (zr i ∧ zr 10 ∧ i < 10) ∧ V 8 MX7_askOf 40 [some (vR 6 44), some (vZ k), some (vZ bt9), some (vZ a), some (vZ l), some (vZ t), some (vZ y), some (vZ i), some (vZ 0), some (vZ 1)] [] σ1 post from ⟨(by omega), ?_⟩)
          exact loopB 9 1 0 (by omega) (by omega) (by decide) hn8.symm
      refine V_run kX7_askOf 7 [0] (show (zr t ∧ zr 24 ∧ t < 24) ∧ V 8 MX7_askOf 27 [some (vR 6 44), some (vZ k), some (vZ bt9), some (vZ a), some (vZ l), some (vZ t), some (vZ 0), some (vZ 1), none, none] [] σ1 post from ⟨(by omega), ?_⟩)
      exact loopA 9 1 0 (by omega) (by omega) (by omega) hn9.symm
  refine V_run kX7_askOf 7 [] (show V 8 MX7_askOf 14 [some (vR 6 44), some (vZ k), some (vZ bt9), some (vZ (-1)), some (vZ 0), some (vZ 0), none, none, none, none] [] σ1 post from ?_)
  exact loop 24 0 (-1) 0 (by omega) (by omega) (by omega) (by omega) hv.symm
set_option maxHeartbeats 4000000 in
set_option maxRecDepth 100000 in
/-- ask -/
theorem c_M_ask {k : Int} {S : zAb} {σ : zSt} {post : Option VV → zSt → Prop} (hR : RM σ S) (ho : aOk S) (hq : zr k) (hp : ∀ σ', mKeep σ σ' → post (some (vZ (aAsk S k))) σ') : Mc 9 MX7_ask [vR 6 44, vZ k] σ post := by
  show V 9 MX7_ask 0 [some (vR 6 44), some (vZ k)] [] σ post
  refine V_run kX7_ask 2 [] (show V 9 MX7_ask 2 [some (vR 6 44), some (vZ k)] [vZ k, vR 6 44] σ post from ?_)
  refine V_callV (a := [vZ k]) (rest := []) kX7_ask rfl oX7_isPerson iX7_isPerson lk_7_146 rfl rfl rfl (Nat.le_of_ble_eq_true rfl) (Nat.le_of_ble_eq_true rfl) (Nat.le_of_ble_eq_true rfl) (post' := fun zv zσ => V 9 MX7_ask 5 [some (vR 6 44), some (vZ k)] (zv.toList ++ []) zσ post) (c_M_isPerson hR ho (by omega) (fun σp1 hkp1 htd1 => (show V 9 MX7_ask 5 [some (vR 6 44), some (vZ k)] [vZ (if 0 ≤ k ∧ k < cn (aC S) then 1 else 0)] σp1 post from ?_))) (fun _ _ h => h)
  have hRp1 := RM_k hkp1 hR
  by_cases h1 : 0 ≤ k ∧ k < cn (aC S)
  rotate_left
  · skip
    refine V_top (if_neg h1) ?_
    refine V_run kX7_ask 2 [1] (show (zr 0 ∧ 0 = 0) ∧ V 9 MX7_ask 18 [some (vR 6 44), some (vZ k)] [vZ (-2)] σp1 post from ⟨(by omega), ?_⟩)
    have e9 : aAsk S k = -2 := if_neg (by omega)
    rw [e9] at hp
    exact V_iret kX7_ask rfl rfl (hp _ hkp1)
  refine V_top (if_pos h1) ?_
  refine V_run kX7_ask 3 [0] (show (zr 1 ∧ ¬ 1 = 0) ∧ V 9 MX7_ask 10 [some (vR 6 44), some (vZ k)] [vZ k, vR 6 44] σp1 post from ⟨(by omega), ?_⟩)
  refine V_callV (a := [vZ k]) (rest := []) kX7_ask rfl oX7_askOf iX7_askOf lk_7_298 rfl rfl rfl (Nat.le_of_ble_eq_true rfl) (Nat.le_of_ble_eq_true rfl) (Nat.le_of_ble_eq_true rfl) (post' := fun zv zσ => V 9 MX7_ask 13 [some (vR 6 44), some (vZ k)] (zv.toList ++ []) zσ post) (c_M_askOf hRp1 ho h1.1 h1.2 (fun σ9 hk9 => (show V 9 MX7_ask 13 [some (vR 6 44), some (vZ k)] [vZ (zAk (aC S) k (zPab S k 9 1 0) 24 0 (-1) 0)] σ9 post from ?_))) (fun _ _ h => h)
  have e9 : aAsk S k = zAk (aC S) k (zPab S k 9 1 0) 24 0 (-1) 0 := if_pos h1
  rw [e9] at hp
  refine V_run kX7_ask 1 [] (show V 9 MX7_ask 18 [some (vR 6 44), some (vZ k)] [vZ (zAk (aC S) k (zPab S k 9 1 0) 24 0 (-1) 0)] σ9 post from ?_)
  exact V_iret kX7_ask rfl rfl (hp _ (hkp1.tr hk9))
