/-- what both hold: the two texts, the events, the sightings, the sheets (form -1: lost), the latest finding -/
abbrev zAb : Type := Int × (Int → Int) × Int × (Int → Int) × Int × (Int → Int) × (Int → Int) × (Int → Int) × Int × (Int → Int) × (Int → Int) × (Int → Int) × (Int → Int) × (Int → Int) × (Int → Int → Int) × Int
abbrev a_pN (S : zAb) : Int := S.1
abbrev a_pF (S : zAb) : Int → Int := S.2.1
abbrev a_wN (S : zAb) : Int := S.2.2.1
abbrev a_wF (S : zAb) : Int → Int := S.2.2.2.1
abbrev a_eN (S : zAb) : Int := S.2.2.2.2.1
abbrev a_eK (S : zAb) : Int → Int := S.2.2.2.2.2.1
abbrev a_eM (S : zAb) : Int → Int := S.2.2.2.2.2.2.1
abbrev a_eP (S : zAb) : Int → Int := S.2.2.2.2.2.2.2.1
abbrev a_sN (S : zAb) : Int := S.2.2.2.2.2.2.2.2.1
abbrev a_sM (S : zAb) : Int → Int := S.2.2.2.2.2.2.2.2.2.1
abbrev a_sP (S : zAb) : Int → Int := S.2.2.2.2.2.2.2.2.2.2.1
abbrev a_sW (S : zAb) : Int → Int := S.2.2.2.2.2.2.2.2.2.2.2.1
abbrev a_hF (S : zAb) : Int → Int := S.2.2.2.2.2.2.2.2.2.2.2.2.1
abbrev a_hN (S : zAb) : Int → Int := S.2.2.2.2.2.2.2.2.2.2.2.2.2.1
abbrev a_hI (S : zAb) : Int → Int → Int := S.2.2.2.2.2.2.2.2.2.2.2.2.2.2.1
abbrev a_fnd (S : zAb) : Int := S.2.2.2.2.2.2.2.2.2.2.2.2.2.2.2
/-- the day as told -/
def aC (S : zAb) : zCf := (zwho 1 (a_pF S) (a_pN S), a_eN S, fun k => a_pF S (4 * k) - 97, fun k => zsgn (a_pF S (4 * k + 1)), fun k => a_pF S (4 * k + 2) - 48, fun t => if t < zwho 0 (a_wF S) (a_wN S) then zopn (a_wF S t) else 1, a_eK S, a_eM S, a_eP S, fun _ => true)
def aOk (S : zAb) : Prop := (0 ≤ a_pN S ∧ a_pN S ≤ 47 ∧ ∀ i : Int, 0 ≤ i → i < a_pN S → 0 ≤ a_pF S i ∧ a_pF S i ≤ 255) ∧ (0 ≤ a_wN S ∧ a_wN S ≤ 24 ∧ ∀ i : Int, 0 ≤ i → i < a_wN S → 0 ≤ a_wF S i ∧ a_wF S i ≤ 255) ∧
  (0 ≤ a_eN S ∧ a_eN S ≤ 8 ∧ ∀ e : Int, 0 ≤ e → e < a_eN S → (0 ≤ a_eK S e ∧ a_eK S e ≤ 2) ∧ (0 ≤ a_eM S e ∧ a_eM S e ≤ 23) ∧ 0 ≤ a_eP S e ∧ a_eP S e ≤ 11) ∧
  (0 ≤ a_sN S ∧ a_sN S ≤ 8 ∧ ∀ i : Int, 0 ≤ i → i < a_sN S → (0 ≤ a_sM S i ∧ a_sM S i ≤ 23) ∧ (0 ≤ a_sP S i ∧ a_sP S i ≤ 11) ∧ 0 ≤ a_sW S i ∧ a_sW S i ≤ 12) ∧
  ∀ s : Int, 0 ≤ s → s < 4 → (-1 ≤ a_hF S s ∧ a_hF S s ≤ 2) ∧ (0 ≤ a_hN S s ∧ a_hN S s ≤ 60) ∧ (a_hF S s = -1 → a_hN S s = 0) ∧ ∀ i : Int, 0 ≤ i → i < 60 → zr (a_hI S s i)
/-- the reference's cells hold S -/
def RM (σ : zSt) (S : zAb) : Prop := (σ.1 45 0 = a_pN S ∧ ∀ i : Int, 0 ≤ i → i < a_pN S → σ.1 46 i = a_pF S i) ∧ (σ.1 45 1 = a_wN S ∧ ∀ i : Int, 0 ≤ i → i < a_wN S → σ.1 46 (47 + i) = a_wF S i) ∧
  (σ.1 44 8 = a_eN S ∧ ∀ e : Int, 0 ≤ e → e < a_eN S → σ.1 51 e = a_eK S e ∧ σ.1 52 e = a_eM S e ∧ σ.1 53 e = a_eP S e) ∧
  (σ.1 44 29 = a_sN S ∧ ∀ i : Int, 0 ≤ i → i < a_sN S → σ.1 66 i = a_sM S i ∧ σ.1 67 i = a_sP S i ∧ σ.1 68 i = a_sW S i) ∧
  (∀ s : Int, 0 ≤ s → s < 4 → (σ.1 70 s = if a_hF S s = -1 then 0 else 1) ∧ (a_hF S s ≠ -1 → σ.1 71 s = a_hF S s ∧ σ.1 72 s = a_hN S s ∧ ∀ i : Int, 0 ≤ i → i < 60 → σ.1 73 (60 * s + i) = a_hI S s i)) ∧ σ.1 44 39 = a_fnd S
/-- what a question put to the reference keeps -/
def mKeep (σ σ' : zSt) : Prop := (∀ a : Nat, (a < 44 ∨ a = 45 ∨ a = 46 ∨ (51 ≤ a ∧ a ≤ 53) ∨ (66 ≤ a ∧ a ≤ 68) ∨ (70 ≤ a ∧ a ≤ 73)) → σ'.1 a = σ.1 a) ∧ (∀ a : Nat, a < 44 → σ'.2 a = σ.2 a) ∧ ∀ b : Int, (b = 8 ∨ b = 29 ∨ b = 39) → σ'.1 44 b = σ.1 44 b
theorem mKeep.rf {σ : zSt} : mKeep σ σ := ⟨fun _ _ => rfl, fun _ _ => rfl, fun _ _ => rfl⟩
theorem mKeep.tr {σ σ' σ'' : zSt} (h : mKeep σ σ') (h2 : mKeep σ' σ'') : mKeep σ σ'' := ⟨fun a x => (h2.1 a x).trans (h.1 a x), fun a x => (h2.2.1 a x).trans (h.2.1 a x), fun b x => (h2.2.2 b x).trans (h.2.2 b x)⟩
theorem rFr.k {σ σ' : zSt} (h : rFr σ σ') : mKeep σ σ' := ⟨fun a x => h.2.1 a (by omega) (by omega), fun a _ => by rw [h.1], fun b x => h.2.2 b (by omega) (by omega)⟩
theorem nFr.k {σ σ' : zSt} (h : nFr σ σ') : mKeep σ σ' := ⟨fun a x => h.2.1 a (by omega) (by omega), fun a _ => by rw [h.1], fun b x => h.2.2 b (by omega)⟩
theorem mKeep.u {σ σ' : zSt} (h : mKeep σ σ') {k : Nat} {j v : Int} (hk : (47 ≤ k ∧ k ≤ 50) ∨ (54 ≤ k ∧ k ≤ 65) ∨ k = 74) : mKeep σ (uI σ' k j v) := ⟨fun a x => by rw [uI_ne (by omega)]; exact h.1 a x, h.2.1, fun b x => by rw [uI_ne (by omega)]; exact h.2.2 b x⟩
theorem mKeep.s {σ σ' : zSt} (h : mKeep σ σ') {j v : Int} (hk : ¬ (j = 8 ∨ j = 29 ∨ j = 39)) : mKeep σ (uI σ' 44 j v) := ⟨fun a x => by rw [uI_ne (by omega)]; exact h.1 a x, h.2.1, fun b x => by rw [uI_at, if_neg (fun q => hk (by rw [← q]; exact x))]; exact h.2.2 b x⟩
theorem mKeep.l {σ σ' : zSt} (h : mKeep σ σ') {k : Nat} {j : Int} {v : Int64} (hk : 44 ≤ k) : mKeep σ (uL σ' k j v) := ⟨h.1, fun a x => by rw [uL_ne (by omega)]; exact h.2.1 a x, h.2.2⟩
theorem RM_k {σ σ' : zSt} {S : zAb} (h : mKeep σ σ') (hR : RM σ S) : RM σ' S := by
  unfold RM at hR ⊢
  rw [h.1 45 (by omega), h.1 46 (by omega), h.1 51 (by omega), h.1 52 (by omega), h.1 53 (by omega), h.1 66 (by omega), h.1 67 (by omega), h.1 68 (by omega), h.1 70 (by omega), h.1 71 (by omega), h.1 72 (by omega), h.1 73 (by omega), h.2.2 8 (by omega), h.2.2 29 (by omega), h.2.2 39 (by omega)]
  exact hR
theorem zfit_c {p : Int} {f h : Int → Int} {i : Int} (e : f i = h i) : zfit p f i = zfit p h i := by unfold zfit; rw [e]
theorem zffo_c {p n : Int} {f h : Int → Int} (e : ∀ i : Int, 0 ≤ i → i < n → f i = h i) : ∀ (m : Nat) (i : Int), 0 ≤ i → i + m ≤ n → zffo p f m i = zffo p h m i
  | 0, _, _, _ => rfl
  | m + 1, i, h0, h1 => by
    unfold zffo
    rw [zfit_c (e i h0 (by omega)), zffo_c e m (i + 1) (by omega) (by omega)]
theorem zflt_c {p n : Int} {f h : Int → Int} (e : ∀ i : Int, 0 ≤ i → i < n → f i = h i) : zflt p f n = zflt p h n := by
  unfold zflt
  by_cases q : 0 ≤ n
  · rw [zffo_c e n.toNat 0 (Int.le_refl _) (by omega)]
  · rw [show n.toNat = 0 by omega]; rfl
theorem zwho_c {p n : Int} {f h : Int → Int} (e : ∀ i : Int, 0 ≤ i → i < n → f i = h i) : zwho p f n = zwho p h n := by unfold zwho; rw [zflt_c e]
theorem zwho1_fit {f : Int → Int} {n p : Int} (h0 : 0 ≤ n) (p0 : 0 ≤ p) (h : p < zwho 1 f n) : 4 * p + 2 < n ∧ (97 ≤ f (4 * p) ∧ f (4 * p) ≤ 120) ∧ ¬ zsgn (f (4 * p + 1)) = -1 ∧ 49 ≤ f (4 * p + 2) ∧ f (4 * p + 2) ≤ 57 := by
  unfold zwho at h
  by_cases q : zflt 1 f n = -1
  · rw [if_pos q, if_neg (by decide)] at h
    have hall : ∀ j : Int, 0 ≤ j → j < n → zfit 1 f j = 1 := by
      unfold zflt zfl2 at q
      by_cases q2 : zffo 1 f n.toNat 0 = -1
      · exact fun j a b => zffo_fit 1 f n.toNat 0 (Int.le_refl _) q2 j a (by omega)
      · rw [if_neg q2] at q; exact absurd q q2
    have hend : n = 0 ∨ n % 4 = 3 := by
      rw [zflt_no hall] at q
      by_cases q3 : n = 0 ∨ n % 4 = 3
      · exact q3
      · rw [zend_no q3, if_pos rfl] at q; omega
    have hl : 4 * p + 2 < n := by omega
    have f0 := hall (4 * p) (by omega) (by omega)
    have f1 := hall (4 * p + 1) (by omega) (by omega)
    have f2 := hall (4 * p + 2) (by omega) (by omega)
    have e0 := zfit_at (f := f) (a := 4 * p) (r := 0) (by omega) (by omega) (by omega)
    rw [if_pos rfl, Int.add_zero] at e0
    rw [zfit_at (by omega) (by omega) (by omega), if_neg (by decide), if_pos rfl] at f1
    rw [zfit_at (by omega) (by omega) (by omega), if_neg (by decide), if_neg (by decide), if_pos rfl] at f2
    rw [e0] at f0
    refine ⟨hl, ?_, ?_, ?_⟩
    · by_cases z : 97 ≤ f (4 * p) ∧ f (4 * p) ≤ 120
      · exact z
      · rw [if_neg z] at f0; omega
    · intro z; rw [if_pos z] at f1; omega
    · by_cases z : 49 ≤ f (4 * p + 2) ∧ f (4 * p + 2) ≤ 57
      · exact z
      · rw [if_neg z] at f2; omega
  · rw [if_neg q] at h; omega
theorem zwho0_fit {f : Int → Int} {n t : Int} (h0 : 0 ≤ n) (t0 : 0 ≤ t) (h : t < zwho 0 f n) : t < n ∧ ¬ zopn (f t) = -1 := by
  unfold zwho at h
  by_cases q : zflt 0 f n = -1
  · rw [if_pos q, if_pos rfl] at h
    have hall : ∀ j : Int, 0 ≤ j → j < n → zfit 0 f j = 1 := by
      unfold zflt zfl2 at q
      by_cases q2 : zffo 0 f n.toNat 0 = -1
      · exact fun j a b => zffo_fit 0 f n.toNat 0 (Int.le_refl _) q2 j a (by omega)
      · rw [if_neg q2] at q; exact absurd q q2
    have f0 := hall t t0 h
    unfold zfit at f0
    rw [if_pos rfl] at f0
    exact ⟨h, fun z => by rw [if_pos z] at f0; omega⟩
  · rw [if_neg q] at h; omega
theorem zwho_rng {f : Int → Int} {n : Int} (h0 : 0 ≤ n) (h : n ≤ 47) : 0 ≤ zwho 1 f n ∧ zwho 1 f n ≤ 12 := by
  unfold zwho; rw [if_neg (show ¬ (1 : Int) = 0 by decide)]; split <;> omega
theorem aC_ok {S : zAb} (h : aOk S) : zCv (aC S) := by
  obtain ⟨⟨h1, h2, h3⟩, ⟨w1, w2, w3⟩, ⟨e1, e2, e3⟩, -⟩ := h
  refine ⟨zwho_rng h1 h2, ⟨e1, by show a_eN S ≤ 9; omega⟩, fun k k0 k1 => ?_, fun t t0 t1 => ?_, fun e a b => ?_⟩
  · obtain ⟨q1, q2, q3, q4⟩ := zwho1_fit h1 k0 k1
    have q5 := zsgn_rng (a_pF S (4 * k + 1))
    show (0 ≤ a_pF S (4 * k) - 97 ∧ a_pF S (4 * k) - 97 ≤ 23) ∧ (0 ≤ zsgn (a_pF S (4 * k + 1)) ∧ zsgn (a_pF S (4 * k + 1)) ≤ 2) ∧ 1 ≤ a_pF S (4 * k + 2) - 48 ∧ a_pF S (4 * k + 2) - 48 ≤ 9
    omega
  · show 0 ≤ (if t < zwho 0 (a_wF S) (a_wN S) then zopn (a_wF S t) else 1) ∧ (if t < zwho 0 (a_wF S) (a_wN S) then zopn (a_wF S t) else 1) ≤ 3
    by_cases q : t < zwho 0 (a_wF S) (a_wN S)
    · have q1 := (zwho0_fit w1 t0 q).2
      have q2 := zopn_rng (a_wF S t)
      rw [if_pos q]; omega
    · rw [if_neg q]; omega
  · exact e3 e a b
theorem RM_t {σ : zSt} {S : zAb} (hR : RM σ S) (ho : aOk S) : zTm σ := by
  obtain ⟨⟨h1, h2⟩, ⟨h3, h4⟩, -⟩ := hR
  obtain ⟨⟨o1, o2, o3⟩, ⟨w1, w2, w3⟩, -⟩ := ho
  refine ⟨by rw [h1]; exact ⟨o1, o2⟩, by rw [h3]; exact ⟨w1, w2⟩, fun i a b => ?_, fun i a b => ?_⟩
  · rw [h1] at b; rw [h2 i a b]; exact o3 i a b
  · rw [h3] at b; rw [h4 i a b]; exact w3 i a b
theorem RM_who {σ : zSt} {S : zAb} (hR : RM σ S) : zwho 1 (σ.1 46) (σ.1 45 0) = zwho 1 (a_pF S) (a_pN S) ∧ zwho 0 (zGt σ) (σ.1 45 1) = zwho 0 (a_wF S) (a_wN S) ∧ zflt 1 (σ.1 46) (σ.1 45 0) = zflt 1 (a_pF S) (a_pN S) ∧ zflt 0 (zGt σ) (σ.1 45 1) = zflt 0 (a_wF S) (a_wN S) := by
  rw [hR.1.1, hR.2.1.1]
  exact ⟨zwho_c hR.1.2, zwho_c hR.2.1.2, zflt_c hR.1.2, zflt_c hR.2.1.2⟩
set_option maxHeartbeats 4000000 in
set_option maxRecDepth 100000 in
/-- asTold -/
theorem c_M_asTold {S : zAb} {σ : zSt} {post : Option VV → zSt → Prop} (hR : RM σ S) (ho : aOk S) (hp : ∀ σ', mKeep σ σ' → zMc σ' (aC S) → σ'.1 44 2 = cn (aC S) → post none σ') : Mc 6 MX7_asTold [vR 6 44] σ post := by
  have hT := RM_t hR ho
  have hok := aC_ok ho
  have hEn := ho.2.2.1
  show V 6 MX7_asTold 0 [some (vR 6 44), none] [] σ post
  refine V_run kX7_asTold 1 [] (show V 6 MX7_asTold 1 [some (vR 6 44), none] [vR 6 44] σ post from ?_)
  refine V_callV (a := []) (rest := []) kX7_asTold rfl oX7_reads iX7_reads lk_7_143 rfl rfl rfl (Nat.le_of_ble_eq_true rfl) (Nat.le_of_ble_eq_true rfl) (Nat.le_of_ble_eq_true rfl) (post' := fun zv zσ => V 6 MX7_asTold 4 [some (vR 6 44), none] (zv.toList ++ []) zσ post) (c_M_reads hT (fun σ1 hf1 hd1 => (show V 6 MX7_asTold 4 [some (vR 6 44), none] [] σ1 post from ?_))) (fun _ _ h => h)
  have hR1 := RM_k hf1.k hR
  have hw := RM_who hR1
  have e8 : σ1.1 44 8 = a_eN S := hR1.2.2.1.1
  refine V_run kX7_asTold 3 [] (show V 6 MX7_asTold 9 [some (vR 6 44), none] [vZ (σ1.1 44 8), vR 6 44] σ1 post from ?_)
  refine V_top (e8) ?_
  refine V_run kX7_asTold 3 [] (show V 6 MX7_asTold 14 [some (vR 6 44), some (vZ 0)] [] (uI σ1 44 12 (a_eN S)) post from ?_)
  have loop : ∀ (m : Nat) (i : Int), 0 ≤ i → i + m = a_eN S → ∀ σ2 : zSt, mKeep σ σ2 → (∀ a : Nat, 47 ≤ a → a ≤ 50 → σ2.1 a = σ1.1 a) → σ2.1 44 2 = σ1.1 44 2 → σ2.1 44 6 = σ1.1 44 6 → σ2.1 44 12 = a_eN S → (∀ e : Int, 0 ≤ e → e < i → σ2.1 54 e = a_eK S e ∧ σ2.1 55 e = a_eM S e ∧ σ2.1 56 e = a_eP S e) → V 6 MX7_asTold 14 [some (vR 6 44), some (vZ i)] [] σ2 post := by
    intro m
    induction m with
    | zero =>
      intro i i0 i1 σ2 hk hr h2 h6 h12 hd
      have hR2 := RM_k hk hR
      have e8 : σ2.1 44 8 = a_eN S := hR2.2.2.1.1
      refine V_run kX7_asTold 3 [] (show V 6 MX7_asTold 19 [some (vR 6 44), some (vZ i)] [vZ (σ2.1 44 8), vZ i] σ2 post from ?_)
      refine V_top (e8) ?_
      refine V_run kX7_asTold 10 [1] (show (zr i ∧ zr (a_eN S) ∧ (a_eN S) ≤ i) ∧ V 6 MX7_asTold 79 [some (vR 6 44), some (vZ i)] [] (uI (uI (uI σ2 44 16 0) 44 17 (-1)) 44 18 0) post from ⟨(by omega), ?_⟩)
      refine V_vret kX7_asTold rfl rfl (hp _ (((hk.s (by decide)).s (by decide)).s (by decide)) ?_ ?_)
      · have hP := hd1.1
        have hW := hd1.2
        unfold zTdP at hP
        unfold zTdW at hW
        rw [hw.1] at hP
        rw [hw.2.1] at hW
        refine ⟨h2.trans hP.1, h12, fun k k0 k1 => ?_, fun t t0 t1 => ?_, fun e a b => ?_, ⟨by rw [uI_at, if_neg (by decide), uI_get]; decide, by rw [uI_get]; decide⟩, hok⟩
        · have h9 := hP.2 k k0 k1
          have q := (zwho1_fit (f := a_pF S) ho.1.1 k0 k1).1
          show σ2.1 47 k = _ ∧ σ2.1 48 k = _ ∧ σ2.1 49 k = _
          rw [hr 47 (by omega) (by omega), hr 48 (by omega) (by omega), hr 49 (by omega) (by omega), h9.1, h9.2.1, h9.2.2, hR1.1.2 _ (by omega) (by omega), hR1.1.2 _ (by omega) (by omega), hR1.1.2 _ (by omega) (by omega)]
          exact ⟨rfl, rfl, rfl⟩
        · have h9 := hW.2 t t0 t1
          have e17 : (uI (uI (uI σ2 44 16 0) 44 17 (-1)) 44 18 0).1 44 17 = -1 := by rw [uI_at, if_neg (by decide), uI_get]
          rw [e17, if_neg (by omega)]
          show σ2.1 50 t = _
          rw [hr 50 (by omega) (by omega), h9]
          show _ = if t < zwho 0 (a_wF S) (a_wN S) then zopn (a_wF S t) else 1
          by_cases q : t < zwho 0 (a_wF S) (a_wN S)
          · have q1 := (zwho0_fit ho.2.1.1 t0 q).1
            rw [if_pos q, if_pos q, show zGt σ1 t = a_wF S t from hR1.2.1.2 t t0 q1]
          · rw [if_neg q, if_neg q]
        · have h9 := hd e a (by have : e < a_eN S := b; omega)
          have e16 : (uI (uI (uI σ2 44 16 0) 44 17 (-1)) 44 18 0).1 44 16 = 0 := by rw [uI_at, if_neg (by decide), uI_at, if_neg (by decide), uI_get]
          rw [e16, zbt_0]
          exact ⟨h9.1, h9.2.1, h9.2.2, rfl⟩
      · exact h2.trans (by have hP := hd1.1; unfold zTdP at hP; rw [hw.1] at hP; exact hP.1)
    | succ m ih =>
      intro i i0 i1 σ2 hk hr h2 h6 h12 hd
      have hR2 := RM_k hk hR
      have e8 : σ2.1 44 8 = a_eN S := hR2.2.2.1.1
      have hev := hR2.2.2.1.2 i i0 (by omega)
      refine V_run kX7_asTold 3 [] (show V 6 MX7_asTold 19 [some (vR 6 44), some (vZ i)] [vZ (σ2.1 44 8), vZ i] σ2 post from ?_)
      refine V_top (e8) ?_
      refine V_run kX7_asTold 8 [0] (show (zr i ∧ zr (a_eN S) ∧ i < (a_eN S)) ∧ (0 ≤ i ∧ i < 9) ∧ V 6 MX7_asTold 33 [some (vR 6 44), some (vZ i)] [vZ (σ2.1 51 i), vZ i, vR 8 54] σ2 post from ⟨(by omega), (by omega), ?_⟩)
      refine V_top (hev.1) ?_
      refine V_run kX7_asTold 8 [] (show (0 ≤ i ∧ i < 9) ∧ (0 ≤ i ∧ i < 9) ∧ V 6 MX7_asTold 45 [some (vR 6 44), some (vZ i)] [vZ ((uI σ2 54 i (a_eK S i)).1 52 i), vZ i, vR 8 55] (uI σ2 54 i (a_eK S i)) post from ⟨(by omega), (by omega), ?_⟩)
      refine V_top (show (uI σ2 54 i (a_eK S i)).1 52 i = a_eM S i from hev.2.1) ?_
      refine V_run kX7_asTold 8 [] (show (0 ≤ i ∧ i < 9) ∧ (0 ≤ i ∧ i < 9) ∧ V 6 MX7_asTold 57 [some (vR 6 44), some (vZ i)] [vZ ((uI (uI σ2 54 i (a_eK S i)) 55 i (a_eM S i)).1 53 i), vZ i, vR 8 56] (uI (uI σ2 54 i (a_eK S i)) 55 i (a_eM S i)) post from ⟨(by omega), (by omega), ?_⟩)
      refine V_top (show (uI (uI σ2 54 i (a_eK S i)) 55 i (a_eM S i)).1 53 i = a_eP S i from hev.2.2) ?_
      refine V_run kX7_asTold 3 [] (show (0 ≤ i ∧ i < 9) ∧ V 6 MX7_asTold 14 [some (vR 6 44), some (vZ (i + 1))] [] (uI (uI (uI σ2 54 i (a_eK S i)) 55 i (a_eM S i)) 56 i (a_eP S i)) post from ⟨(by omega), ?_⟩)
      refine ih (i + 1) (by omega) (by omega) _ (((hk.u (by decide)).u (by decide)).u (by decide)) (fun a x y => by rw [uI_ne (by omega), uI_ne (by omega), uI_ne (by omega)]; exact hr a x y) h2 h6 h12 (fun e a b => ?_)
      rw [uI_ne (by decide), uI_ne (by decide), uI_at, uI_ne (by decide), uI_at, uI_ne (by decide), uI_at, uI_ne (by decide), uI_ne (by decide)]
      by_cases he : e = i
      · rw [if_pos he, if_pos he, if_pos he, he]; exact ⟨rfl, rfl, rfl⟩
      · rw [if_neg he, if_neg he, if_neg he]; exact hd e a (by omega)
  exact loop (a_eN S).toNat 0 (by omega) (by omega) _ (hf1.k.s (by decide)) (fun a x y => by rw [uI_ne (by omega)]) (by rw [uI_at, if_neg (by decide)]) (by rw [uI_at, if_neg (by decide)]) uI_get (fun e a b => by omega)
set_option maxHeartbeats 4000000 in
set_option maxRecDepth 100000 in
/-- runsTold -/
theorem c_M_runsTold {S : zAb} {σ : zSt} {post : Option VV → zSt → Prop} (hR : RM σ S) (ho : aOk S) (hp : ∀ σ', mKeep σ σ' → zMc σ' (aC S) → zMd σ' (dDay (aC S) 24) → zRec σ' (aC S) 24 → post none σ') : Mc 7 MX7_runsTold [vR 6 44] σ post := by
  show V 7 MX7_runsTold 0 [some (vR 6 44)] [] σ post
  refine V_run kX7_runsTold 1 [] (show V 7 MX7_runsTold 1 [some (vR 6 44)] [vR 6 44] σ post from ?_)
  refine V_callV (a := []) (rest := []) kX7_runsTold rfl oX7_asTold iX7_asTold lk_7_213 rfl rfl rfl (Nat.le_of_ble_eq_true rfl) (Nat.le_of_ble_eq_true rfl) (Nat.le_of_ble_eq_true rfl) (post' := fun zv zσ => V 7 MX7_runsTold 4 [some (vR 6 44)] (zv.toList ++ []) zσ post) (c_M_asTold hR ho (fun σ1 hk1 hc1 hn1 => (show V 7 MX7_runsTold 4 [some (vR 6 44)] [] σ1 post from ?_))) (fun _ _ h => h)
  refine V_run kX7_runsTold 1 [] (show V 7 MX7_runsTold 5 [some (vR 6 44)] [vR 6 44] σ1 post from ?_)
  refine V_callV (a := []) (rest := []) kX7_runsTold rfl oX7_runs iX7_runs lk_7_216 rfl rfl rfl (Nat.le_of_ble_eq_true rfl) (Nat.le_of_ble_eq_true rfl) (Nat.le_of_ble_eq_true rfl) (post' := fun zv zσ => V 7 MX7_runsTold 8 [some (vR 6 44)] (zv.toList ++ []) zσ post) (c_M_runs hc1 (fun σ2 hf2 hm2 hr2 => (show V 7 MX7_runsTold 8 [some (vR 6 44)] [] σ2 post from ?_))) (fun _ _ h => h)
  exact V_vret kX7_runsTold rfl rfl (hp σ2 (hk1.tr hf2.k) (zMc_nf hf2 hc1) hm2 hr2)
