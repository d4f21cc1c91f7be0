theorem zffo_is {p : Int} {f : Int → Int} : ∀ (m : Nat) (i x : Int), i ≤ x → x < i + m → (∀ j : Int, i ≤ j → j < x → zfit p f j = 1) → zfit p f x = 0 → zffo p f m i = x
  | 0, i, x, h1, h2, _, _ => by omega
  | m + 1, i, x, h1, h2, h3, h4 => by
    unfold zffo
    by_cases hi : i = x
    · rw [hi, if_pos h4]
    · rw [if_neg (by rw [h3 i (Int.le_refl _) (by omega)]; decide)]
      exact zffo_is m (i + 1) x (by omega) (by omega) (fun j a b => h3 j (by omega) b) h4
theorem zffo_no {p : Int} {f : Int → Int} : ∀ (m : Nat) (i : Int), (∀ j : Int, i ≤ j → j < i + m → zfit p f j = 1) → zffo p f m i = -1
  | 0, _, _ => rfl
  | m + 1, i, h => by
    unfold zffo
    rw [if_neg (by rw [h i (Int.le_refl _) (by omega)]; decide)]
    exact zffo_no m (i + 1) (fun j a b => h j (by omega) (by omega))
theorem zflt_at {p n x : Int} {f : Int → Int} (h0 : 0 ≤ x) (h1 : x < n) (h2 : ∀ j : Int, 0 ≤ j → j < x → zfit p f j = 1) (h3 : zfit p f x = 0) : zflt p f n = x := by
  unfold zflt zfl2
  rw [zffo_is n.toNat 0 x h0 (by omega) h2 h3, if_neg (by omega)]
theorem zflt_no {p n : Int} {f : Int → Int} (h2 : ∀ j : Int, 0 ≤ j → j < n → zfit p f j = 1) : zflt p f n = if zend p n = 0 then n else -1 := by
  unfold zflt zfl2
  rw [zffo_no n.toNat 0 (fun j a b => h2 j a (by omega)), if_pos rfl]
/-- the texts in the reference's cells -/
def zTm (σ : zSt) : Prop := (0 ≤ σ.1 45 0 ∧ σ.1 45 0 ≤ 47) ∧ (0 ≤ σ.1 45 1 ∧ σ.1 45 1 ≤ 24) ∧ (∀ i : Int, 0 ≤ i → i < σ.1 45 0 → 0 ≤ σ.1 46 i ∧ σ.1 46 i ≤ 255) ∧ ∀ i : Int, 0 ≤ i → i < σ.1 45 1 → 0 ≤ σ.1 46 (47 + i) ∧ σ.1 46 (47 + i) ≤ 255
def zGt (σ : zSt) : Int → Int := fun i => σ.1 46 (47 + i)
/-- the texts are read -/
def zTdP (σ : zSt) : Prop := σ.1 44 2 = zwho 1 (σ.1 46) (σ.1 45 0) ∧ ∀ p : Int, 0 ≤ p → p < zwho 1 (σ.1 46) (σ.1 45 0) → σ.1 47 p = σ.1 46 (4 * p) - 97 ∧ σ.1 48 p = zsgn (σ.1 46 (4 * p + 1)) ∧ σ.1 49 p = σ.1 46 (4 * p + 2) - 48
def zTdW (σ : zSt) : Prop := σ.1 44 6 = zwho 0 (zGt σ) (σ.1 45 1) ∧ ∀ t : Int, 0 ≤ t → t < 24 → σ.1 50 t = if t < zwho 0 (zGt σ) (σ.1 45 1) then zopn (zGt σ t) else 1
/-- reading: what it may change -/
def rFr (σ σ' : zSt) : Prop := σ'.2 = σ.2 ∧ (∀ a : Nat, (a < 47 ∨ 50 < a) → a ≠ 44 → σ'.1 a = σ.1 a) ∧ ∀ b : Int, b ≠ 2 → b ≠ 6 → σ'.1 44 b = σ.1 44 b
theorem rFr.rf {σ : zSt} : rFr σ σ := ⟨rfl, fun _ _ _ => rfl, fun _ _ _ => rfl⟩
theorem rFr.tr {σ σ' σ'' : zSt} (h : rFr σ σ') (h2 : rFr σ' σ'') : rFr σ σ'' := ⟨h2.1.trans h.1, fun a x y => (h2.2.1 a x y).trans (h.2.1 a x y), fun b x y => (h2.2.2 b x y).trans (h.2.2 b x y)⟩
theorem rFr.u {σ σ' : zSt} (h : rFr σ σ') {k : Nat} {j v : Int} (h1 : 47 ≤ k) (h2 : k ≤ 50) : rFr σ (uI σ' k j v) := ⟨h.1, fun a x y => by rw [uI_ne (by omega)]; exact h.2.1 a x y, fun b x y => by rw [uI_ne (by omega)]; exact h.2.2 b x y⟩
theorem rFr.s {σ σ' : zSt} (h : rFr σ σ') {j v : Int} (h1 : j = 2 ∨ j = 6) : rFr σ (uI σ' 44 j v) := ⟨h.1, fun a x y => by rw [uI_ne y]; exact h.2.1 a x y, fun b x y => by rw [uI_at, if_neg (by omega)]; exact h.2.2 b x y⟩
theorem rFr.t {σ σ' : zSt} (h : rFr σ σ') : σ'.1 45 = σ.1 45 ∧ σ'.1 46 = σ.1 46 := ⟨h.2.1 45 (by omega) (by omega), h.2.1 46 (by omega) (by omega)⟩
theorem zTm_r {σ σ' : zSt} (h : rFr σ σ') (hT : zTm σ) : zTm σ' := by
  unfold zTm at hT ⊢
  rw [h.t.1, h.t.2]
  exact hT
/-- one person read -/
def zRp (σ σ' : zSt) (n b0 b1 b2 r : Int) : Prop := (r = 0 ∧ ¬ (97 ≤ b0 ∧ b0 ≤ 120) ∧ σ' = σ) ∨ (r = 1 ∧ (97 ≤ b0 ∧ b0 ≤ 120) ∧ zsgn b1 = -1 ∧ σ' = σ) ∨ (r = 2 ∧ (97 ≤ b0 ∧ b0 ≤ 120) ∧ ¬ zsgn b1 = -1 ∧ ¬ (49 ≤ b2 ∧ b2 ≤ 57) ∧ σ' = σ) ∨ (r = 3 ∧ (97 ≤ b0 ∧ b0 ≤ 120) ∧ ¬ zsgn b1 = -1 ∧ (49 ≤ b2 ∧ b2 ≤ 57) ∧ σ' = uI (uI (uI σ 47 n (b0 - 97)) 48 n (zsgn b1)) 49 n (b2 - 48))
set_option maxHeartbeats 4000000 in
set_option maxRecDepth 100000 in
/-- in -/
theorem c_M_in {x lo hi : Int} {σ : zSt} {post : Option VV → zSt → Prop} (hx : zr x) (hl : zr lo) (hh : zr hi) (hp : post (some (vZ (if lo ≤ x ∧ x ≤ hi then 1 else 0))) σ) : Mc 0 MX7_in [vZ x, vZ lo, vZ hi] σ post := by
  show V 0 MX7_in 0 [some (vZ x), some (vZ lo), some (vZ hi)] [] σ post
  refine V_run kX7_in 2 [] (show V 0 MX7_in 2 [some (vZ x), some (vZ lo), some (vZ hi)] [vZ lo, vZ x] σ post from ?_)
  rcases Int.lt_or_le x lo with h1 | h1
  · skip
    rw [if_neg (by omega)] at hp
    refine V_run kX7_in 2 [1] (show (zr x ∧ zr lo ∧ x < lo) ∧ V 0 MX7_in 15 [some (vZ x), some (vZ lo), some (vZ hi)] [vZ 0] σ post from ⟨(by omega), ?_⟩)
    exact V_zret kX7_in rfl rfl (Or.inl rfl) (hp)
  · skip
    refine V_run kX7_in 3 [0] (show (zr x ∧ zr lo ∧ lo ≤ x) ∧ V 0 MX7_in 7 [some (vZ x), some (vZ lo), some (vZ hi)] [vZ hi, vZ x] σ post from ⟨(by omega), ?_⟩)
    rcases Int.lt_or_le hi x with h2 | h2
    · skip
      rw [if_neg (by omega)] at hp
      refine V_run kX7_in 2 [1] (show (zr x ∧ zr hi ∧ hi < x) ∧ V 0 MX7_in 15 [some (vZ x), some (vZ lo), some (vZ hi)] [vZ 0] σ post from ⟨(by omega), ?_⟩)
      exact V_zret kX7_in rfl rfl (Or.inl rfl) (hp)
    · skip
      rw [if_pos ⟨h1, h2⟩] at hp
      refine V_run kX7_in 3 [0] (show (zr x ∧ zr hi ∧ x ≤ hi) ∧ V 0 MX7_in 15 [some (vZ x), some (vZ lo), some (vZ hi)] [vZ 1] σ post from ⟨(by omega), ?_⟩)
      exact V_zret kX7_in rfl rfl (Or.inr rfl) (hp)
set_option maxHeartbeats 4000000 in
set_option maxRecDepth 100000 in
/-- isText -/
theorem c_M_isText {x : Int} {σ : zSt} {post : Option VV → zSt → Prop} (hx : zr x) (hp : post (some (vZ (if 0 ≤ x ∧ x ≤ 1 then 1 else 0))) σ) : Mc 1 MX7_isText [vZ x] σ post := by
  show V 1 MX7_isText 0 [some (vZ x)] [] σ post
  refine V_run kX7_isText 3 [] (show V 1 MX7_isText 3 [some (vZ x)] [vZ 1, vZ 0, vZ x] σ post from ?_)
  refine V_callS (a := [vZ x, vZ 0, vZ 1]) (rest := []) kX7_isText rfl oX7_in iX7_in lk_7_104 rfl rfl (Nat.le_of_ble_eq_true rfl) (Nat.le_of_ble_eq_true rfl) (Nat.le_of_ble_eq_true rfl) (post' := fun zv zσ => V 1 MX7_isText 6 [some (vZ x)] (zv.toList ++ []) zσ post) (c_M_in hx (by omega) (by omega) ((show V 1 MX7_isText 6 [some (vZ x)] [vZ (if 0 ≤ x ∧ x ≤ 1 then 1 else 0)] σ post from ?_))) (fun _ _ h => h)
  exact V_zret kX7_isText rfl rfl (by split; exact Or.inr rfl; exact Or.inl rfl) (hp)
set_option maxHeartbeats 4000000 in
set_option maxRecDepth 100000 in
/-- isMinute -/
theorem c_M_isMinute {x : Int} {σ : zSt} {post : Option VV → zSt → Prop} (hx : zr x) (hp : post (some (vZ (if 0 ≤ x ∧ x ≤ 23 then 1 else 0))) σ) : Mc 1 MX7_isMinute [vZ x] σ post := by
  show V 1 MX7_isMinute 0 [some (vZ x)] [] σ post
  refine V_run kX7_isMinute 3 [] (show V 1 MX7_isMinute 4 [some (vZ x)] [vZ 23, vZ 0, vZ x] σ post from ?_)
  refine V_callS (a := [vZ x, vZ 0, vZ 23]) (rest := []) kX7_isMinute rfl oX7_in iX7_in lk_7_104 rfl rfl (Nat.le_of_ble_eq_true rfl) (Nat.le_of_ble_eq_true rfl) (Nat.le_of_ble_eq_true rfl) (post' := fun zv zσ => V 1 MX7_isMinute 7 [some (vZ x)] (zv.toList ++ []) zσ post) (c_M_in hx (by omega) (by omega) ((show V 1 MX7_isMinute 7 [some (vZ x)] [vZ (if 0 ≤ x ∧ x ≤ 23 then 1 else 0)] σ post from ?_))) (fun _ _ h => h)
  exact V_zret kX7_isMinute rfl rfl (by split; exact Or.inr rfl; exact Or.inl rfl) (hp)
set_option maxHeartbeats 4000000 in
set_option maxRecDepth 100000 in
/-- isTwo -/
theorem c_M_isTwo {x : Int} {σ : zSt} {post : Option VV → zSt → Prop} (hx : zr x) (hp : post (some (vZ (if 0 ≤ x ∧ x ≤ 1 then 1 else 0))) σ) : Mc 1 MX7_isTwo [vZ x] σ post := by
  show V 1 MX7_isTwo 0 [some (vZ x)] [] σ post
  refine V_run kX7_isTwo 3 [] (show V 1 MX7_isTwo 3 [some (vZ x)] [vZ 1, vZ 0, vZ x] σ post from ?_)
  refine V_callS (a := [vZ x, vZ 0, vZ 1]) (rest := []) kX7_isTwo rfl oX7_in iX7_in lk_7_104 rfl rfl (Nat.le_of_ble_eq_true rfl) (Nat.le_of_ble_eq_true rfl) (Nat.le_of_ble_eq_true rfl) (post' := fun zv zσ => V 1 MX7_isTwo 6 [some (vZ x)] (zv.toList ++ []) zσ post) (c_M_in hx (by omega) (by omega) ((show V 1 MX7_isTwo 6 [some (vZ x)] [vZ (if 0 ≤ x ∧ x ≤ 1 then 1 else 0)] σ post from ?_))) (fun _ _ h => h)
  exact V_zret kX7_isTwo rfl rfl (by split; exact Or.inr rfl; exact Or.inl rfl) (hp)
set_option maxHeartbeats 4000000 in
set_option maxRecDepth 100000 in
/-- isThree -/
theorem c_M_isThree {x : Int} {σ : zSt} {post : Option VV → zSt → Prop} (hx : zr x) (hp : post (some (vZ (if 0 ≤ x ∧ x ≤ 2 then 1 else 0))) σ) : Mc 1 MX7_isThree [vZ x] σ post := by
  show V 1 MX7_isThree 0 [some (vZ x)] [] σ post
  refine V_run kX7_isThree 3 [] (show V 1 MX7_isThree 3 [some (vZ x)] [vZ 2, vZ 0, vZ x] σ post from ?_)
  refine V_callS (a := [vZ x, vZ 0, vZ 2]) (rest := []) kX7_isThree rfl oX7_in iX7_in lk_7_104 rfl rfl (Nat.le_of_ble_eq_true rfl) (Nat.le_of_ble_eq_true rfl) (Nat.le_of_ble_eq_true rfl) (post' := fun zv zσ => V 1 MX7_isThree 6 [some (vZ x)] (zv.toList ++ []) zσ post) (c_M_in hx (by omega) (by omega) ((show V 1 MX7_isThree 6 [some (vZ x)] [vZ (if 0 ≤ x ∧ x ≤ 2 then 1 else 0)] σ post from ?_))) (fun _ _ h => h)
  exact V_zret kX7_isThree rfl rfl (by split; exact Or.inr rfl; exact Or.inl rfl) (hp)
set_option maxHeartbeats 4000000 in
set_option maxRecDepth 100000 in
/-- isTwelve -/
theorem c_M_isTwelve {x : Int} {σ : zSt} {post : Option VV → zSt → Prop} (hx : zr x) (hp : post (some (vZ (if 0 ≤ x ∧ x ≤ 11 then 1 else 0))) σ) : Mc 1 MX7_isTwelve [vZ x] σ post := by
  show V 1 MX7_isTwelve 0 [some (vZ x)] [] σ post
  refine V_run kX7_isTwelve 3 [] (show V 1 MX7_isTwelve 4 [some (vZ x)] [vZ 11, vZ 0, vZ x] σ post from ?_)
  refine V_callS (a := [vZ x, vZ 0, vZ 11]) (rest := []) kX7_isTwelve rfl oX7_in iX7_in lk_7_104 rfl rfl (Nat.le_of_ble_eq_true rfl) (Nat.le_of_ble_eq_true rfl) (Nat.le_of_ble_eq_true rfl) (post' := fun zv zσ => V 1 MX7_isTwelve 7 [some (vZ x)] (zv.toList ++ []) zσ post) (c_M_in hx (by omega) (by omega) ((show V 1 MX7_isTwelve 7 [some (vZ x)] [vZ (if 0 ≤ x ∧ x ≤ 11 then 1 else 0)] σ post from ?_))) (fun _ _ h => h)
  exact V_zret kX7_isTwelve rfl rfl (by split; exact Or.inr rfl; exact Or.inl rfl) (hp)
set_option maxHeartbeats 4000000 in
set_option maxRecDepth 100000 in
/-- isSheet -/
theorem c_M_isSheet {x : Int} {σ : zSt} {post : Option VV → zSt → Prop} (hx : zr x) (hp : post (some (vZ (if 0 ≤ x ∧ x ≤ 3 then 1 else 0))) σ) : Mc 1 MX7_isSheet [vZ x] σ post := by
  show V 1 MX7_isSheet 0 [some (vZ x)] [] σ post
  refine V_run kX7_isSheet 3 [] (show V 1 MX7_isSheet 3 [some (vZ x)] [vZ 3, vZ 0, vZ x] σ post from ?_)
  refine V_callS (a := [vZ x, vZ 0, vZ 3]) (rest := []) kX7_isSheet rfl oX7_in iX7_in lk_7_104 rfl rfl (Nat.le_of_ble_eq_true rfl) (Nat.le_of_ble_eq_true rfl) (Nat.le_of_ble_eq_true rfl) (post' := fun zv zσ => V 1 MX7_isSheet 6 [some (vZ x)] (zv.toList ++ []) zσ post) (c_M_in hx (by omega) (by omega) ((show V 1 MX7_isSheet 6 [some (vZ x)] [vZ (if 0 ≤ x ∧ x ≤ 3 then 1 else 0)] σ post from ?_))) (fun _ _ h => h)
  exact V_zret kX7_isSheet rfl rfl (by split; exact Or.inr rfl; exact Or.inl rfl) (hp)
set_option maxHeartbeats 4000000 in
set_option maxRecDepth 100000 in
/-- byteAt -/
theorem c_M_byteAt {k : Int} {σ : zSt} {post : Option VV → zSt → Prop} (hT : zTm σ) (h0 : 0 ≤ k) (hk : zr k) (hp : post (some (vZ (zby (σ.1 46) (σ.1 45 0) k))) σ) : Mc 0 MX7_byteAt [vR 6 44, vZ k] σ post := by
  have hN := hT.1
  unfold zby at hp
  show V 0 MX7_byteAt 0 [some (vR 6 44), some (vZ k)] [] σ post
  refine V_run kX7_byteAt 5 [] (show (0 ≤ 0 ∧ 0 < 2) ∧ V 0 MX7_byteAt 7 [some (vR 6 44), some (vZ k)] [vZ (σ.1 45 0), vZ k] σ post from ⟨(by omega), ?_⟩)
  rcases Int.lt_or_le k (σ.1 45 0) with h1 | h1
  · skip
    rw [if_pos ⟨h0, h1⟩] at hp
    refine V_run kX7_byteAt 6 [0] (show (zr k ∧ zr (σ.1 45 0) ∧ k < (σ.1 45 0)) ∧ (0 ≤ k ∧ k < 94) ∧ V 0 MX7_byteAt 20 [some (vR 6 44), some (vZ k)] [vZ (σ.1 46 k)] σ post from ⟨(by omega), (by omega), ?_⟩)
    exact V_iret kX7_byteAt rfl rfl (hp)
  · skip
    rw [if_neg (by omega)] at hp
    refine V_run kX7_byteAt 2 [1] (show (zr k ∧ zr (σ.1 45 0) ∧ (σ.1 45 0) ≤ k) ∧ V 0 MX7_byteAt 20 [some (vR 6 44), some (vZ k)] [vZ (-1)] σ post from ⟨(by omega), ?_⟩)
    exact V_iret kX7_byteAt rfl rfl (hp)
theorem zby_rng {σ : zSt} {k : Int} (hT : zTm σ) : -1 ≤ zby (σ.1 46) (σ.1 45 0) k ∧ zby (σ.1 46) (σ.1 45 0) k ≤ 255 := by
  unfold zby
  by_cases h : 0 ≤ k ∧ k < σ.1 45 0
  · rw [if_pos h]; have := hT.2.2.1 k h.1 h.2; omega
  · rw [if_neg h]; omega
set_option maxHeartbeats 4000000 in
set_option maxRecDepth 100000 in
/-- readsPerson -/
theorem c_M_readsPerson {n a : Int} {σ : zSt} {post : Option VV → zSt → Prop} (hT : zTm σ) (n0 : 0 ≤ n) (n1 : n < 12) (h0 : 0 ≤ a) (h1 : a ≤ 60) (hp : ∀ r σ', zRp σ σ' n (zby (σ.1 46) (σ.1 45 0) (a)) (zby (σ.1 46) (σ.1 45 0) (a + 1)) (zby (σ.1 46) (σ.1 45 0) (a + 2)) r → post (some (vZ r)) σ') : Mc 2 MX7_readsPerson [vR 6 44, vZ n, vZ a] σ post := by
  have hr0 := zby_rng (k := a) hT
  have hr1 := zby_rng (k := a + 1) hT
  have hr2 := zby_rng (k := a + 2) hT
  obtain ⟨b0, e0⟩ : ∃ x, x = zby (σ.1 46) (σ.1 45 0) (a) := ⟨_, rfl⟩
  obtain ⟨b1, e1⟩ : ∃ x, x = zby (σ.1 46) (σ.1 45 0) (a + 1) := ⟨_, rfl⟩
  obtain ⟨b2, e2⟩ : ∃ x, x = zby (σ.1 46) (σ.1 45 0) (a + 2) := ⟨_, rfl⟩
  rw [← e0] at hr0 hp
  rw [← e1] at hr1 hp
  rw [← e2] at hr2 hp
  have hsr := zsgn_rng b1
  have fin : ∀ y : Int, y = zsgn b1 → V 2 MX7_readsPerson 52 [some (vR 6 44), some (vZ n), some (vZ a), some (vZ (b0 - 97)), some (vZ b1), none, none] [vZ y] σ post := by
    intro y hy
    rw [← hy] at hsr
    unfold zRp at hp
    rw [← hy] at hp
    refine V_run kX7_readsPerson 5 [] (show V 2 MX7_readsPerson 58 [some (vR 6 44), some (vZ n), some (vZ a), some (vZ (b0 - 97)), some (vZ b1), some (vZ y), none] [vZ (a + 2), vR 6 44] σ post from ?_)
    refine V_callV (a := [vZ (a + 2)]) (rest := []) kX7_readsPerson rfl oX7_byteAt iX7_byteAt lk_7_112 rfl rfl rfl (Nat.le_of_ble_eq_true rfl) (Nat.le_of_ble_eq_true rfl) (Nat.le_of_ble_eq_true rfl) (post' := fun zv zσ => V 2 MX7_readsPerson 61 [some (vR 6 44), some (vZ n), some (vZ a), some (vZ (b0 - 97)), some (vZ b1), some (vZ y), none] (zv.toList ++ []) zσ post) (c_M_byteAt hT (by omega) (by omega) ((show V 2 MX7_readsPerson 61 [some (vR 6 44), some (vZ n), some (vZ a), some (vZ (b0 - 97)), some (vZ b1), some (vZ y), none] [vZ (zby (σ.1 46) (σ.1 45 0) (a + 2))] σ post from ?_))) (fun _ _ h => h)
    refine V_top (e2.symm) ?_
    refine V_run kX7_readsPerson 7 [0] (show (zr n ∧ zr 12 ∧ ¬ n = 12) ∧ V 2 MX7_readsPerson 73 [some (vR 6 44), some (vZ n), some (vZ a), some (vZ (b0 - 97)), some (vZ b1), some (vZ y), some (vZ (b2 - 48))] [vZ (b0 - 97)] σ post from ⟨(by omega), ?_⟩)
    refine V_callS (a := [vZ (b0 - 97)]) (rest := []) kX7_readsPerson rfl oX7_isMinute iX7_isMinute lk_7_116 rfl rfl (Nat.le_of_ble_eq_true rfl) (Nat.le_of_ble_eq_true rfl) (Nat.le_of_ble_eq_true rfl) (post' := fun zv zσ => V 2 MX7_readsPerson 76 [some (vR 6 44), some (vZ n), some (vZ a), some (vZ (b0 - 97)), some (vZ b1), some (vZ y), some (vZ (b2 - 48))] (zv.toList ++ []) zσ post) (c_M_isMinute (by omega) ((show V 2 MX7_readsPerson 76 [some (vR 6 44), some (vZ n), some (vZ a), some (vZ (b0 - 97)), some (vZ b1), some (vZ y), some (vZ (b2 - 48))] [vZ (if 0 ≤ b0 - 97 ∧ b0 - 97 ≤ 23 then 1 else 0)] σ post from ?_))) (fun _ _ h => h)
    by_cases h1 : 97 ≤ b0 ∧ b0 ≤ 120
    · skip
      refine V_top (by rw [if_pos (by omega)]) ?_
      refine V_run kX7_readsPerson 3 [1] (show (zr 1 ∧ ¬ 1 = 0) ∧ V 2 MX7_readsPerson 84 [some (vR 6 44), some (vZ n), some (vZ a), some (vZ (b0 - 97)), some (vZ b1), some (vZ y), some (vZ (b2 - 48))] [vZ (-1), vZ y] σ post from ⟨(by omega), ?_⟩)
      by_cases h2 : y = -1
      · skip
        refine V_run kX7_readsPerson 2 [0] (show (zr y ∧ zr (-1) ∧ y = (-1)) ∧ V 2 MX7_readsPerson 88 [some (vR 6 44), some (vZ n), some (vZ a), some (vZ (b0 - 97)), some (vZ b1), some (vZ y), some (vZ (b2 - 48))] [vZ 1] σ post from ⟨(by omega), ?_⟩)
        exact V_iret kX7_readsPerson rfl rfl (hp 1 σ (Or.inr (Or.inl ⟨rfl, h1, h2, rfl⟩)))
      · skip
        refine V_run kX7_readsPerson 4 [1] (show (zr y ∧ zr (-1) ∧ ¬ y = (-1)) ∧ V 2 MX7_readsPerson 94 [some (vR 6 44), some (vZ n), some (vZ a), some (vZ (b0 - 97)), some (vZ b1), some (vZ y), some (vZ (b2 - 48))] [vZ 9, vZ 1, vZ (b2 - 48)] σ post from ⟨(by omega), ?_⟩)
        refine V_callS (a := [vZ (b2 - 48), vZ 1, vZ 9]) (rest := []) kX7_readsPerson rfl oX7_in iX7_in lk_7_104 rfl rfl (Nat.le_of_ble_eq_true rfl) (Nat.le_of_ble_eq_true rfl) (Nat.le_of_ble_eq_true rfl) (post' := fun zv zσ => V 2 MX7_readsPerson 97 [some (vR 6 44), some (vZ n), some (vZ a), some (vZ (b0 - 97)), some (vZ b1), some (vZ y), some (vZ (b2 - 48))] (zv.toList ++ []) zσ post) (c_M_in (by omega) (by omega) (by omega) ((show V 2 MX7_readsPerson 97 [some (vR 6 44), some (vZ n), some (vZ a), some (vZ (b0 - 97)), some (vZ b1), some (vZ y), some (vZ (b2 - 48))] [vZ (if 1 ≤ b2 - 48 ∧ b2 - 48 ≤ 9 then 1 else 0)] σ post from ?_))) (fun _ _ h => h)
        by_cases h3 : 49 ≤ b2 ∧ b2 ≤ 57
        · skip
          refine V_top (by rw [if_pos (by omega)]) ?_
          refine V_run kX7_readsPerson 17 [1] (show (zr 1 ∧ ¬ 1 = 0) ∧ (0 ≤ n ∧ n < 13) ∧ (0 ≤ n ∧ n < 13) ∧ (0 ≤ n ∧ n < 13) ∧ V 2 MX7_readsPerson 126 [some (vR 6 44), some (vZ n), some (vZ a), some (vZ (b0 - 97)), some (vZ b1), some (vZ y), some (vZ (b2 - 48))] [vZ 3] (uI (uI (uI σ 47 n (b0 - 97)) 48 n y) 49 n (b2 - 48)) post from ⟨(by omega), (by omega), (by omega), (by omega), ?_⟩)
          exact V_iret kX7_readsPerson rfl rfl (hp 3 _ (Or.inr (Or.inr (Or.inr ⟨rfl, h1, h2, h3, rfl⟩))))
        · skip
          refine V_top (by rw [if_neg (by omega)]) ?_
          refine V_run kX7_readsPerson 2 [0] (show (zr 0 ∧ 0 = 0) ∧ V 2 MX7_readsPerson 101 [some (vR 6 44), some (vZ n), some (vZ a), some (vZ (b0 - 97)), some (vZ b1), some (vZ y), some (vZ (b2 - 48))] [vZ 2] σ post from ⟨(by omega), ?_⟩)
          exact V_iret kX7_readsPerson rfl rfl (hp 2 σ (Or.inr (Or.inr (Or.inl ⟨rfl, h1, h2, h3, rfl⟩))))
    · skip
      refine V_top (by rw [if_neg (by omega)]) ?_
      refine V_run kX7_readsPerson 2 [0] (show (zr 0 ∧ 0 = 0) ∧ V 2 MX7_readsPerson 80 [some (vR 6 44), some (vZ n), some (vZ a), some (vZ (b0 - 97)), some (vZ b1), some (vZ y), some (vZ (b2 - 48))] [vZ 0] σ post from ⟨(by omega), ?_⟩)
      exact V_iret kX7_readsPerson rfl rfl (hp 0 σ (Or.inl ⟨rfl, h1, rfl⟩))
  show V 2 MX7_readsPerson 0 [some (vR 6 44), some (vZ n), some (vZ a), none, none, none, none] [] σ post
  refine V_run kX7_readsPerson 2 [] (show V 2 MX7_readsPerson 2 [some (vR 6 44), some (vZ n), some (vZ a), none, none, none, none] [vZ a, vR 6 44] σ post from ?_)
  refine V_callV (a := [vZ a]) (rest := []) kX7_readsPerson rfl oX7_byteAt iX7_byteAt lk_7_112 rfl rfl rfl (Nat.le_of_ble_eq_true rfl) (Nat.le_of_ble_eq_true rfl) (Nat.le_of_ble_eq_true rfl) (post' := fun zv zσ => V 2 MX7_readsPerson 5 [some (vR 6 44), some (vZ n), some (vZ a), none, none, none, none] (zv.toList ++ []) zσ post) (c_M_byteAt hT h0 (by omega) ((show V 2 MX7_readsPerson 5 [some (vR 6 44), some (vZ n), some (vZ a), none, none, none, none] [vZ (zby (σ.1 46) (σ.1 45 0) (a))] σ post from ?_))) (fun _ _ h => h)
  refine V_top (e0.symm) ?_
  refine V_run kX7_readsPerson 7 [] (show V 2 MX7_readsPerson 13 [some (vR 6 44), some (vZ n), some (vZ a), some (vZ (b0 - 97)), none, none, none] [vZ (a + 1), vR 6 44] σ post from ?_)
  refine V_callV (a := [vZ (a + 1)]) (rest := []) kX7_readsPerson rfl oX7_byteAt iX7_byteAt lk_7_112 rfl rfl rfl (Nat.le_of_ble_eq_true rfl) (Nat.le_of_ble_eq_true rfl) (Nat.le_of_ble_eq_true rfl) (post' := fun zv zσ => V 2 MX7_readsPerson 16 [some (vR 6 44), some (vZ n), some (vZ a), some (vZ (b0 - 97)), none, none, none] (zv.toList ++ []) zσ post) (c_M_byteAt hT (by omega) (by omega) ((show V 2 MX7_readsPerson 16 [some (vR 6 44), some (vZ n), some (vZ a), some (vZ (b0 - 97)), none, none, none] [vZ (zby (σ.1 46) (σ.1 45 0) (a + 1))] σ post from ?_))) (fun _ _ h => h)
  refine V_top (e1.symm) ?_
  refine V_run kX7_readsPerson 3 [] (show V 2 MX7_readsPerson 22 [some (vR 6 44), some (vZ n), some (vZ a), some (vZ (b0 - 97)), some (vZ b1), none, none] [vZ 112, vZ b1] σ post from ?_)
  by_cases q112 : b1 = 112
  · skip
    refine V_run kX7_readsPerson 3 [0] (show (zr b1 ∧ zr 112 ∧ b1 = 112) ∧ V 2 MX7_readsPerson 52 [some (vR 6 44), some (vZ n), some (vZ a), some (vZ (b0 - 97)), some (vZ b1), none, none] [vZ 0] σ post from ⟨(by omega), ?_⟩)
    exact fin _ (by unfold zsgn; (repeat' split) <;> omega)
  · skip
    refine V_run kX7_readsPerson 3 [1] (show (zr b1 ∧ zr 112 ∧ ¬ b1 = 112) ∧ V 2 MX7_readsPerson 33 [some (vR 6 44), some (vZ n), some (vZ a), some (vZ (b0 - 97)), some (vZ b1), none, none] [vZ 119, vZ b1] σ post from ⟨(by omega), ?_⟩)
    by_cases q119 : b1 = 119
    · skip
      refine V_run kX7_readsPerson 3 [0] (show (zr b1 ∧ zr 119 ∧ b1 = 119) ∧ V 2 MX7_readsPerson 52 [some (vR 6 44), some (vZ n), some (vZ a), some (vZ (b0 - 97)), some (vZ b1), none, none] [vZ 1] σ post from ⟨(by omega), ?_⟩)
      exact fin _ (by unfold zsgn; (repeat' split) <;> omega)
    · skip
      refine V_run kX7_readsPerson 3 [1] (show (zr b1 ∧ zr 119 ∧ ¬ b1 = 119) ∧ V 2 MX7_readsPerson 44 [some (vR 6 44), some (vZ n), some (vZ a), some (vZ (b0 - 97)), some (vZ b1), none, none] [vZ 109, vZ b1] σ post from ⟨(by omega), ?_⟩)
      by_cases q109 : b1 = 109
      · skip
        refine V_run kX7_readsPerson 3 [0] (show (zr b1 ∧ zr 109 ∧ b1 = 109) ∧ V 2 MX7_readsPerson 52 [some (vR 6 44), some (vZ n), some (vZ a), some (vZ (b0 - 97)), some (vZ b1), none, none] [vZ 2] σ post from ⟨(by omega), ?_⟩)
        exact fin _ (by unfold zsgn; (repeat' split) <;> omega)
      · skip
        refine V_run kX7_readsPerson 2 [1] (show (zr b1 ∧ zr 109 ∧ ¬ b1 = 109) ∧ V 2 MX7_readsPerson 52 [some (vR 6 44), some (vZ n), some (vZ a), some (vZ (b0 - 97)), some (vZ b1), none, none] [vZ (-1)] σ post from ⟨(by omega), ?_⟩)
        exact fin _ (by unfold zsgn; (repeat' split) <;> omega)
