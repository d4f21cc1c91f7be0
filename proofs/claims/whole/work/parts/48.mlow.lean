theorem zlcmp_gt {a b : Nat} (ha : a < 2 ^ 63) (hb : b < 2 ^ 63) : 0 < zlcmp (lN a) (lN b) ↔ b < a := by
  have h2 := pk_lLT hb ha
  unfold zlcmp lg_cmp
  by_cases q : lN a > lN b
  · rw [if_pos q]
    exact ⟨fun _ => h2.mp q, fun _ => by decide⟩
  · rw [if_neg q]
    refine ⟨fun z => ?_, fun z => absurd (h2.mpr z) q⟩
    by_cases q2 : lN a = lN b
    · rw [if_pos q2] at z; exact absurd z (by decide)
    · rw [if_neg q2] at z; exact absurd z (by decide)
theorem zshl1_all : ∀ n : Nat, n < 16 → zshl 1 (n : Int) = ((2 ^ n : Nat) : Int) := by decide +kernel
theorem zshl1 {e : Int} (h0 : 0 ≤ e) (h : e < 16) : zshl 1 e = ((2 ^ e.toNat : Nat) : Int) := by
  have := zshl1_all e.toNat (by omega)
  rwa [show ((e.toNat : Nat) : Int) = e by omega] at this
/-- the weight of a choice of events that don't happen, in sixteenths -/
def zWt (c x : Int) : Nat → Int → Nat → Nat
  | 0, _, a => a
  | m + 1, e, a => zWt c x m (e + 1) (a * (if zbt x e = true then (16 - c).toNat else c.toNat))
def zSum (C : zCf) (c k : Int) : Nat → Int → Nat → Nat
  | 0, _, a => a
  | m + 1, x, a => zSum C c k m (x + 1) (a + (if dl (zD (cNot C x) 23) k = 0 then zWt c x (cE C).toNat 0 1 else 0))
def zLow (s b : Nat) (x : Int) : Int64 := if x = 0 then lN (s / Nat.gcd s b) else lN (b / Nat.gcd s b)
def zCha (S : zAb) (c k x : Int) : Int64 := zLow (zSum (aC S) c k (2 ^ (a_eN S).toNat) 0 0) (2 ^ (4 * a_eN S).toNat) x
def aChance (S : zAb) (c k x : Int) : Int64 := if (0 ≤ c ∧ c ≤ 16) ∧ (0 ≤ k ∧ k < cn (aC S)) ∧ 0 ≤ x ∧ x ≤ 1 then zCha S c k x else lN 9223372036854775810
theorem zWt_le {c x : Int} (h0 : 0 ≤ c) (h : c ≤ 16) : ∀ (m : Nat) (e : Int) (a : Nat), zWt c x m e a ≤ 16 ^ m * a
  | 0, _, a => by unfold zWt; omega
  | m + 1, e, a => by
    unfold zWt
    refine Nat.le_trans (zWt_le h0 h m (e + 1) _) ?_
    have q : (if zbt x e = true then (16 - c).toNat else c.toNat) ≤ 16 := by split <;> omega
    have q2 := Nat.mul_le_mul_left a q
    have q3 := Nat.mul_le_mul_left (16 ^ m) q2
    rw [Nat.pow_succ]
    calc _ ≤ _ := q3
      _ = 16 ^ m * 16 * a := by rw [Nat.mul_comm a 16, Nat.mul_assoc]
theorem zWt_lt {c x : Int} (h0 : 0 ≤ c) (h : c ≤ 16) {n : Nat} (hn : n ≤ 8) : zWt c x n 0 1 ≤ 16 ^ 8 := by
  have h1 := zWt_le (x := x) h0 h n 0 1
  have h2 : (16 : Nat) ^ n ≤ 16 ^ 8 := Nat.pow_le_pow_right (by decide) hn
  omega
set_option maxHeartbeats 4000000 in
set_option maxRecDepth 100000 in
/-- lowest -/
theorem c_M_lowest {s b : Nat} {x : Int} {σ : zSt} {post : Option VV → zSt → Prop} (hs : s < 2 ^ 63) (hb : b < 2 ^ 63) (hb0 : 0 < b) (hx : zr x) (hp : post (some (vL (zLow s b x))) σ) : Mc 0 MX7_lowest [vL (lN s), vL (lN b), vZ x] σ post := by
  have e0 : (0 : Int64) = lN 0 := rfl
  have loop : ∀ (m a c : Nat), c < m → a < 2 ^ 63 → c < 2 ^ 63 → Nat.gcd a c = Nat.gcd s b → V 0 MX7_lowest 6 [some (vL (lN s)), none, some (vL (lN b)), none, some (vZ x), some (vL (lN a)), none, some (vL (lN c)), none, none, none] [] σ post := by
    intro m
    induction m with
    | zero => intro a c h; omega
    | succ m ih =>
      intro a c hm ha hc hg
      refine V_run kX7_lowest 3 [] (show V 0 MX7_lowest 10 [some (vL (lN s)), none, some (vL (lN b)), none, some (vZ x), some (vL (lN a)), none, some (vL (lN c)), none, none, none] [vZ (zlcmp (lN c) (0 : Int64))] σ post from ?_)
      have hce : zlcmp (lN c) (0 : Int64) = 0 ↔ c = 0 := zcmp0.trans (lN_inj (by omega) (by decide))
      have hcr := zcmp_rng (lN c) (0 : Int64)
      obtain ⟨cm, hcm⟩ : ∃ q : Int, q = zlcmp (lN c) (0 : Int64) := ⟨_, rfl⟩
      rw [← hcm] at hce hcr ⊢
      by_cases h1 : cm = 0
      · skip
        have h2 := hce.mp h1
        rw [h2, Nat.gcd_zero_right] at hg
        have hga : 0 < a := by rw [hg]; exact Nat.gcd_pos_of_pos_right s hb0
        unfold zLow at hp
        refine V_run kX7_lowest 2 [1] (show (zr cm ∧ cm = 0) ∧ V 0 MX7_lowest 33 [some (vL (lN s)), none, some (vL (lN b)), none, some (vZ x), some (vL (lN a)), none, some (vL (lN c)), none, none, none] [vZ x] σ post from ⟨(by omega), ?_⟩)
        have hane : ¬ lN a = 0 := fun q => absurd ((lN_inj (a := a) (b := 0) (by omega) (by decide)).mp q) (by omega)
        by_cases h3 : x = 0
        · skip
          rw [if_pos h3, ← hg, ← pk_lDiv hs hga ha] at hp
          refine V_run kX7_lowest 5 [0] (show (zr x ∧ x = 0) ∧ (¬ (lN a) = 0) ∧ V 0 MX7_lowest 47 [some (vL (lN s)), none, some (vL (lN b)), none, some (vZ x), some (vL (lN a)), none, some (vL (lN c)), none, none, none] [vL ((lN s) / (lN a))] σ post from ⟨(by omega), (hane), ?_⟩)
          exact V_lret kX7_lowest rfl rfl (hp)
        · skip
          rw [if_neg h3, ← hg, ← pk_lDiv hb hga ha] at hp
          refine V_run kX7_lowest 4 [1] (show (zr x ∧ ¬ x = 0) ∧ (¬ (lN a) = 0) ∧ V 0 MX7_lowest 47 [some (vL (lN s)), none, some (vL (lN b)), none, some (vZ x), some (vL (lN a)), none, some (vL (lN c)), none, none, none] [vL ((lN b) / (lN a))] σ post from ⟨(by omega), (hane), ?_⟩)
          exact V_lret kX7_lowest rfl rfl (hp)
      · skip
        have h2 : ¬ c = 0 := fun q => h1 (hce.mpr q)
        have hcne : ¬ lN c = 0 := fun q => h2 ((lN_inj (a := c) (b := 0) (by omega) (by decide)).mp q)
        refine V_run kX7_lowest 4 [0] (show (zr cm ∧ ¬ cm = 0) ∧ (¬ (lN c) = 0) ∧ V 0 MX7_lowest 18 [some (vL (lN s)), none, some (vL (lN b)), none, some (vZ x), some (vL (lN a)), none, some (vL (lN c)), none, none, none] [vL ((lN a) - (lN a) / (lN c) * (lN c))] σ post from ⟨(by omega), (hcne), ?_⟩)
        refine V_topL (pk_lRem ha (by omega) hc) ?_
        refine V_run kX7_lowest 6 [] (show V 0 MX7_lowest 6 [some (vL (lN s)), none, some (vL (lN b)), none, some (vZ x), some (vL (lN c)), none, some (vL (lN (a % c))), none, some (vL (lN (a % c))), none] [] σ post from ?_)
        refine V_drop (L := [some (vL (lN s)), none, some (vL (lN b)), none, some (vZ x), some (vL (lN c)), none, some (vL (lN (a % c))), none, none, none]) ⟨rfl, ⟨rfl, ⟨rfl, ⟨rfl, ⟨rfl, trivial⟩⟩⟩⟩⟩ ?_
        have hmd := Nat.mod_lt a (show 0 < c by omega)
        exact ih c (a % c) (by omega) hc (by omega) (by rw [← hg, Nat.gcd_comm a c, Nat.gcd_rec c a, Nat.gcd_comm])
  show V 0 MX7_lowest 0 [some (vL (lN s)), none, some (vL (lN b)), none, some (vZ x), none, none, none, none, none, none] [] σ post
  refine V_run kX7_lowest 4 [] (show V 0 MX7_lowest 6 [some (vL (lN s)), none, some (vL (lN b)), none, some (vZ x), some (vL (lN s)), none, some (vL (lN b)), none, none, none] [] σ post from ?_)
  exact loop (b + 1) s b (by omega) hs hb rfl
