/-! fewer known locals -/
def zle : List (Option VV) → List (Option VV) → Prop
  | [], [] => True
  | none :: t, _ :: t' => zle t t'
  | some v :: t, w :: t' => w = some v ∧ zle t t'
  | _, _ => False
theorem zle_len : ∀ {L L' : List (Option VV)}, zle L L' → L.length = L'.length
  | [], [], _ => rfl
  | none :: t, _ :: t', h => by rw [List.length_cons, List.length_cons, zle_len (L := t) (L' := t') h]
  | some v :: t, w :: t', h => by rw [List.length_cons, List.length_cons, zle_len (L := t) (L' := t') h.2]
  | [], _ :: _, h => h.elim
  | none :: _, [], h => h.elim
  | some _ :: _, [], h => h.elim
theorem zle_get : ∀ {L L' : List (Option VV)}, zle L L' → ∀ {i : Nat} {v : VV}, L[i]? = some (some v) → L'[i]? = some (some v)
  | [], [], _, i, v, h => by simp at h
  | none :: t, _ :: t', h, i, v, hi => by
    cases i with
    | zero => simp at hi
    | succ i => exact zle_get (L := t) (L' := t') h hi
  | some u :: t, w :: t', h, i, v, hi => by
    cases i with
    | zero => simp at hi; rw [h.1]; simp [hi]
    | succ i => exact zle_get (L := t) (L' := t') h.2 hi
  | [], _ :: _, h, _, _, _ => h.elim
  | none :: _, [], h, _, _, _ => h.elim
  | some _ :: _, [], h, _, _, _ => h.elim
theorem V_drop {d pc : Nat} {Y : MI} {L L' : List (Option VV)} {st : List VV} {σ : zSt} {post : Option VV → zSt → Prop} (h : zle L L') (hv : V d Y pc L st σ post) : V d Y pc L' st σ post := by
  intro l p e R s m args below meth cc G A C0 H locs ls hP hD hS hl hn hL hW
  refine hv l p e R s m args below meth cc G A C0 H locs ls hP hD hS ⟨hl.1, hl.2.1, fun q hq => ?_⟩ ((zle_len h).trans hn) (fun v hv2 => ?_) hW
  · obtain ⟨j, v, hj, rfl⟩ := zlm_mem.mp hq
    exact hl.2.2 _ (zlm_mem.mpr ⟨j, v, zle_get h hj, rfl⟩)
  · obtain ⟨j, hj⟩ := List.getElem?_of_mem hv2
    exact hL v (List.mem_of_getElem? (zle_get h hj))
theorem uL_get {σ : zSt} {k : Nat} {j : Int} {v : Int64} : (uL σ k j v).2 k j = v := by rw [uL_at, if_pos rfl]
theorem uI_get {σ : zSt} {k : Nat} {j v : Int} : (uI σ k j v).1 k j = v := by rw [uI_at, if_pos rfl]
/-! the queue and what is left, as rows of digits -/
def zRq (r : Nat) (D : zDy) : Prop := r < 16 ^ 12 ∧ ∀ j : Int, 0 ≤ j → j < 12 → dgt r j = if j < dn D then dq D j + 1 else 0
def zRl (w : Nat) (D : zDy) : Prop := w < 16 ^ 12 ∧ ∀ k : Int, 0 ≤ k → k < 12 → dgt w k = dl D k
theorem dgt_big {r : Nat} {j : Int} (hr : r < 16 ^ 12) (h : 12 ≤ j) : dgt r j = 0 := by
  unfold dgt
  have h1 : (16 : Nat) ^ 12 ≤ 16 ^ j.toNat := Nat.pow_le_pow_right (by decide) (by omega)
  rw [Nat.div_eq_of_lt (by omega)]
  rfl
theorem row11 {r : Nat} (hr : r < 16 ^ 12) (h : dgt r 11 = 0) : r < 16 ^ 11 := by
  unfold dgt at h
  have e : (11 : Int).toNat = 11 := rfl
  rw [e] at h
  have e12 : (16 : Nat) ^ 12 = 16 * 16 ^ 11 := by decide
  rw [e12] at hr
  have h1 : r / 16 ^ 11 < 16 := by rw [Nat.div_lt_iff_lt_mul (p16pos 11)]; exact hr
  have h2 : r / 16 ^ 11 = 0 := by omega
  rcases Nat.div_eq_zero_iff.mp h2 with q | q
  · exact absurd q (by decide)
  · exact q
theorem zRq_find {C : zCf} {D : zDy} {r : Nat} (hC : cn C ≤ 12) (hJ : zJ C D) (hq : zRq r D) {k : Int} (h0 : 0 ≤ k) (h : k < 12) {f : Int} (hf : f = if k < cn C ∧ ds D k = 1 then dPos D k else -1) :
    (f = -1 ∧ ∀ j : Int, 0 ≤ j → j < 12 → dgt r j ≠ k + 1) ∨ (0 ≤ f ∧ f < 12 ∧ dgt r f = k + 1 ∧ ∀ j : Int, 0 ≤ j → j < f → dgt r j ≠ k + 1) := by
  have hn := hJ.1
  by_cases hk : k < cn C ∧ ds D k = 1
  · rw [if_pos hk] at hf
    obtain ⟨p0, p1, p2⟩ := dPos_in hJ h0 hk.1 hk.2
    rw [← hf] at p0 p1 p2
    refine Or.inr ⟨p0, by omega, ?_, fun j a b => ?_⟩
    · rw [hq.2 f p0 (by omega), if_pos p1, p2]
    · rw [hq.2 j a (by omega), if_pos (by omega)]
      intro q
      have := hJ.2.2.1 j f a (by omega) p0 p1 (by omega)
      omega
  · rw [if_neg hk] at hf
    refine Or.inl ⟨hf, fun j a b => ?_⟩
    rw [hq.2 j a b]
    by_cases hj : j < dn D
    · rw [if_pos hj]
      intro q
      have h1 := hJ.2.1 j a hj
      have h2 : dq D j = k := by omega
      rw [h2] at h1
      exact hk ⟨h1.1.2, h1.2.1⟩
    · rw [if_neg hj]; omega
theorem zRq_len {D : zDy} {C : zCf} {r : Nat} (hJ : zJ C D) (hq : zRq r D) : (∀ j : Int, 0 ≤ j → j < dn D → dgt r j ≠ 0) ∧ (dn D < 12 → dgt r (dn D) = 0) := by
  have hn := hJ.1
  refine ⟨fun j a b => ?_, fun h => ?_⟩
  · rw [hq.2 j a (by omega), if_pos b]
    have := (hJ.2.1 j a b).1
    omega
  · rw [hq.2 _ (by omega) h, if_neg (by omega)]
theorem zRq_rem {D : zDy} {r : Nat} {p : Int} {s l d : Int → Int} (hq : zRq r D) (hn : dn D ≤ 12) (h0 : 0 ≤ p) (h : p < dn D) : zRq (rRem r p) (dn D - 1, qRem (dq D) p, s, l, d) := by
  refine ⟨Nat.lt_of_le_of_lt (rRem_le r p) hq.1, fun j a b => ?_⟩
  rw [dgt_rRem h0 a]
  show _ = if j < dn D - 1 then qRem (dq D) p j + 1 else 0
  unfold qRem
  by_cases hj : j < p
  · rw [if_pos hj, if_pos hj, hq.2 j a b, if_pos (by omega), if_pos (by omega)]
  · rw [if_neg hj, if_neg hj]
    by_cases h12 : j + 1 < 12
    · rw [hq.2 (j + 1) (by omega) h12]
      by_cases hjn : j + 1 < dn D
      · rw [if_pos hjn, if_pos (by omega)]
      · rw [if_neg hjn, if_neg (by omega)]
    · rw [dgt_big hq.1 (by omega), if_neg (by omega)]
theorem zRq_11 {D : zDy} {r : Nat} (hq : zRq r D) (hn : dn D ≤ 11) : r < 16 ^ 11 := row11 hq.1 (by rw [hq.2 11 (by omega) (by omega), if_neg (by omega)])
theorem zRq_ins {D : zDy} {r : Nat} {p k : Int} {s l d : Int → Int} (hq : zRq r D) (hn : dn D ≤ 11) (h0 : 0 ≤ p) (h : p ≤ dn D) (hk0 : 0 ≤ k) (hk : k < 12) : zRq (rIns r p (k + 1)) (dn D + 1, qIns (dq D) p k, s, l, d) := by
  refine ⟨rIns_lt (zRq_11 hq hn) h0 (by omega) (by omega) (by omega), fun j a b => ?_⟩
  rw [dgt_rIns h0 (by omega) (by omega) a]
  show _ = if j < dn D + 1 then qIns (dq D) p k j + 1 else 0
  unfold qIns
  by_cases hj : j < p
  · rw [if_pos hj, if_pos hj, hq.2 j a b, if_pos (by omega), if_pos (by omega)]
  · rw [if_neg hj, if_neg hj]
    by_cases hjp : j = p
    · rw [if_pos hjp, if_pos hjp, if_pos (by omega)]
    · rw [if_neg hjp, if_neg hjp, hq.2 (j - 1) (by omega) (by omega)]
      by_cases hjn : j - 1 < dn D
      · rw [if_pos hjn, if_pos (by omega)]
      · rw [if_neg hjn, if_neg (by omega)]
theorem dBeN_none {C : zCf} {D : zDy} {t : Int} : ∀ m : Nat, (∀ e : Nat, e < m → ¬ (cMi C e = t ∧ cOn C e = true)) → dBeN C t m D = D
  | 0, _ => rfl
  | m + 1, h => by
    unfold dBeN
    rw [if_neg (h m (by omega))]
    exact dBeN_none m (fun e he => h e (by omega))
theorem dCoN_none {C : zCf} {D : zDy} {t : Int} : ∀ m : Nat, (∀ e : Nat, e < m → ¬ cCm C e = t) → dCoN C t m D = D
  | 0, _ => rfl
  | m + 1, h => by
    unfold dCoN
    rw [if_neg (h m (by omega))]
    exact dCoN_none m (fun e he => h e (by omega))
section PE
variable {b : Nat} {σ : zSt} {post : Option VV → zSt → Prop} {x p t e : Int}
theorem e_P_people (hx : σ.1 b 0 = x) (hp : post (some (vZ x)) σ) : Mc 0 MX2_people [vR 1 b] σ post := c_P_people (hx ▸ hp)
theorem e_P_events (hx : σ.1 b 5 = x) (hp : post (some (vZ x)) σ) : Mc 0 MX2_events [vR 1 b] σ post := c_P_events (hx ▸ hp)
theorem e_P_comingOf (hz : zPz b) (h0 : 0 ≤ p) (h : p < 12) (hx : σ.1 (b + 1) p = x) (hp : post (some (vZ x)) σ) : Mc 0 MX2_comingOf [vR 1 b, vZ p] σ post := c_P_comingOf hz h0 h (hx ▸ hp)
theorem e_P_sortOf (hz : zPz b) (h0 : 0 ≤ p) (h : p < 12) (hx : σ.1 (b + 2) p = x) (hp : post (some (vZ x)) σ) : Mc 0 MX2_sortOf [vR 1 b, vZ p] σ post := c_P_sortOf hz h0 h (hx ▸ hp)
theorem e_P_openIn (hz : zPz b) (h0 : 0 ≤ t) (h : t < 24) (hx : σ.1 (b + 3) t = x) (hp : post (some (vZ x)) σ) : Mc 0 MX2_openIn [vR 1 b, vZ t] σ post := c_P_openIn hz h0 h (hx ▸ hp)
theorem e_P_comersIn (hz : zPz b) (h0 : 0 ≤ t) (h : t < 24) (hx : σ.1 (b + 7) t = x) (hp : post (some (vZ x)) σ) : Mc 0 MX2_comersIn [vR 1 b, vZ t] σ post := c_P_comersIn hz h0 h (hx ▸ hp)
theorem e_P_dueIn (hz : zPz b) (h0 : 0 ≤ t) (h : t < 24) (hx : σ.1 (b + 8) t = x) (hp : post (some (vZ x)) σ) : Mc 0 MX2_dueIn [vR 1 b, vZ t] σ post := c_P_dueIn hz h0 h (hx ▸ hp)
theorem e_P_kindOf (hz : zPz b) (h0 : 0 ≤ e) (h : e < 9) (hx : σ.1 (b + 4) e = x) (hp : post (some (vZ x)) σ) : Mc 0 MX2_kindOf [vR 1 b, vZ e] σ post := c_P_kindOf hz h0 h (hx ▸ hp)
theorem e_P_personOf (hz : zPz b) (h0 : 0 ≤ e) (h : e < 9) (hx : σ.1 (b + 6) e = x) (hp : post (some (vZ x)) σ) : Mc 0 MX2_personOf [vR 1 b, vZ e] σ post := c_P_personOf hz h0 h (hx ▸ hp)
end PE
