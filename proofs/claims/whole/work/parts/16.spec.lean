/-! what the two programs compute, in plain words: texts -/
def zsgn (z : Int) : Int := if z = 112 then 0 else if z = 119 then 1 else if z = 109 then 2 else -1
def zopn (z : Int) : Int := if z = 110 then 0 else if z = 102 then 1 else if z = 98 then 2 else if z = 116 then 3 else -1
def zfit (p : Int) (f : Int → Int) (i : Int) : Int := if p = 0 then (if zopn (f i) = -1 then 0 else 1) else if i % 4 = 0 then (if 97 ≤ f i ∧ f i ≤ 120 then 1 else 0) else if i % 4 = 1 then (if zsgn (f i) = -1 then 0 else 1) else if i % 4 = 2 then (if 49 ≤ f i ∧ f i ≤ 57 then 1 else 0) else (if f i = 59 then 1 else 0)
def zffo (p : Int) (f : Int → Int) : Nat → Int → Int
  | 0, _ => -1
  | m + 1, i => if zfit p f i = 0 then i else zffo p f m (i + 1)
def zend (p n : Int) : Int := if p = 0 ∨ n = 0 ∨ n % 4 = 3 then 1 else 0
def zfl2 (p n x : Int) : Int := if x = -1 then (if zend p n = 0 then n else -1) else x
def zflt (p : Int) (f : Int → Int) (n : Int) : Int := zfl2 p n (zffo p f n.toNat 0)
def zwho (p : Int) (f : Int → Int) (n : Int) : Int := if zflt p f n = -1 then (if p = 0 then n else (n + 1) / 4) else 0
theorem zsgn_rng (z : Int) : -1 ≤ zsgn z ∧ zsgn z ≤ 2 := by unfold zsgn; (repeat' split) <;> omega
theorem zopn_rng (z : Int) : -1 ≤ zopn z ∧ zopn z ≤ 3 := by unfold zopn; (repeat' split) <;> omega
theorem zfit_rng (p : Int) (f : Int → Int) (i : Int) : zfit p f i = 0 ∨ zfit p f i = 1 := by unfold zfit; (repeat' split) <;> omega
theorem zffo_rng (p : Int) (f : Int → Int) : ∀ (m : Nat) (i : Int), 0 ≤ i → zffo p f m i = -1 ∨ (i ≤ zffo p f m i ∧ zffo p f m i < i + m)
  | 0, i, _ => Or.inl rfl
  | m + 1, i, h => by
    unfold zffo
    split
    · exact Or.inr ⟨by omega, by omega⟩
    · rcases zffo_rng p f m (i + 1) (by omega) with h1 | h1
      · exact Or.inl h1
      · exact Or.inr ⟨by omega, by omega⟩
theorem zffo_fit (p : Int) (f : Int → Int) : ∀ (m : Nat) (i : Int), 0 ≤ i → zffo p f m i = -1 → ∀ j : Int, i ≤ j → j < i + m → zfit p f j = 1
  | 0, i, _, _, j, h1, h2 => by omega
  | m + 1, i, h0, h, j, h1, h2 => by
    unfold zffo at h
    split at h
    · omega
    · rename_i hne
      by_cases hj : j = i
      · subst hj
        exact (zfit_rng p f j).resolve_left hne
      · exact zffo_fit p f m (i + 1) (by omega) h j (by omega) (by omega)
theorem z_eqI {post : Option VV → zSt → Prop} {σ : zSt} {a b : Int} (h : a = b) (hp : post (some (vZ b)) σ) : post (some (vZ a)) σ := h ▸ hp
def zTx (σ : zSt) (b : Nat) : Prop := (σ.1 b 0 = 0 ∨ σ.1 b 0 = 1) ∧ 0 ≤ σ.1 b 2 ∧ σ.1 b 2 ≤ zlen (b + 1) ∧ zlen (b + 1) ≤ 47 ∧ ∀ i : Int, 0 ≤ i → i < σ.1 b 2 → 0 ≤ σ.1 (b + 1) i ∧ σ.1 (b + 1) i ≤ 255
def zby (f : Int → Int) (n i : Int) : Int := if 0 ≤ i ∧ i < n then f i else -1
