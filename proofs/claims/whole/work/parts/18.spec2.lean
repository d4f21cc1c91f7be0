/-! pasted: laws/BITS (bits of an int) -/
def bt (x : Int32) (i : Nat) : Bool := x.toBitVec.getLsbD i
theorem b_ext {x y : Int32} (h : ∀ i, i < 32 → bt x i = bt y i) : x = y := Int32.toBitVec_inj.mp (BitVec.eq_of_getLsbD_eq (fun i hi => h i hi))
theorem b_or (x y : Int32) (i : Nat) : bt (x ||| y) i = (bt x i || bt y i) := by unfold bt; rw [Int32.toBitVec_or, BitVec.getLsbD_or]
theorem b_and (x y : Int32) (i : Nat) : bt (x &&& y) i = (bt x i && bt y i) := by unfold bt; rw [Int32.toBitVec_and, BitVec.getLsbD_and]
theorem b_xor (x y : Int32) (i : Nat) : bt (x ^^^ y) i = (bt x i ^^ bt y i) := by unfold bt; rw [Int32.toBitVec_xor, BitVec.getLsbD_xor]
theorem b_big {x : Int32} {i : Nat} (h : 32 ≤ i) : bt x i = false := BitVec.getLsbD_of_ge _ _ h
theorem b_255 (i : Nat) : bt 255 i = decide (i < 8) := by
  rcases Nat.lt_or_ge i 32 with h | h
  · exact (by decide +kernel : ∀ i, i < 32 → bt 255 i = decide (i < 8)) i h
  · rw [b_big h, decide_eq_false (by omega)]
theorem b_65535 (i : Nat) : bt 65535 i = decide (i < 16) := by
  rcases Nat.lt_or_ge i 32 with h | h
  · exact (by decide +kernel : ∀ i, i < 32 → bt 65535 i = decide (i < 16)) i h
  · rw [b_big h, decide_eq_false (by omega)]
theorem b_m1 : ∀ i, i < 32 → bt (-1) i = true := by decide +kernel
theorem b_0 (i : Nat) : bt 0 i = false := BitVec.getLsbD_zero
theorem s_l : ∀ n, n < 32 → ((nI n &&& 31).toBitVec.smod 32).toNat = n := by decide +kernel
theorem s_u : ∀ n, n < 32 → (((nI n).toUInt32 &&& Int32.toUInt32 31).toBitVec % 32).toNat = n := by decide +kernel
theorem b_shl (n : Nat) (hn : n < 32) (x : Int32) {i : Nat} (hi : i < 32) : bt (x <<< (nI n &&& 31)) i = (decide (n ≤ i) && bt x (i - n)) := by
  unfold bt
  rw [Int32.toBitVec_shiftLeft]
  show (x.toBitVec <<< ((nI n &&& 31).toBitVec.smod 32).toNat).getLsbD i = _
  rw [s_l n hn, BitVec.getLsbD_shiftLeft]
  rcases Nat.lt_or_ge i n with h | h
  · simp [h, Nat.not_le.mpr h]
  · simp [hi, h, Nat.not_lt.mpr h]
theorem b_ushr (n : Nat) (hn : n < 32) (x : Int32) (i : Nat) : bt ((x.toUInt32 >>> ((nI n).toUInt32 &&& Int32.toUInt32 31)).toInt32) i = bt x (n + i) := by
  show (x.toUInt32 >>> ((nI n).toUInt32 &&& Int32.toUInt32 31)).toBitVec.getLsbD i = x.toUInt32.toBitVec.getLsbD (n + i)
  rw [UInt32.toBitVec_shiftRight]
  show (x.toUInt32.toBitVec >>> (((nI n).toUInt32 &&& Int32.toUInt32 31).toBitVec % 32).toNat).getLsbD i = _
  rw [s_u n hn, BitVec.getLsbD_ushiftRight]
theorem b_sshr (n : Nat) (hn : n < 32) (x : Int32) {i : Nat} (hi : i < 32) : bt (x >>> (nI n &&& 31)) i = if n + i < 32 then bt x (n + i) else bt x 31 := by
  unfold bt
  rw [Int32.toBitVec_shiftRight]
  show (x.toBitVec.sshiftRight ((nI n &&& 31).toBitVec.smod 32).toNat).getLsbD i = _
  rw [s_l n hn, BitVec.getLsbD_sshiftRight, BitVec.msb_eq_getLsbD_last]
  simp [hi]
/-! bits of an int that is told as a number -/
def zbt (z k : Int) : Bool := bt (Int32.ofInt z) k.toNat
theorem zbt_and (a b k : Int) : zbt (zand a b) k = (zbt a k && zbt b k) := by
  unfold zbt zand; rw [Int32.ofInt_toInt, b_and]
theorem zbt_or (a b k : Int) : zbt (zor a b) k = (zbt a k || zbt b k) := by
  unfold zbt zor; rw [Int32.ofInt_toInt, b_or]
theorem zbt_0 (k : Int) : zbt 0 k = false := b_0 _
theorem zbt_m1 {k : Int} (h : k < 32) (h0 : 0 ≤ k) : zbt (-1) k = true := b_m1 _ (by omega)
theorem zbt_not {a k : Int} (h : k < 32) (h0 : 0 ≤ k) : zbt (zxor a (-1)) k = !zbt a k := by
  unfold zbt zxor
  rw [Int32.ofInt_toInt, b_xor, show Int32.ofInt (-1) = (-1 : Int32) from rfl, b_m1 _ (by omega), Bool.xor_true]
theorem bt_1 : ∀ i, i < 32 → bt 1 i = decide (i = 0) := by decide +kernel
theorem zbt_shl {e k : Int} (he0 : 0 ≤ e) (he : e < 32) (h0 : 0 ≤ k) (h : k < 32) : zbt (zshl 1 e) k = decide (k = e) := by
  obtain ⟨n, rfl⟩ := zi_of he0
  obtain ⟨i, rfl⟩ := zi_of h0
  unfold zbt zshl
  rw [Int32.ofInt_toInt, zi_nI, Int.toNat_natCast, show Int32.ofInt 1 = (1 : Int32) from rfl, b_shl n (by omega) _ (by omega)]
  rcases Nat.lt_or_ge i n with q | q
  · rw [decide_eq_false (by omega), Bool.false_and, decide_eq_false (by omega)]
  · rw [decide_eq_true (by omega : n ≤ i), Bool.true_and, bt_1 _ (by omega)]
    by_cases q2 : i = n
    · rw [decide_eq_true (by omega), decide_eq_true (by omega)]
    · rw [decide_eq_false (by omega), decide_eq_false (by omega)]
theorem zbt_test {a k : Int} (h0 : 0 ≤ k) (h : k < 32) : zand (zshr a k) 1 = if zbt a k = true then 1 else 0 := by
  obtain ⟨i, rfl⟩ := zi_of h0
  unfold zand zshr zbt
  rw [Int32.ofInt_toInt, zi_nI, Int.toNat_natCast, show Int32.ofInt 1 = (1 : Int32) from rfl]
  have e : (Int32.ofInt a >>> (nI i &&& 31)) &&& 1 = if bt (Int32.ofInt a) i = true then 1 else 0 := by
    apply b_ext
    intro j hj
    rw [b_and, b_sshr i (by omega) _ hj, bt_1 j hj]
    by_cases hj0 : j = 0
    · subst hj0
      rw [Nat.add_zero, if_pos (by omega), decide_eq_true rfl, Bool.and_true]
      by_cases hb : bt (Int32.ofInt a) i = true
      · rw [if_pos hb, hb]; decide
      · rw [if_neg hb, b_0]; simpa using hb
    · rw [decide_eq_false hj0, Bool.and_false]
      by_cases hb : bt (Int32.ofInt a) i = true
      · rw [if_pos hb, bt_1 j hj, decide_eq_false hj0]
      · rw [if_neg hb, b_0]
  rw [e]
  split <;> rfl
theorem zbt_test_rng (a k : Int) : -2147483648 ≤ zand a k ∧ zand a k < 2147483648 := by
  unfold zand
  have h1 := Int32.le_toInt (Int32.ofInt a &&& Int32.ofInt k)
  have h2 := Int32.toInt_lt (Int32.ofInt a &&& Int32.ofInt k)
  constructor <;> omega
/-! the plan of a day: how many people, how many events, when each comes, of what sort, with what parcel, which windows are open when, events: kind, minute, person; whether one is at all -/
abbrev zCf : Type := Int × Int × (Int → Int) × (Int → Int) × (Int → Int) × (Int → Int) × (Int → Int) × (Int → Int) × (Int → Int) × (Int → Bool)
abbrev cn (C : zCf) : Int := C.1
abbrev cE (C : zCf) : Int := C.2.1
abbrev cCm (C : zCf) : Int → Int := C.2.2.1
abbrev cSo (C : zCf) : Int → Int := C.2.2.2.1
abbrev cPa (C : zCf) : Int → Int := C.2.2.2.2.1
abbrev cWi (C : zCf) : Int → Int := C.2.2.2.2.2.1
abbrev cKi (C : zCf) : Int → Int := C.2.2.2.2.2.2.1
abbrev cMi (C : zCf) : Int → Int := C.2.2.2.2.2.2.2.1
abbrev cPe (C : zCf) : Int → Int := C.2.2.2.2.2.2.2.2.1
abbrev cOn (C : zCf) : Int → Bool := C.2.2.2.2.2.2.2.2.2
/-- the day's state: how many stand, who at which place, what each is, what is left of each parcel, when each was done -/
abbrev zDy : Type := Int × (Int → Int) × (Int → Int) × (Int → Int) × (Int → Int)
abbrev dn (D : zDy) : Int := D.1
abbrev dq (D : zDy) : Int → Int := D.2.1
abbrev ds (D : zDy) : Int → Int := D.2.2.1
abbrev dl (D : zDy) : Int → Int := D.2.2.2.1
abbrev dd (D : zDy) : Int → Int := D.2.2.2.2
def fPut (f : Int → Int) (k v : Int) : Int → Int := fun j => if j = k then v else f j
def qIns (q : Int → Int) (p k : Int) : Int → Int := fun j => if j < p then q j else if j = p then k else q (j - 1)
def qRem (q : Int → Int) (p : Int) : Int → Int := fun j => if j < p then q j else q (j + 1)
def qPos (q : Int → Int) (k : Int) : Nat → Int → Int
  | 0, _ => -1
  | m + 1, i => if q i = k then i else qPos q k m (i + 1)
def dPos (D : zDy) (k : Int) : Int := qPos (dq D) k (dn D).toNat 0
def dBe (C : zCf) (e : Int) (D : zDy) : zDy :=
  if cn C ≤ cPe C e ∨ ds D (cPe C e) ≠ 1 then D else
  if cKi C e = 0 then (dn D - 1, qRem (dq D) (dPos D (cPe C e)), fPut (ds D) (cPe C e) 3, dl D, dd D) else
  (dn D, qIns (qRem (dq D) (dPos D (cPe C e))) (if cKi C e = 1 then 0 else dn D - 1) (cPe C e), ds D, dl D, dd D)
def dCo (C : zCf) (k : Int) (D : zDy) : zDy :=
  (dn D + 1, qIns (dq D) (if cSo C k = 0 then dn D / 2 else if cSo C k = 1 then dn D / 3 else dn D) k, fPut (ds D) k 1, dl D, dd D)
def wFr (C : zCf) (t : Int) (D : zDy) : Bool := decide (0 < dn D ∧ (cWi C t = 1 ∨ cWi C t = 3))
def wBk (C : zCf) (t : Int) (D : zDy) : Bool := decide (0 < dn D ∧ (cWi C t = 2 ∨ (cWi C t = 3 ∧ dn D ≠ 1)))
def lSe (C : zCf) (t : Int) (D : zDy) : Int → Int := fun k => dl D k - (if wFr C t D = true ∧ k = dq D 0 then 1 else 0) - (if wBk C t D = true ∧ k = dq D (dn D - 1) then 1 else 0)
def sFr (C : zCf) (t : Int) (D : zDy) : Bool := decide (wFr C t D = true ∧ lSe C t D (dq D 0) = 0)
def sBk (C : zCf) (t : Int) (D : zDy) : Bool := decide (wBk C t D = true ∧ lSe C t D (dq D (dn D - 1)) = 0)
def dSe (C : zCf) (t : Int) (D : zDy) : zDy :=
  (dn D - (if sBk C t D = true then 1 else 0) - (if sFr C t D = true then 1 else 0),
   fun j => if sFr C t D = true then dq D (j + 1) else dq D j,
   fun k => if (sFr C t D = true ∧ k = dq D 0) ∨ (sBk C t D = true ∧ k = dq D (dn D - 1)) then 2 else ds D k,
   lSe C t D,
   fun k => if (sFr C t D = true ∧ k = dq D 0) ∨ (sBk C t D = true ∧ k = dq D (dn D - 1)) then t else dd D k)
def dBeN (C : zCf) (t : Int) : Nat → zDy → zDy
  | 0, D => D
  | e + 1, D => if cMi C e = t ∧ cOn C e = true then dBe C e (dBeN C t e D) else dBeN C t e D
def dCoN (C : zCf) (t : Int) : Nat → zDy → zDy
  | 0, D => D
  | k + 1, D => if cCm C k = t then dCo C k (dCoN C t k D) else dCoN C t k D
def dMin (C : zCf) (t : Int) (D : zDy) : zDy := dSe C t (dCoN C t (cn C).toNat (dBeN C t (cE C).toNat D))
def dSt (C : zCf) : zDy := (0, fun _ => 0, fun _ => 0, fun k => if 0 ≤ k ∧ k < cn C then cPa C k else 0, fun _ => -1)
def dDay (C : zCf) : Nat → zDy
  | 0 => dSt C
  | t + 1 => dMin C t (dDay C t)
/-- what a plan keeps to -/
def zCv (C : zCf) : Prop := (0 ≤ cn C ∧ cn C ≤ 12) ∧ (0 ≤ cE C ∧ cE C ≤ 9) ∧ (∀ k : Int, 0 ≤ k → k < cn C → (0 ≤ cCm C k ∧ cCm C k ≤ 23) ∧ (0 ≤ cSo C k ∧ cSo C k ≤ 2) ∧ 1 ≤ cPa C k ∧ cPa C k ≤ 9) ∧ (∀ t : Int, 0 ≤ t → t < 24 → 0 ≤ cWi C t ∧ cWi C t ≤ 3) ∧ ∀ e : Int, 0 ≤ e → e < cE C → (0 ≤ cKi C e ∧ cKi C e ≤ 2) ∧ (0 ≤ cMi C e ∧ cMi C e ≤ 23) ∧ 0 ≤ cPe C e ∧ cPe C e ≤ 11
/-- what a day's state keeps to -/
def zJ (C : zCf) (D : zDy) : Prop := (0 ≤ dn D ∧ dn D ≤ 12) ∧ (∀ j : Int, 0 ≤ j → j < dn D → (0 ≤ dq D j ∧ dq D j < cn C) ∧ ds D (dq D j) = 1 ∧ 0 < dl D (dq D j)) ∧ (∀ i j : Int, 0 ≤ i → i < dn D → 0 ≤ j → j < dn D → dq D i = dq D j → i = j) ∧ (∀ k : Int, 0 ≤ k → k < cn C → ds D k = 1 → ∃ j : Int, 0 ≤ j ∧ j < dn D ∧ dq D j = k) ∧ (∀ k : Int, 0 ≤ dl D k ∧ dl D k ≤ 9) ∧ (∀ k : Int, 0 ≤ k → k < cn C → (ds D k = 2 ↔ dl D k = 0)) ∧ (∀ k : Int, 0 ≤ ds D k ∧ ds D k ≤ 3) ∧ ∀ k : Int, ¬ (0 ≤ k ∧ k < cn C) → ds D k = 0 ∧ dl D k = 0 ∧ dd D k = -1
/-- when people have come -/
def zJc (C : zCf) (t K : Int) (D : zDy) : Prop := ∀ k : Int, 0 ≤ k → k < cn C → (ds D k = 0 ↔ (t < cCm C k ∨ (cCm C k = t ∧ K ≤ k)))
theorem qPos_no {q : Int → Int} {k : Int} : ∀ {m : Nat} {i : Int}, 0 ≤ i → (∀ j : Int, i ≤ j → j < i + m → q j ≠ k) → qPos q k m i = -1
  | 0, _, _, _ => rfl
  | m + 1, i, h0, h => by
    unfold qPos
    rw [if_neg (h i (by omega) (by omega))]
    exact qPos_no (by omega) (fun j h1 h2 => h j (by omega) (by omega))
theorem qPos_at {q : Int → Int} {k : Int} : ∀ {m : Nat} {i p : Int}, 0 ≤ i → i ≤ p → p < i + m → q p = k → (∀ j : Int, i ≤ j → j < p → q j ≠ k) → qPos q k m i = p
  | 0, i, p, _, h1, h2, _, _ => by omega
  | m + 1, i, p, h0, h1, h2, hp, hl => by
    unfold qPos
    by_cases hi : i = p
    · subst hi; rw [if_pos hp]
    · rw [if_neg (hl i (by omega) (by omega))]
      exact qPos_at (by omega) (by omega) (by omega) hp (fun j h3 h4 => hl j (by omega) h4)
theorem dPos_at {C : zCf} {D : zDy} (hJ : zJ C D) {p : Int} (h0 : 0 ≤ p) (h : p < dn D) : dPos D (dq D p) = p :=
  qPos_at (by omega) h0 (by omega) rfl (fun j h1 h2 q => by have := hJ.2.2.1 j p h1 (by omega) h0 h q; omega)
theorem dPos_in {C : zCf} {D : zDy} (hJ : zJ C D) {k : Int} (h0 : 0 ≤ k) (h : k < cn C) (hs : ds D k = 1) : 0 ≤ dPos D k ∧ dPos D k < dn D ∧ dq D (dPos D k) = k := by
  obtain ⟨j, h1, h2, rfl⟩ := hJ.2.2.2.1 k h0 h hs
  rw [dPos_at hJ h1 h2]
  exact ⟨h1, h2, rfl⟩
/-- a person who doesn't stand leaves room -/
theorem zJ_room {C : zCf} {D : zDy} (hC : cn C ≤ 12) (hJ : zJ C D) {k : Int} (h0 : 0 ≤ k) (h : k < cn C) (hs : ds D k ≠ 1) : dn D ≤ 11 := by
  rcases Int.lt_or_le (dn D) 12 with hn | hn
  · omega
  · exfalso
    have key : ∀ (m : Nat) (f : Nat → Nat) (N : Nat), (∀ i, i < N → f i < m) → (∀ i j, i < j → j < N → f i ≠ f j) → N ≤ m := by
      intro m
      induction m with
      | zero =>
        intro f N h1 h2
        rcases Nat.eq_zero_or_pos N with e | e
        · omega
        · exact absurd (h1 0 e) (Nat.not_lt_zero _)
      | succ m ih =>
        intro f N h1 h2
        by_cases hx : ∃ a, a < N ∧ f a = m
        · obtain ⟨a, ha, hfa⟩ := hx
          have h3 := ih (fun i => if i < a then f i else f (i + 1)) (N - 1) (fun i hi => by
            show (if i < a then f i else f (i + 1)) < m
            by_cases hia : i < a
            · rw [if_pos hia]
              have b1 := h1 i (by omega)
              have b2 := h2 i a hia ha
              omega
            · rw [if_neg hia]
              have b1 := h1 (i + 1) (by omega)
              have b2 := h2 a (i + 1) (by omega) (by omega)
              omega) (fun i j hij hj => by
            show (if i < a then f i else f (i + 1)) ≠ (if j < a then f j else f (j + 1))
            by_cases hia : i < a <;> by_cases hja : j < a
            · rw [if_pos hia, if_pos hja]; exact h2 i j hij (by omega)
            · rw [if_pos hia, if_neg hja]; exact h2 i (j + 1) (by omega) (by omega)
            · omega
            · rw [if_neg hia, if_neg hja]; exact h2 (i + 1) (j + 1) (by omega) (by omega))
          omega
        · have h3 := ih f N (fun i hi => by
            have b1 := h1 i hi
            have b2 : f i ≠ m := fun e => hx ⟨i, hi, e⟩
            omega) h2
          omega
    have h1 := key 11 (fun i => if dq D i < k then (dq D i).toNat else (dq D i).toNat - 1) 12 (fun i hi => by
      have b1 := hJ.2.1 i (by omega) (by omega)
      have b2 : dq D i ≠ k := fun e => hs (by rw [← e]; exact b1.2.1)
      show (if dq D i < k then (dq D i).toNat else (dq D i).toNat - 1) < 11
      split <;> omega) (fun i j hij hj => by
      have b1 := hJ.2.1 i (by omega) (by omega)
      have b2 := hJ.2.1 j (by omega) (by omega)
      have b3 : dq D i ≠ k := fun e => hs (by rw [← e]; exact b1.2.1)
      have b4 : dq D j ≠ k := fun e => hs (by rw [← e]; exact b2.2.1)
      have b5 : dq D i ≠ dq D j := fun e => by have := hJ.2.2.1 i j (by omega) (by omega) (by omega) (by omega) e; omega
      show (if dq D i < k then (dq D i).toNat else (dq D i).toNat - 1) ≠ (if dq D j < k then (dq D j).toNat else (dq D j).toNat - 1)
      split <;> split <;> omega)
    omega
theorem zJ_St {C : zCf} (hC : zCv C) : zJ C (dSt C) := by
  refine ⟨(by decide : (0 : Int) ≤ 0 ∧ (0 : Int) ≤ 12), fun j h1 h2 => ?_, fun i j h1 h2 => ?_, fun k h1 h2 h3 => ?_, fun k => ?_, fun k h1 h2 => ?_, fun k => (by decide : (0 : Int) ≤ 0 ∧ (0 : Int) ≤ 3), fun k hk => ⟨rfl, if_neg hk, rfl⟩⟩
  · exact absurd h2 (by show ¬ j < 0; omega)
  · exact absurd h2 (by show ¬ i < 0; omega)
  · exact absurd h3 (by decide : ¬ (0 : Int) = 1)
  · show 0 ≤ (if 0 ≤ k ∧ k < cn C then cPa C k else 0) ∧ (if 0 ≤ k ∧ k < cn C then cPa C k else 0) ≤ 9
    by_cases hk : 0 ≤ k ∧ k < cn C
    · rw [if_pos hk]
      have := (hC.2.2.1 k hk.1 hk.2).2.2
      omega
    · rw [if_neg hk]; omega
  · show (0 : Int) = 2 ↔ (if 0 ≤ k ∧ k < cn C then cPa C k else 0) = 0
    rw [if_pos ⟨h1, h2⟩]
    have := (hC.2.2.1 k h1 h2).2.2
    omega
theorem zJ_Be {C : zCf} {D : zDy} {e : Int} (hC : zCv C) (hJ : zJ C D) (h0 : 0 ≤ e) (h : e < cE C) : zJ C (dBe C e D) := by
  obtain ⟨hK, hM, hP0, hP⟩ := hC.2.2.2.2 e h0 h
  unfold dBe
  by_cases hno : cn C ≤ cPe C e ∨ ds D (cPe C e) ≠ 1
  · rw [if_pos hno]; exact hJ
  · rw [if_neg hno]
    have hk : cPe C e < cn C := by omega
    have hs1 : ds D (cPe C e) = 1 := Decidable.byContradiction fun q => hno (Or.inr q)
    obtain ⟨p0, p1, p2⟩ := dPos_in hJ hP0 hk hs1
    generalize dPos D (cPe C e) = p at p0 p1 p2 ⊢
    generalize cPe C e = k at *
    obtain ⟨j1, j2, j3, j4, j5, j6, j7, j8⟩ := hJ
    by_cases hk0 : cKi C e = 0
    · rw [if_pos hk0]
      refine ⟨⟨by show 0 ≤ dn D - 1; omega, by show dn D - 1 ≤ 12; omega⟩, fun j h1 h2 => ?_, fun i j h1 h2 h3 h4 he => ?_, fun k2 h1 h2 h3 => ?_, j5, fun k2 h1 h2 => ?_, fun k2 => ?_, fun k2 hk2 => ?_⟩
      · have h2 : j < dn D - 1 := h2
        show (0 ≤ qRem (dq D) p j ∧ qRem (dq D) p j < cn C) ∧ fPut (ds D) k 3 (qRem (dq D) p j) = 1 ∧ 0 < dl D (qRem (dq D) p j)
        have key : ∃ i : Int, 0 ≤ i ∧ i < dn D ∧ i ≠ p ∧ qRem (dq D) p j = dq D i := by
          unfold qRem
          by_cases hjp : j < p
          · exact ⟨j, h1, by omega, by omega, if_pos hjp⟩
          · exact ⟨j + 1, by omega, by omega, by omega, if_neg hjp⟩
        obtain ⟨i, i0, i1, i2, i3⟩ := key
        rw [i3]
        have a1 := j2 i i0 i1
        have a2 : dq D i ≠ k := fun q => i2 (j3 i p i0 i1 p0 p1 (q.trans p2.symm))
        refine ⟨a1.1, ?_, a1.2.2⟩
        unfold fPut
        rw [if_neg a2]
        exact a1.2.1
      · have h2 : i < dn D - 1 := h2
        have h4 : j < dn D - 1 := h4
        have he : qRem (dq D) p i = qRem (dq D) p j := he
        unfold qRem at he
        by_cases a : i < p <;> by_cases b : j < p
        · rw [if_pos a, if_pos b] at he; exact j3 i j h1 (by omega) h3 (by omega) he
        · rw [if_pos a, if_neg b] at he; have := j3 i (j + 1) h1 (by omega) (by omega) (by omega) he; omega
        · rw [if_neg a, if_pos b] at he; have := j3 (i + 1) j (by omega) (by omega) h3 (by omega) he; omega
        · rw [if_neg a, if_neg b] at he; have := j3 (i + 1) (j + 1) (by omega) (by omega) (by omega) (by omega) he; omega
      · have h3 : fPut (ds D) k 3 k2 = 1 := h3
        unfold fPut at h3
        by_cases hkk : k2 = k
        · rw [if_pos hkk] at h3; omega
        · rw [if_neg hkk] at h3
          obtain ⟨i, i0, i1, i2⟩ := j4 k2 h1 h2 h3
          have i3 : i ≠ p := fun q => hkk (by rw [← i2, q, p2])
          show ∃ j : Int, 0 ≤ j ∧ j < dn D - 1 ∧ qRem (dq D) p j = k2
          rcases Int.lt_or_le i p with q | q
          · exact ⟨i, i0, by omega, by unfold qRem; rw [if_pos q]; exact i2⟩
          · exact ⟨i - 1, by omega, by omega, by unfold qRem; rw [if_neg (by omega), show i - 1 + 1 = i by omega]; exact i2⟩
      · show fPut (ds D) k 3 k2 = 2 ↔ dl D k2 = 0
        unfold fPut
        by_cases hkk : k2 = k
        · rw [if_pos hkk, hkk]
          have := (j2 p p0 p1).2.2
          rw [p2] at this
          omega
        · rw [if_neg hkk]; exact j6 k2 h1 h2
      · show 0 ≤ fPut (ds D) k 3 k2 ∧ fPut (ds D) k 3 k2 ≤ 3
        unfold fPut
        split
        · omega
        · exact j7 k2
      · show fPut (ds D) k 3 k2 = 0 ∧ dl D k2 = 0 ∧ dd D k2 = -1
        unfold fPut
        rw [if_neg (fun q => hk2 ⟨by omega, by omega⟩)]
        exact j8 k2 hk2
    · rw [if_neg hk0]
      have hpl : ∃ pl : Int, (if cKi C e = 1 then 0 else dn D - 1) = pl ∧ 0 ≤ pl ∧ pl ≤ dn D - 1 := by
        split
        · exact ⟨0, rfl, by omega, by omega⟩
        · exact ⟨dn D - 1, rfl, by omega, by omega⟩
      obtain ⟨pl, e1, pl0, pl1⟩ := hpl
      rw [e1]
      have key : ∀ j : Int, 0 ≤ j → j < dn D → ∃ i : Int, 0 ≤ i ∧ i < dn D ∧ qIns (qRem (dq D) p) pl k j = dq D i ∧ (j = pl → i = p) ∧ (j < pl → i = if j < p then j else j + 1) ∧ (pl < j → i = if j - 1 < p then j - 1 else j) := by
        intro j h1 h2
        unfold qIns qRem
        rcases Int.lt_trichotomy j pl with a | a | a
        · rw [if_pos a]
          by_cases b : j < p
          · exact ⟨j, h1, h2, if_pos b, by omega, fun _ => by rw [if_pos b], by omega⟩
          · exact ⟨j + 1, by omega, by omega, if_neg b, by omega, fun _ => by rw [if_neg b], by omega⟩
        · rw [if_neg (by omega), if_pos a]
          exact ⟨p, p0, p1, p2.symm, fun _ => rfl, by omega, by omega⟩
        · rw [if_neg (by omega), if_neg (by omega)]
          by_cases b : j - 1 < p
          · exact ⟨j - 1, by omega, by omega, if_pos b, by omega, by omega, fun _ => by rw [if_pos b]⟩
          · exact ⟨j, by omega, by omega, by rw [if_neg b, show j - 1 + 1 = j by omega], by omega, by omega, fun _ => by rw [if_neg b]⟩
      refine ⟨j1, fun j h1 h2 => ?_, fun i j h1 h2 h3 h4 he => ?_, fun k2 h1 h2 h3 => ?_, j5, j6, j7, j8⟩
      · obtain ⟨i, i0, i1, i2, -⟩ := key j h1 h2
        show (0 ≤ qIns (qRem (dq D) p) pl k j ∧ qIns (qRem (dq D) p) pl k j < cn C) ∧ ds D (qIns (qRem (dq D) p) pl k j) = 1 ∧ 0 < dl D (qIns (qRem (dq D) p) pl k j)
        rw [i2]
        exact j2 i i0 i1
      · have he : qIns (qRem (dq D) p) pl k i = qIns (qRem (dq D) p) pl k j := he
        obtain ⟨a, a0, a1, a2, a3, a4, a5⟩ := key i h1 h2
        obtain ⟨b, b0, b1, b2, b3, b4, b5⟩ := key j h3 h4
        rw [a2, b2] at he
        have hab := j3 a b a0 a1 b0 b1 he
        rcases Int.lt_trichotomy i pl with x | x | x <;> rcases Int.lt_trichotomy j pl with y | y | y
        · have := a4 x; have := b4 y; split at * <;> split at * <;> omega
        · have := a4 x; have := b3 y; split at * <;> omega
        · have := a4 x; have := b5 y; split at * <;> split at * <;> omega
        · have := a3 x; have := b4 y; split at * <;> omega
        · omega
        · have := a3 x; have := b5 y; split at * <;> omega
        · have := a5 x; have := b4 y; split at * <;> split at * <;> omega
        · have := a5 x; have := b3 y; split at * <;> omega
        · have := a5 x; have := b5 y; split at * <;> split at * <;> omega
      · obtain ⟨i, i0, i1, i2⟩ := j4 k2 h1 h2 h3
        show ∃ j : Int, 0 ≤ j ∧ j < dn D ∧ qIns (qRem (dq D) p) pl k j = k2
        by_cases hip : i = p
        · refine ⟨pl, pl0, by omega, ?_⟩
          unfold qIns
          rw [if_neg (by omega), if_pos rfl, ← i2, hip, p2]
        · rcases Int.lt_or_le i p with q | q
          · rcases Int.lt_or_le i pl with q2 | q2
            · exact ⟨i, i0, i1, by unfold qIns qRem; rw [if_pos q2, if_pos q]; exact i2⟩
            · exact ⟨i + 1, by omega, by omega, by unfold qIns qRem; rw [if_neg (by omega), if_neg (by omega), if_pos (by omega), show i + 1 - 1 = i by omega]; exact i2⟩
          · rcases Int.lt_or_le (i - 1) pl with q2 | q2
            · exact ⟨i - 1, by omega, by omega, by unfold qIns qRem; rw [if_pos q2, if_neg (by omega), show i - 1 + 1 = i by omega]; exact i2⟩
            · exact ⟨i, i0, i1, by unfold qIns qRem; rw [if_neg (by omega), if_neg (by omega), if_neg (by omega), show i - 1 + 1 = i by omega]; exact i2⟩
theorem zJ_Co {C : zCf} {D : zDy} {k : Int} (hC : zCv C) (hJ : zJ C D) (h0 : 0 ≤ k) (h : k < cn C) (hs : ds D k = 0) (hpl : 0 < dl D k) : zJ C (dCo C k D) := by
  have hroom := zJ_room hC.1.2 hJ h0 h (by omega)
  obtain ⟨j1, j2, j3, j4, j5, j6, j7, j8⟩ := hJ
  have hso := (hC.2.2.1 k h0 h).2.1
  unfold dCo
  have hp : ∃ p : Int, (if cSo C k = 0 then dn D / 2 else if cSo C k = 1 then dn D / 3 else dn D) = p ∧ 0 ≤ p ∧ p ≤ dn D := by
    split
    · exact ⟨_, rfl, by omega, by omega⟩
    · split
      · exact ⟨_, rfl, by omega, by omega⟩
      · exact ⟨_, rfl, by omega, by omega⟩
  obtain ⟨p, e1, p0, p1⟩ := hp
  rw [e1]
  have hne : ∀ j : Int, 0 ≤ j → j < dn D → dq D j ≠ k := fun j a b q => by have := (j2 j a b).2.1; rw [q] at this; omega
  have key : ∀ j : Int, 0 ≤ j → j < dn D + 1 → (j = p ∧ qIns (dq D) p k j = k) ∨ ∃ i : Int, 0 ≤ i ∧ i < dn D ∧ qIns (dq D) p k j = dq D i ∧ ((j < p ∧ i = j) ∨ (p < j ∧ i = j - 1)) := by
    intro j h1 h2
    unfold qIns
    rcases Int.lt_trichotomy j p with a | a | a
    · exact Or.inr ⟨j, h1, by omega, if_pos a, Or.inl ⟨a, rfl⟩⟩
    · exact Or.inl ⟨a, by rw [if_neg (by omega), if_pos a]⟩
    · exact Or.inr ⟨j - 1, by omega, by omega, by rw [if_neg (by omega), if_neg (by omega)], Or.inr ⟨a, rfl⟩⟩
  have hfs : ∀ x : Int, x ≠ k → fPut (ds D) k 1 x = ds D x := fun x hx => if_neg hx
  have hfk : fPut (ds D) k 1 k = 1 := if_pos rfl
  refine ⟨⟨by show 0 ≤ dn D + 1; omega, by show dn D + 1 ≤ 12; omega⟩, fun j h1 h2 => ?_, fun i j h1 h2 h3 h4 he => ?_, fun k2 h1 h2 h3 => ?_, j5, fun k2 h1 h2 => ?_, fun k2 => ?_, fun k2 hk2 => ?_⟩
  · show (0 ≤ qIns (dq D) p k j ∧ qIns (dq D) p k j < cn C) ∧ fPut (ds D) k 1 (qIns (dq D) p k j) = 1 ∧ 0 < dl D (qIns (dq D) p k j)
    rcases key j h1 h2 with ⟨-, b⟩ | ⟨i, i0, i1, i2, -⟩
    · rw [b]; exact ⟨⟨h0, h⟩, hfk, hpl⟩
    · rw [i2, hfs _ (hne i i0 i1)]; exact j2 i i0 i1
  · have he : qIns (dq D) p k i = qIns (dq D) p k j := he
    rcases key i h1 h2 with ⟨a, b⟩ | ⟨a, a0, a1, a2, a3⟩ <;> rcases key j h3 h4 with ⟨c, d⟩ | ⟨c, c0, c1, c2, c3⟩
    · omega
    · rw [b, c2] at he; exact absurd he.symm (hne c c0 c1)
    · rw [a2, d] at he; exact absurd he (hne a a0 a1)
    · rw [a2, c2] at he
      have := j3 a c a0 a1 c0 c1 he
      omega
  · have h3 : fPut (ds D) k 1 k2 = 1 := h3
    show ∃ j : Int, 0 ≤ j ∧ j < dn D + 1 ∧ qIns (dq D) p k j = k2
    by_cases hkk : k2 = k
    · exact ⟨p, p0, by omega, by unfold qIns; rw [if_neg (by omega), if_pos rfl, hkk]⟩
    · rw [hfs _ hkk] at h3
      obtain ⟨i, i0, i1, i2⟩ := j4 k2 h1 h2 h3
      rcases Int.lt_or_le i p with q | q
      · exact ⟨i, i0, by omega, by unfold qIns; rw [if_pos q]; exact i2⟩
      · exact ⟨i + 1, by omega, by omega, by unfold qIns; rw [if_neg (by omega), if_neg (by omega), show i + 1 - 1 = i by omega]; exact i2⟩
  · show fPut (ds D) k 1 k2 = 2 ↔ dl D k2 = 0
    by_cases hkk : k2 = k
    · rw [hkk, hfk]; omega
    · rw [hfs _ hkk]; exact j6 k2 h1 h2
  · show 0 ≤ fPut (ds D) k 1 k2 ∧ fPut (ds D) k 1 k2 ≤ 3
    by_cases hkk : k2 = k
    · rw [hkk, hfk]; omega
    · rw [hfs _ hkk]; exact j7 k2
  · show fPut (ds D) k 1 k2 = 0 ∧ dl D k2 = 0 ∧ dd D k2 = -1
    rw [hfs _ (fun q => hk2 ⟨by omega, by omega⟩)]
    exact j8 k2 hk2
theorem wFr_i {C : zCf} {t : Int} {D : zDy} : wFr C t D = true ↔ 0 < dn D ∧ (cWi C t = 1 ∨ cWi C t = 3) := decide_eq_true_iff
theorem wBk_i {C : zCf} {t : Int} {D : zDy} : wBk C t D = true ↔ 0 < dn D ∧ (cWi C t = 2 ∨ (cWi C t = 3 ∧ dn D ≠ 1)) := decide_eq_true_iff
theorem sFr_i {C : zCf} {t : Int} {D : zDy} : sFr C t D = true ↔ wFr C t D = true ∧ lSe C t D (dq D 0) = 0 := decide_eq_true_iff
theorem sBk_i {C : zCf} {t : Int} {D : zDy} : sBk C t D = true ↔ wBk C t D = true ∧ lSe C t D (dq D (dn D - 1)) = 0 := decide_eq_true_iff
/-- at most one of the two takes from one person -/
theorem lSe_one {C : zCf} {t : Int} {D : zDy} (hJ : zJ C D) (hf : wFr C t D = true) (hb : wBk C t D = true) : dq D 0 ≠ dq D (dn D - 1) := by
  have h1 := wFr_i.mp hf
  have h2 := wBk_i.mp hb
  intro q
  have := hJ.2.2.1 0 (dn D - 1) (by omega) h1.1 (by omega) (by omega) q
  omega
theorem lSe_rng {C : zCf} {t : Int} {D : zDy} (hJ : zJ C D) (k : Int) : 0 ≤ lSe C t D k ∧ lSe C t D k ≤ dl D k ∧ dl D k - 1 ≤ lSe C t D k := by
  have hl := hJ.2.2.2.2.1 k
  unfold lSe
  by_cases hf : wFr C t D = true ∧ k = dq D 0
  · have h1 := wFr_i.mp hf.1
    have h3 := (hJ.2.1 0 (by omega) h1.1).2.2
    rw [← hf.2] at h3
    rw [if_pos hf]
    by_cases hb : wBk C t D = true ∧ k = dq D (dn D - 1)
    · exact absurd (hf.2.symm.trans hb.2) (lSe_one hJ hf.1 hb.1)
    · rw [if_neg hb]; omega
  · rw [if_neg hf]
    by_cases hb : wBk C t D = true ∧ k = dq D (dn D - 1)
    · have h1 := wBk_i.mp hb.1
      have h3 := (hJ.2.1 (dn D - 1) (by omega) (by omega)).2.2
      rw [← hb.2] at h3
      rw [if_pos hb]; omega
    · rw [if_neg hb]; omega
theorem lSe_same {C : zCf} {t : Int} {D : zDy} {k : Int} (h1 : ¬ (wFr C t D = true ∧ k = dq D 0)) (h2 : ¬ (wBk C t D = true ∧ k = dq D (dn D - 1))) : lSe C t D k = dl D k := by
  unfold lSe; rw [if_neg h1, if_neg h2]; omega
/-- of those who stand, who has nothing left is the first or the last -/
theorem lSe_zero {C : zCf} {t : Int} {D : zDy} (hJ : zJ C D) {j : Int} (h0 : 0 ≤ j) (h : j < dn D) (hz : lSe C t D (dq D j) = 0) : (sFr C t D = true ∧ j = 0) ∨ (sBk C t D = true ∧ j = dn D - 1) := by
  have hpos := (hJ.2.1 j h0 h).2.2
  by_cases hf : wFr C t D = true ∧ dq D j = dq D 0
  · have h1 := wFr_i.mp hf.1
    have := hJ.2.2.1 j 0 h0 h (by omega) h1.1 hf.2
    subst this
    exact Or.inl ⟨sFr_i.mpr ⟨hf.1, hz⟩, rfl⟩
  · by_cases hb : wBk C t D = true ∧ dq D j = dq D (dn D - 1)
    · have h1 := wBk_i.mp hb.1
      have := hJ.2.2.1 j (dn D - 1) h0 h (by omega) (by omega) hb.2
      subst this
      exact Or.inr ⟨sBk_i.mpr ⟨hb.1, hz⟩, rfl⟩
    · rw [lSe_same hf hb] at hz; omega
theorem zJ_Se {C : zCf} {D : zDy} {t : Int} (hJ : zJ C D) : zJ C (dSe C t D) := by
  have hrng := lSe_rng (t := t) hJ
  have hzero := fun (j : Int) (a : 0 ≤ j) (b : j < dn D) => lSe_zero (t := t) hJ a b
  have hone := fun a b => lSe_one (t := t) hJ a b
  have hFi := @sFr_i C t D
  have hBi := @sBk_i C t D
  have hWf := @wFr_i C t D
  have hWb := @wBk_i C t D
  obtain ⟨j1, j2, j3, j4, j5, j6, j7, j8⟩ := hJ
  unfold dSe
  generalize hF : sFr C t D = F at hFi hzero ⊢
  generalize hB : sBk C t D = B at hBi hzero ⊢
  have hFn : F = true → 0 < dn D := fun q => (hWf.mp (hFi.mp q).1).1
  have hBn : B = true → 0 < dn D := fun q => (hWb.mp (hBi.mp q).1).1
  have hFB : F = true → B = true → 2 ≤ dn D := fun a b => by
    have h1 := hWf.mp (hFi.mp a).1
    have h2 := hWb.mp (hBi.mp b).1
    omega
  have hs : ∀ (n' : Int), n' = dn D - (if B = true then 1 else 0) - (if F = true then 1 else 0) → ∀ j : Int, 0 ≤ j → j < n' → ∃ i : Int, 0 ≤ i ∧ i < dn D ∧ (if F = true then dq D (j + 1) else dq D j) = dq D i ∧ ¬ (F = true ∧ i = 0) ∧ ¬ (B = true ∧ i = dn D - 1) ∧ i = (if F = true then j + 1 else j) := by
    intro n' hn' j h1 h2
    cases F <;> cases B <;> simp at hn' hFn hBn hFB ⊢
    · exact ⟨j, h1, by omega, rfl, rfl⟩
    · exact ⟨j, h1, by omega, rfl, by omega, rfl⟩
    · exact ⟨j + 1, by omega, by omega, rfl, by omega, rfl⟩
    · exact ⟨j + 1, by omega, by omega, rfl, by omega, by omega, rfl⟩
  refine ⟨?_, fun j h1 h2 => ?_, fun i j h1 h2 h3 h4 he => ?_, fun k2 h1 h2 h3 => ?_, fun k2 => ?_, fun k2 h1 h2 => ?_, fun k2 => ?_, fun k2 hk2 => ?_⟩
  · show 0 ≤ dn D - (if B = true then 1 else 0) - (if F = true then 1 else 0) ∧ dn D - (if B = true then 1 else 0) - (if F = true then 1 else 0) ≤ 12
    cases F <;> cases B <;> simp at hFn hBn hFB ⊢ <;> omega
  · obtain ⟨i, i0, i1, i2, i3, i4, -⟩ := hs _ rfl j h1 h2
    show (0 ≤ (if F = true then dq D (j + 1) else dq D j) ∧ (if F = true then dq D (j + 1) else dq D j) < cn C) ∧ (if (F = true ∧ (if F = true then dq D (j + 1) else dq D j) = dq D 0) ∨ (B = true ∧ (if F = true then dq D (j + 1) else dq D j) = dq D (dn D - 1)) then 2 else ds D (if F = true then dq D (j + 1) else dq D j)) = 1 ∧ 0 < lSe C t D (if F = true then dq D (j + 1) else dq D j)
    rw [i2]
    have a := j2 i i0 i1
    refine ⟨a.1, ?_, ?_⟩
    · rw [if_neg]
      · exact a.2.1
      · rintro (⟨x, y⟩ | ⟨x, y⟩)
        · exact i3 ⟨x, j3 i 0 i0 i1 (by omega) (hFn x) y⟩
        · exact i4 ⟨x, j3 i (dn D - 1) i0 i1 (by have := hBn x; omega) (by omega) y⟩
    · have := hrng (dq D i)
      rcases Int.lt_or_le 0 (lSe C t D (dq D i)) with q | q
      · exact q
      · rcases hzero i i0 i1 (by omega) with x | x
        · exact absurd x i3
        · exact absurd x i4
  · obtain ⟨a, a0, a1, a2, -, -, a3⟩ := hs _ rfl i h1 h2
    obtain ⟨b, b0, b1, b2, -, -, b3⟩ := hs _ rfl j h3 h4
    have he : (if F = true then dq D (i + 1) else dq D i) = (if F = true then dq D (j + 1) else dq D j) := he
    rw [a2, b2] at he
    have := j3 a b a0 a1 b0 b1 he
    split at a3 <;> split at b3 <;> first | omega | (exfalso; simp_all)
  · have h3 : (if (F = true ∧ k2 = dq D 0) ∨ (B = true ∧ k2 = dq D (dn D - 1)) then 2 else ds D k2) = 1 := h3
    by_cases hc : (F = true ∧ k2 = dq D 0) ∨ (B = true ∧ k2 = dq D (dn D - 1))
    · rw [if_pos hc] at h3; omega
    · rw [if_neg hc] at h3
      obtain ⟨i, i0, i1, i2⟩ := j4 k2 h1 h2 h3
      have n1 : ¬ (F = true ∧ i = 0) := fun q => hc (Or.inl ⟨q.1, by rw [← i2, q.2]⟩)
      have n2 : ¬ (B = true ∧ i = dn D - 1) := fun q => hc (Or.inr ⟨q.1, by rw [← i2, q.2]⟩)
      show ∃ j : Int, 0 ≤ j ∧ j < dn D - (if B = true then 1 else 0) - (if F = true then 1 else 0) ∧ (if F = true then dq D (j + 1) else dq D j) = k2
      cases F <;> cases B <;> simp at n1 n2 ⊢
      · exact ⟨i, i0, by omega, i2⟩
      · exact ⟨i, i0, by omega, i2⟩
      · exact ⟨i - 1, by omega, by omega, by rw [show i - 1 + 1 = i by omega]; exact i2⟩
      · exact ⟨i - 1, by omega, by omega, by rw [show i - 1 + 1 = i by omega]; exact i2⟩
  · show 0 ≤ lSe C t D k2 ∧ lSe C t D k2 ≤ 9
    have := hrng k2; have := j5 k2; omega
  · show (if (F = true ∧ k2 = dq D 0) ∨ (B = true ∧ k2 = dq D (dn D - 1)) then 2 else ds D k2) = 2 ↔ lSe C t D k2 = 0
    by_cases hc : (F = true ∧ k2 = dq D 0) ∨ (B = true ∧ k2 = dq D (dn D - 1))
    · rw [if_pos hc]
      refine ⟨fun _ => ?_, fun _ => rfl⟩
      rcases hc with ⟨x, y⟩ | ⟨x, y⟩
      · rw [y]; exact (hFi.mp x).2
      · rw [y]; exact (hBi.mp x).2
    · rw [if_neg hc]
      constructor
      · intro q
        have := (j6 k2 h1 h2).mp q
        have := hrng k2
        omega
      · intro q
        rcases Int.lt_or_le 0 (dl D k2) with hp | hp
        · exfalso
          have hst : ∃ i : Int, 0 ≤ i ∧ i < dn D ∧ dq D i = k2 := by
            by_cases hf : wFr C t D = true ∧ k2 = dq D 0
            · exact ⟨0, by omega, (hWf.mp hf.1).1, hf.2.symm⟩
            · by_cases hb : wBk C t D = true ∧ k2 = dq D (dn D - 1)
              · have := (hWb.mp hb.1).1
                exact ⟨dn D - 1, by omega, by omega, hb.2.symm⟩
              · rw [lSe_same hf hb] at q; omega
          obtain ⟨i, i0, i1, i2⟩ := hst
          rcases hzero i i0 i1 (by rw [i2]; exact q) with ⟨x, y⟩ | ⟨x, y⟩
          · exact hc (Or.inl ⟨x, by rw [← i2, y]⟩)
          · exact hc (Or.inr ⟨x, by rw [← i2, y]⟩)
        · exact (j6 k2 h1 h2).mpr (by have := j5 k2; omega)
  · show 0 ≤ (if (F = true ∧ k2 = dq D 0) ∨ (B = true ∧ k2 = dq D (dn D - 1)) then 2 else ds D k2) ∧ (if (F = true ∧ k2 = dq D 0) ∨ (B = true ∧ k2 = dq D (dn D - 1)) then 2 else ds D k2) ≤ 3
    have := j7 k2
    split <;> omega
  · have b1 : ¬ ((F = true ∧ k2 = dq D 0) ∨ (B = true ∧ k2 = dq D (dn D - 1))) := by
      rintro (⟨x, y⟩ | ⟨x, y⟩)
      · exact hk2 (by rw [y]; exact (j2 0 (by omega) (hFn x)).1)
      · exact hk2 (by rw [y]; exact (j2 (dn D - 1) (by have := hBn x; omega) (by omega)).1)
    show (if (F = true ∧ k2 = dq D 0) ∨ (B = true ∧ k2 = dq D (dn D - 1)) then 2 else ds D k2) = 0 ∧ lSe C t D k2 = 0 ∧ (if (F = true ∧ k2 = dq D 0) ∨ (B = true ∧ k2 = dq D (dn D - 1)) then t else dd D k2) = -1
    rw [if_neg b1, if_neg b1]
    have a := j8 k2 hk2
    have c := hrng k2
    exact ⟨a.1, by omega, a.2.2⟩
