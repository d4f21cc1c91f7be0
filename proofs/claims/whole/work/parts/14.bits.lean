/-! pasted: laws/BITS (lN under shifts, and, or) -/
theorem wb_tb (n : Nat) : (lN n).toBitVec = BitVec.ofNat 64 n := rfl
theorem wb_inj {a b : Int64} (h : a.toBitVec = b.toBitVec) : a = b := Int64.toBitVec_inj.mp h
theorem wb_tn {n : Nat} (h : n < 2 ^ 64) : (lN n).toBitVec.toNat = n := by rw [wb_tb, BitVec.toNat_ofNat, Nat.mod_eq_of_lt h]
theorem wb_of (x : Int64) : ∃ n, n < 2 ^ 64 ∧ x = lN n := ⟨x.toBitVec.toNat, x.toBitVec.isLt, wb_inj (by rw [wb_tb]; simp)⟩
theorem wb_of32 (x : Int32) : ∃ n, n < 2 ^ 32 ∧ x = nI n := ⟨x.toBitVec.toNat, x.toBitVec.isLt, Int32.toBitVec_inj.mp (by show _ = BitVec.ofNat 32 _; simp)⟩
theorem wb_c : ∀ k, k < 64 → ((nI k).toInt64 &&& 63) = lN k := by decide +kernel
theorem wb_cu : ∀ k, k < 64 → ((nI k).toInt64.toUInt64 &&& Int64.toUInt64 63) = UInt64.ofNat k := by decide +kernel
theorem wb_sm : ∀ k, k < 64 → (BitVec.ofNat 64 k).smod 64 = BitVec.ofNat 64 k := by decide +kernel
theorem wb_pw {a b : Nat} (h : a ≤ b) : 2 ^ b = 2 ^ a * 2 ^ (b - a) := by rw [← Nat.pow_add]; congr 1; omega
theorem wb_lt2 {a b : Nat} (h : a < b) : 2 ^ a < 2 ^ b := Nat.pow_lt_pow_right (by decide) h
theorem wb_mod (n : Nat) : lN n = lN (n % 2 ^ 64) := wb_inj (by rw [wb_tb, wb_tb]; apply BitVec.eq_of_toNat_eq; rw [BitVec.toNat_ofNat, BitVec.toNat_ofNat, Nat.mod_mod])
theorem wb_shr {n k : Nat} (hn : n < 2 ^ 64) (hk : k < 64) : ((lN n).toUInt64 >>> ((nI k).toInt64.toUInt64 &&& Int64.toUInt64 63)).toInt64 = lN (n / 2 ^ k) := by
  rw [wb_cu k hk]
  apply wb_inj
  apply BitVec.eq_of_toNat_eq
  show ((lN n).toUInt64 >>> UInt64.ofNat k).toNat = (BitVec.ofNat 64 _).toNat
  have h1 : (UInt64.ofNat k).toNat = k := by
    show (BitVec.ofNat 64 k).toNat = k
    rw [BitVec.toNat_ofNat, Nat.mod_eq_of_lt (by omega)]
  have h2 : (lN n).toUInt64.toNat = n := wb_tn hn
  rw [UInt64.toNat_shiftRight, h1, h2, Nat.mod_eq_of_lt hk, Nat.shiftRight_eq_div_pow, BitVec.toNat_ofNat, Nat.mod_eq_of_lt (Nat.lt_of_le_of_lt (Nat.div_le_self _ _) hn)]
theorem wb_shl (n : Nat) {k : Nat} (hk : k < 64) : lN n <<< ((nI k).toInt64 &&& 63) = lN (n * 2 ^ k) := by
  rw [wb_c k hk]
  apply wb_inj
  rw [Int64.toBitVec_shiftLeft, wb_tb, wb_tb, wb_tb, wb_sm k hk]
  apply BitVec.eq_of_toNat_eq
  rw [BitVec.shiftLeft_eq', BitVec.toNat_shiftLeft, BitVec.toNat_ofNat, BitVec.toNat_ofNat, BitVec.toNat_ofNat, Nat.mod_eq_of_lt (show k < 2 ^ 64 by omega), Nat.shiftLeft_eq, Nat.mul_mod, Nat.mod_mod, ← Nat.mul_mod]
theorem wb_and {a b : Nat} (ha : a < 2 ^ 64) (hb : b < 2 ^ 64) : lN a &&& lN b = lN (a &&& b) := by
  apply wb_inj
  rw [Int64.toBitVec_and, wb_tb, wb_tb, wb_tb]
  apply BitVec.eq_of_toNat_eq
  rw [BitVec.toNat_and, BitVec.toNat_ofNat, BitVec.toNat_ofNat, BitVec.toNat_ofNat, Nat.mod_eq_of_lt ha, Nat.mod_eq_of_lt hb, Nat.mod_eq_of_lt (Nat.and_lt_two_pow _ hb)]
theorem wb_or {a b : Nat} (ha : a < 2 ^ 64) (hb : b < 2 ^ 64) : lN a ||| lN b = lN (a ||| b) := by
  apply wb_inj
  rw [Int64.toBitVec_or, wb_tb, wb_tb, wb_tb]
  apply BitVec.eq_of_toNat_eq
  rw [BitVec.toNat_or, BitVec.toNat_ofNat, BitVec.toNat_ofNat, BitVec.toNat_ofNat, Nat.mod_eq_of_lt ha, Nat.mod_eq_of_lt hb, Nat.mod_eq_of_lt (Nat.or_lt_two_pow ha hb)]
theorem wb_mask {n k : Nat} (hn : n < 2 ^ 64) (hk : k < 64) : lN n &&& lN (2 ^ k - 1) = lN (n % 2 ^ k) := by
  rw [wb_and hn (by have := wb_lt2 hk; omega), Nat.and_two_pow_sub_one_eq_mod]
theorem wb_a1 {n : Nat} (hn : n < 2 ^ 64) : lN n &&& 1 = lN (n % 2) := wb_mask (k := 1) hn (by decide)
theorem wb_bit {n k : Nat} (hn : n < 2 ^ 64) (hk : k < 64) : ((lN n).toUInt64 >>> ((nI k).toInt64.toUInt64 &&& Int64.toUInt64 63)).toInt64 &&& 1 = lN (n / 2 ^ k % 2) := by
  rw [wb_shr hn hk, wb_a1 (Nat.lt_of_le_of_lt (Nat.div_le_self _ _) hn)]
theorem u_tn {n : Nat} (h : n < 2 ^ 64) : (UInt64.ofNat n).toNat = n := Nat.mod_eq_of_lt h
theorem g_and {a b c : Nat} (ha : a < 2 ^ 64) (hb : b < 2 ^ 64) (hc : a &&& b = c) : lN a &&& lN b = lN c := by
  subst hc
  have h : UInt64.ofNat a &&& UInt64.ofNat b = UInt64.ofNat (a &&& b) := UInt64.toNat_inj.mp (by rw [UInt64.toNat_and, u_tn ha, u_tn hb, u_tn (Nat.and_lt_two_pow a hb)])
  have h2 := congrArg UInt64.toInt64 h
  exact h2
theorem g_and1 {a : Nat} (ha : a < 2 ^ 64) : lN a &&& 1 = lN (a % 2) := g_and (b := 1) ha (by decide) (Nat.and_two_pow_sub_one_eq_mod a 1)
theorem g_mask {a s p : Nat} (hp : 2 ^ s = p) (hs : s < 64) (ha : a < 2 ^ 64) : lN a &&& lN (p - 1) = lN (a % p) := by
  subst hp
  have := Nat.pow_lt_pow_right (show 1 < 2 by decide) hs
  exact g_and ha (by omega) (Nat.and_two_pow_sub_one_eq_mod a s)
theorem g_or {k p a b : Nat} (hp : 2 ^ k = p) (ha : a < p) (h : b * p + a < 2 ^ 64) : lN (b * p) ||| lN a = lN (b * p + a) := by
  subst hp
  have h1 : b * 2 ^ k ||| a = b * 2 ^ k + a := by rw [← Nat.shiftLeft_eq, Nat.shiftLeft_add_eq_or_of_lt ha]
  have h3 : UInt64.ofNat (b * 2 ^ k) ||| UInt64.ofNat a = UInt64.ofNat (b * 2 ^ k + a) := UInt64.toNat_inj.mp (by rw [UInt64.toNat_or, u_tn (by omega), u_tn (by omega), u_tn h, h1])
  have h2 := congrArg UInt64.toInt64 h3
  exact h2
theorem g_or' {k p a b : Nat} (hp : 2 ^ k = p) (ha : a < p) (h : a + b * p < 2 ^ 64) : lN a ||| lN (b * p) = lN (a + b * p) := by
  rw [Int64.or_comm, g_or hp ha (by omega), Nat.add_comm]
/-! rows of twelve digits of four bits -/
def dgt (r : Nat) (i : Int) : Int := ((r / 16 ^ i.toNat % 16 : Nat) : Int)
theorem dgt_rng (r : Nat) (i : Int) : 0 ≤ dgt r i ∧ dgt r i < 16 := by
  unfold dgt
  have := Nat.mod_lt (r / 16 ^ i.toNat) (show 0 < 16 by decide)
  omega
theorem p16 (k : Nat) : (16 : Nat) ^ k = 2 ^ (4 * k) := by rw [Nat.pow_mul]
theorem zi2l_N {z : Int} (h : zr z) (h0 : 0 ≤ z) : zi2l z = lN z.toNat := by
  obtain ⟨n, rfl⟩ := zi_of h0
  unfold zi2l
  rw [zi_nI, nI_l (by have := h.2; omega)]
  rfl
theorem z_sh {a : Int} (h0 : 0 ≤ a) (h : a < 64) : (Int32.ofInt a).toInt64 = (nI a.toNat).toInt64 := by
  obtain ⟨n, rfl⟩ := zi_of h0
  rw [zi_nI]; rfl
theorem zlushr_N {n : Nat} {a : Int} (hn : n < 2 ^ 64) (h0 : 0 ≤ a) (h : a < 64) : zlushr (lN n) a = lN (n / 2 ^ a.toNat) := by
  unfold zlushr
  rw [z_sh h0 h, wb_shr hn (by omega)]
theorem zlshl_N (n : Nat) {a : Int} (h0 : 0 ≤ a) (h : a < 64) : zlshl (lN n) a = lN (n * 2 ^ a.toNat) := by
  unfold zlshl
  rw [z_sh h0 h, wb_shl n (by omega)]
theorem zand15 (n : Nat) : zand (zl2i (lN n)) 15 = ((n % 16 : Nat) : Int) := by
  unfold zand zl2i
  rw [lN_i, Int32.ofInt_toInt, show Int32.ofInt 15 = (15 : Int32) from rfl, pk_and (nI n) (m := 15) 4 (by decide)]
  have e : (nI n).toBitVec.toNat = n % 2 ^ 32 := by
    show (BitVec.ofNat 32 n).toNat = _
    rw [BitVec.toNat_ofNat]
  rw [e, nI_toInt (by omega), Nat.mod_mod_of_dvd _ (by decide)]
theorem z4 {i : Int} (h0 : 0 ≤ i) : (4 * i).toNat = 4 * i.toNat := by omega
theorem row_digit {r : Nat} {i : Int} (hr : r < 2 ^ 64) (h0 : 0 ≤ i) (h : i < 12) : zand (zl2i (zlushr (lN r) (4 * i))) 15 = dgt r i := by
  rw [zlushr_N hr (by omega) (by omega), zand15, z4 h0, ← p16]
  rfl
/-- the digits of a low and a high part -/
theorem dgt_lo {a b k j : Nat} (h : j < k) : (a + b * 16 ^ k) / 16 ^ j % 16 = a / 16 ^ j % 16 := by
  obtain ⟨d, rfl⟩ : ∃ d, k = j + (d + 1) := ⟨k - j - 1, by omega⟩
  have e : a + b * 16 ^ (j + (d + 1)) = a + 16 ^ j * (16 * (b * 16 ^ d)) := by
    rw [Nat.pow_add, Nat.pow_succ]
    congr 1
    rw [Nat.mul_comm b, Nat.mul_assoc, Nat.mul_comm (16 ^ d) 16, Nat.mul_assoc, Nat.mul_comm (16 ^ d) b]
  rw [e, Nat.add_mul_div_left _ _ (Nat.pow_pos (by decide)), Nat.add_mul_mod_self_left]
theorem dgt_hi {a b k j : Nat} (ha : a < 16 ^ k) (h : k ≤ j) : (a + b * 16 ^ k) / 16 ^ j % 16 = b / 16 ^ (j - k) % 16 := by
  obtain ⟨d, rfl⟩ : ∃ d, j = k + d := ⟨j - k, by omega⟩
  rw [Nat.pow_add, ← Nat.div_div_eq_div_mul, Nat.add_mul_div_right _ _ (Nat.pow_pos (by decide)), Nat.div_eq_of_lt ha, Nat.zero_add, Nat.add_sub_cancel_left]
theorem dgt_mod {r k j : Nat} (h : j < k) : r % 16 ^ k / 16 ^ j % 16 = r / 16 ^ j % 16 := by
  have e : r = r % 16 ^ k + r / 16 ^ k * 16 ^ k := by rw [Nat.mul_comm]; exact (Nat.mod_add_div _ _).symm
  have h2 := dgt_lo (a := r % 16 ^ k) (b := r / 16 ^ k) h
  rw [← e] at h2
  exact h2.symm
def rIns (r : Nat) (i v : Int) : Nat := r % 16 ^ i.toNat + (r / 16 ^ i.toNat * 16 + v.toNat) * 16 ^ i.toNat
def rRem (r : Nat) (i : Int) : Nat := r % 16 ^ i.toNat + r / 16 ^ (i.toNat + 1) * 16 ^ i.toNat
def rRep (r : Nat) (i v : Int) : Nat := r % 16 ^ i.toNat + (r / 16 ^ (i.toNat + 1) * 16 + v.toNat) * 16 ^ i.toNat
theorem p16pos (k : Nat) : 0 < (16 : Nat) ^ k := Nat.pow_pos (by decide)
theorem dgt_rIns {r : Nat} {i v j : Int} (h0 : 0 ≤ i) (hv0 : 0 ≤ v) (hv : v < 16) (hj : 0 ≤ j) : dgt (rIns r i v) j = if j < i then dgt r j else if j = i then v else dgt r (j - 1) := by
  obtain ⟨k, rfl⟩ := zi_of h0
  obtain ⟨w, rfl⟩ := zi_of hv0
  obtain ⟨l, rfl⟩ := zi_of hj
  unfold dgt rIns
  simp only [Int.toNat_natCast]
  have ha : r % 16 ^ k < 16 ^ k := Nat.mod_lt _ (p16pos k)
  by_cases h1 : l < k
  · rw [if_pos (by omega), dgt_lo h1, dgt_mod h1]
  · rw [if_neg (by omega), dgt_hi ha (by omega)]
    by_cases h2 : l = k
    · subst h2
      rw [if_pos rfl, Nat.sub_self, Nat.pow_zero, Nat.div_one]
      have : (r / 16 ^ l * 16 + w) % 16 = w := by omega
      omega
    · rw [if_neg (by omega)]
      have e : ((l : Int) - 1).toNat = l - 1 := by omega
      rw [e]
      obtain ⟨d, rfl⟩ : ∃ d, l = k + (d + 1) := ⟨l - k - 1, by omega⟩
      rw [Nat.add_sub_cancel_left, Nat.pow_succ, Nat.mul_comm (16 ^ d) 16, ← Nat.div_div_eq_div_mul]
      have e2 : (r / 16 ^ k * 16 + w) / 16 = r / 16 ^ k := by omega
      rw [e2, Nat.div_div_eq_div_mul, ← Nat.pow_add, show k + (d + 1) - 1 = k + d by omega]
theorem dgt_rRem {r : Nat} {i j : Int} (h0 : 0 ≤ i) (hj : 0 ≤ j) : dgt (rRem r i) j = if j < i then dgt r j else dgt r (j + 1) := by
  obtain ⟨k, rfl⟩ := zi_of h0
  obtain ⟨l, rfl⟩ := zi_of hj
  unfold dgt rRem
  simp only [Int.toNat_natCast]
  have ha : r % 16 ^ k < 16 ^ k := Nat.mod_lt _ (p16pos k)
  by_cases h1 : l < k
  · rw [if_pos (by omega), dgt_lo h1, dgt_mod h1]
  · rw [if_neg (by omega), dgt_hi ha (by omega)]
    have e : ((l : Int) + 1).toNat = l + 1 := by omega
    rw [e, Nat.div_div_eq_div_mul, ← Nat.pow_add, show k + 1 + (l - k) = l + 1 by omega]
theorem dgt_rRep {r : Nat} {i v j : Int} (h0 : 0 ≤ i) (hv0 : 0 ≤ v) (hv : v < 16) (hj : 0 ≤ j) : dgt (rRep r i v) j = if j = i then v else dgt r j := by
  obtain ⟨k, rfl⟩ := zi_of h0
  obtain ⟨w, rfl⟩ := zi_of hv0
  obtain ⟨l, rfl⟩ := zi_of hj
  unfold dgt rRep
  simp only [Int.toNat_natCast]
  have ha : r % 16 ^ k < 16 ^ k := Nat.mod_lt _ (p16pos k)
  by_cases h1 : l < k
  · rw [if_neg (by omega), dgt_lo h1, dgt_mod h1]
  · rw [dgt_hi ha (by omega)]
    by_cases h2 : l = k
    · subst h2
      rw [if_pos rfl, Nat.sub_self, Nat.pow_zero, Nat.div_one]
      have : (r / 16 ^ (l + 1) * 16 + w) % 16 = w := by omega
      omega
    · rw [if_neg (by omega)]
      obtain ⟨d, rfl⟩ : ∃ d, l = k + (d + 1) := ⟨l - k - 1, by omega⟩
      rw [Nat.add_sub_cancel_left, show (16 : Nat) ^ (d + 1) = 16 * 16 ^ d by rw [Nat.pow_succ, Nat.mul_comm], ← Nat.div_div_eq_div_mul]
      have e2 : (r / 16 ^ (k + 1) * 16 + w) / 16 = r / 16 ^ (k + 1) := by omega
      rw [e2, Nat.div_div_eq_div_mul, ← Nat.pow_add, show k + 1 + d = k + (d + 1) by omega]
theorem row_ext : ∀ (n : Nat) {r t : Nat}, r < 16 ^ n → t < 16 ^ n → (∀ j : Nat, j < n → r / 16 ^ j % 16 = t / 16 ^ j % 16) → r = t
  | 0, r, t, hr, ht, _ => by rw [Nat.pow_zero] at hr ht; omega
  | n + 1, r, t, hr, ht, h => by
    have h0 := h 0 (by omega)
    rw [Nat.pow_zero, Nat.div_one, Nat.div_one] at h0
    rw [Nat.pow_succ] at hr ht
    have h1 := row_ext n (r := r / 16) (t := t / 16) (by omega) (by omega) (fun j hj => by
      have h2 := h (j + 1) (by omega)
      rw [Nat.pow_succ, Nat.mul_comm, ← Nat.div_div_eq_div_mul, ← Nat.div_div_eq_div_mul] at h2
      exact h2)
    omega
theorem row_ext12 {r t : Nat} (hr : r < 16 ^ 12) (ht : t < 16 ^ 12) (h : ∀ j : Int, 0 ≤ j → j < 12 → dgt r j = dgt t j) : r = t := by
  refine row_ext 12 hr ht (fun j hj => ?_)
  have h1 := h j (by omega) (by omega)
  unfold dgt at h1
  rw [Int.toNat_natCast] at h1
  omega
theorem zcmp0 {x y : Int64} : zlcmp x y = 0 ↔ x = y := by
  unfold zlcmp lg_cmp
  by_cases h1 : x > y
  · rw [if_pos h1]
    constructor
    · intro h; exact absurd h (by decide)
    · intro h; subst h; exact absurd h1 (Int64.lt_irrefl)
  · rw [if_neg h1]
    by_cases h2 : x = y
    · rw [if_pos h2]; exact ⟨fun _ => h2, fun _ => by decide⟩
    · rw [if_neg h2]
      exact ⟨fun h => absurd h (by decide), fun h => absurd h h2⟩
theorem zcmp_rng (x y : Int64) : -1 ≤ zlcmp x y ∧ zlcmp x y ≤ 1 := by
  unfold zlcmp lg_cmp
  split
  · decide
  · split <;> decide
theorem lN_inj {a b : Nat} (ha : a < 2 ^ 64) (hb : b < 2 ^ 64) : lN a = lN b ↔ a = b := by
  constructor
  · intro h
    have h1 := congrArg (fun x : Int64 => x.toBitVec.toNat) h
    have h2 : (lN a).toBitVec.toNat = (lN b).toBitVec.toNat := h1
    rwa [wb_tn ha, wb_tn hb] at h2
  · rintro rfl; rfl
theorem land15 {n : Nat} (hn : n < 2 ^ 64) : lN n &&& 15 = lN (n % 16) := wb_mask (k := 4) hn (by decide)
theorem zlcmp_ne {x y : Int64} (h : x ≠ y) : zr (zlcmp x y) ∧ ¬ zlcmp x y = 0 := by
  have := zcmp_rng x y
  exact ⟨⟨by omega, by omega⟩, fun q => h (zcmp0.mp q)⟩
theorem zlcmp_eq {x y : Int64} (h : x = y) : zr (zlcmp x y) ∧ zlcmp x y = 0 := by
  have := zcmp_rng x y
  exact ⟨⟨by omega, by omega⟩, zcmp0.mpr h⟩
theorem r12 {r : Nat} (h : r < 16 ^ 12) : r < 2 ^ 64 := Nat.lt_trans h (by decide)
theorem dgt_low {r : Nat} {i : Int} (hr : r < 16 ^ 12) (h0 : 0 ≤ i) : lN (r / 16 ^ i.toNat) &&& 15 = lN (dgt r i).toNat := by
  rw [land15 (Nat.lt_of_le_of_lt (Nat.div_le_self _ _) (r12 hr))]
  unfold dgt
  rw [Int.toNat_natCast]
theorem dgt_lowne {r : Nat} {i : Int} {v : Int} (hr : r < 16 ^ 12) (h0 : 0 ≤ i) (hv : 0 ≤ v) (hv2 : v < 2147483648) (h : dgt r i ≠ v) : lN (r / 16 ^ i.toNat) &&& 15 ≠ lN v.toNat := by
  have hd := dgt_rng r i
  rw [dgt_low hr h0]
  intro q
  have := (lN_inj (by omega) (by omega)).mp q
  omega
theorem row_next {r : Nat} {i : Int} (hr : r < 16 ^ 12) (h0 : 0 ≤ i) : zlushr (lN (r / 16 ^ i.toNat)) 4 = lN (r / 16 ^ (i + 1).toNat) := by
  rw [zlushr_N (Nat.lt_of_le_of_lt (Nat.div_le_self _ _) (r12 hr)) (by omega) (by omega), Nat.div_div_eq_div_mul, show (i + 1).toNat = i.toNat + 1 by omega, Nat.pow_succ]
  rfl
theorem row_ahead {r : Nat} {i : Int} (hr : r < 16 ^ 12) (h0 : 0 ≤ i) (h : i < 12) : lN r &&& (zlshl (1 : Int64) (4 * i) - 1) = lN (r % 16 ^ i.toNat) := by
  have e1 : zlshl (1 : Int64) (4 * i) = lN (1 * 2 ^ (4 * i).toNat) := zlshl_N 1 (by omega) (by omega)
  have e2 : (1 : Int64) = lN 1 := rfl
  rw [e1, e2, lN_sub (by rw [Nat.one_mul]; exact Nat.pow_pos (by decide)), Nat.one_mul, wb_mask (r12 hr) (by omega), z4 h0, ← p16]
theorem rIns_lt {r : Nat} {i v : Int} (hr : r < 16 ^ 11) (h0 : 0 ≤ i) (h : i < 12) (hv0 : 0 ≤ v) (hv : v < 16) : rIns r i v < 16 ^ 12 := by
  obtain ⟨k, rfl⟩ := zi_of h0
  obtain ⟨w, rfl⟩ := zi_of hv0
  unfold rIns
  simp only [Int.toNat_natCast]
  have ha : r % 16 ^ k < 16 ^ k := Nat.mod_lt _ (p16pos k)
  have e : (16 : Nat) ^ 12 = 16 ^ (12 - k) * 16 ^ k := by rw [← Nat.pow_add]; congr 1; omega
  have e3 : (16 : Nat) ^ 11 = 16 ^ (11 - k) * 16 ^ k := by rw [← Nat.pow_add]; congr 1; omega
  have e2 : r / 16 ^ k < 16 ^ (11 - k) := by
    rw [Nat.div_lt_iff_lt_mul (p16pos k), ← e3]; exact hr
  have e4 : (16 : Nat) ^ (12 - k) = 16 ^ (11 - k) * 16 := by rw [← Nat.pow_succ]; congr 1; omega
  have h5 : r / 16 ^ k * 16 + w + 1 ≤ 16 ^ (12 - k) := by rw [e4]; omega
  have h6 : (r / 16 ^ k * 16 + w + 1) * 16 ^ k ≤ 16 ^ (12 - k) * 16 ^ k := Nat.mul_le_mul_right _ h5
  rw [Nat.add_mul _ 1, Nat.one_mul] at h6
  rw [e]; omega
theorem rRem_le (r : Nat) (i : Int) : rRem r i ≤ r := by
  unfold rRem
  have h1 : r / 16 ^ (i.toNat + 1) * 16 ^ i.toNat ≤ r / 16 ^ i.toNat * 16 ^ i.toNat := by
    apply Nat.mul_le_mul_right
    rw [Nat.pow_succ, ← Nat.div_div_eq_div_mul]
    exact Nat.div_le_self _ _
  have h2 := Nat.mod_add_div r (16 ^ i.toNat)
  rw [Nat.mul_comm] at h2
  omega
theorem rRep_lt {r : Nat} {i v : Int} (hr : r < 16 ^ 12) (h0 : 0 ≤ i) (h : i < 12) (hv0 : 0 ≤ v) (hv : v < 16) : rRep r i v < 16 ^ 12 := by
  obtain ⟨k, rfl⟩ := zi_of h0
  obtain ⟨w, rfl⟩ := zi_of hv0
  unfold rRep
  simp only [Int.toNat_natCast]
  have ha : r % 16 ^ k < 16 ^ k := Nat.mod_lt _ (p16pos k)
  have e : (16 : Nat) ^ 12 = 16 ^ (11 - k) * 16 * 16 ^ k := by rw [Nat.mul_assoc, Nat.mul_comm 16, ← Nat.pow_succ, ← Nat.pow_add]; congr 1; omega
  have e2 : r / 16 ^ (k + 1) < 16 ^ (11 - k) := by
    rw [Nat.div_lt_iff_lt_mul (p16pos _), ← Nat.pow_add, show 11 - k + (k + 1) = 12 by omega]; exact hr
  have h5 : r / 16 ^ (k + 1) * 16 + w + 1 ≤ 16 ^ (11 - k) * 16 := by omega
  have h6 : (r / 16 ^ (k + 1) * 16 + w + 1) * 16 ^ k ≤ 16 ^ (11 - k) * 16 * 16 ^ k := Nat.mul_le_mul_right _ h5
  rw [Nat.add_mul _ 1, Nat.one_mul] at h6
  rw [e]; omega
theorem zand15v {v : Int} (h0 : 0 ≤ v) (h : v < 16) : zand v 15 = v := by
  obtain ⟨n, rfl⟩ := zi_of h0
  unfold zand
  rw [zi_nI, show Int32.ofInt 15 = (15 : Int32) from rfl, pk_andN (by omega) (m := 15) 4 (by decide), nI_toInt (by omega)]
  omega
theorem row_ins {r : Nat} {i v : Int} (hr : r < 16 ^ 11) (h0 : 0 ≤ i) (h : i < 12) (hv0 : 0 ≤ v) (hv : v < 16) :
    (lN r &&& (zlshl (1 : Int64) (4 * i) - 1)) ||| zlshl (zlshl (zlushr (lN r) (4 * i)) 4 ||| zi2l (zand v 15)) (4 * i) = lN (rIns r i v) := by
  have hr12 : r < 16 ^ 12 := Nat.lt_trans hr (by decide)
  have hlt := rIns_lt hr h0 h hv0 hv
  rw [row_ahead hr12 h0 h, zlushr_N (r12 hr12) (by omega) (by omega), zlshl_N _ (by omega) (by omega), zand15v hv0 hv, zi2l_N ⟨by omega, by omega⟩ hv0, z4 h0, ← p16]
  have hd : r / 16 ^ i.toNat < 16 ^ 12 := Nat.lt_of_le_of_lt (Nat.div_le_self _ _) hr12
  have e4 : (2 : Nat) ^ (4 : Int).toNat = 16 := by decide
  have hsm : r / 16 ^ i.toNat * 16 + v.toNat < 2 ^ 64 := by
    have h9 : (16 : Nat) ^ 12 * 16 + 16 < 2 ^ 64 := by decide
    omega
  rw [e4, g_or (k := 4) (p := 16) (by decide) (by omega) hsm, zlshl_N _ (by omega) (by omega), z4 h0, ← p16]
  unfold rIns at hlt ⊢
  exact g_or' (k := 4 * i.toNat) (p16 i.toNat).symm (Nat.mod_lt _ (p16pos _)) (Nat.lt_trans hlt (by decide))
theorem row_rem {r : Nat} {i : Int} (hr : r < 16 ^ 12) (h0 : 0 ≤ i) (h : i < 12) :
    (lN r &&& (zlshl (1 : Int64) (4 * i) - 1)) ||| zlshl (zlushr (lN r) (4 * i + 4)) (4 * i) = lN (rRem r i) := by
  have hlt : rRem r i < 16 ^ 12 := Nat.lt_of_le_of_lt (rRem_le r i) hr
  rw [row_ahead hr h0 h, zlushr_N (r12 hr) (by omega) (by omega), zlshl_N _ (by omega) (by omega), z4 h0, show (4 * i + 4).toNat = 4 * (i.toNat + 1) by omega, ← p16, ← p16]
  unfold rRem at hlt ⊢
  exact g_or' (k := 4 * i.toNat) (p16 i.toNat).symm (Nat.mod_lt _ (p16pos _)) (Nat.lt_trans hlt (by decide))
theorem row_low {r : Nat} {i : Int} (hr : r < 16 ^ 12) (h0 : 0 ≤ i) (h : i < 12) (hd : 0 < dgt r i) : lN r - zlshl (1 : Int64) (4 * i) = lN (rRep r i (dgt r i - 1)) := by
  have e1 : zlshl (1 : Int64) (4 * i) = lN (1 * 2 ^ (4 * i).toNat) := zlshl_N 1 (by omega) (by omega)
  rw [e1, Nat.one_mul, z4 h0, ← p16]
  obtain ⟨k, rfl⟩ := zi_of h0
  unfold rRep
  have ed : dgt r k = ((r / 16 ^ k % 16 : Nat) : Int) := rfl
  simp only [Int.toNat_natCast]
  have e2 := Nat.mod_add_div r (16 ^ k)
  have e3 : r / 16 ^ k = r / 16 ^ (k + 1) * 16 + r / 16 ^ k % 16 := by
    rw [Nat.pow_succ, ← Nat.div_div_eq_div_mul]; omega
  have e5 : (dgt r k - 1).toNat + 1 = r / 16 ^ k % 16 := by rw [ed] at hd ⊢; omega
  have e6 : r = r % 16 ^ k + (r / 16 ^ (k + 1) * 16 + (dgt r k - 1).toNat) * 16 ^ k + 16 ^ k := by
    have e7 : r / 16 ^ k = r / 16 ^ (k + 1) * 16 + (dgt r k - 1).toNat + 1 := by omega
    rw [e7, Nat.mul_comm, Nat.add_mul, Nat.one_mul] at e2
    omega
  have e8 : 16 ^ k ≤ r := by omega
  rw [lN_sub e8]
  congr 1
  omega
theorem row_keep {r : Nat} {i : Int} (hr : r < 16 ^ 12) (h0 : 0 ≤ i) (h : i < 12) : lN r &&& (zlshl (15 : Int64) (4 * i) ^^^ (-1)) = lN (r % 16 ^ i.toNat + r / 16 ^ (i.toNat + 1) * 16 ^ (i.toNat + 1)) := by
  have e1 : zlshl (15 : Int64) (4 * i) = lN (15 * 2 ^ (4 * i).toNat) := zlshl_N 15 (by omega) (by omega)
  rw [e1, z4 h0]
  obtain ⟨k, rfl⟩ := zi_of h0
  simp only [Int.toNat_natCast]
  have hk : k < 12 := by omega
  apply wb_inj
  rw [Int64.toBitVec_and, Int64.toBitVec_xor, wb_tb, wb_tb, wb_tb]
  apply BitVec.eq_of_getLsbD_eq
  intro j hj
  have em1 : (-1 : Int64).toBitVec = BitVec.allOnes 64 := by decide
  rw [em1, BitVec.getLsbD_and, BitVec.getLsbD_xor, BitVec.getLsbD_allOnes, BitVec.getLsbD_ofNat, BitVec.getLsbD_ofNat, BitVec.getLsbD_ofNat]
  simp only [hj, decide_true, Bool.true_and, Bool.xor_true]
  have e15 : (15 * 2 ^ (4 * k)).testBit j = (decide (4 * k ≤ j) && (15 : Nat).testBit (j - 4 * k)) := by
    rw [Nat.mul_comm, Nat.testBit_two_pow_mul]
  have e16 : (15 : Nat).testBit (j - 4 * k) = decide (j - 4 * k < 4) := by
    rw [show 15 = 2 ^ 4 - 1 by decide, Nat.testBit_two_pow_sub_one]
  rw [e15, e16]
  have hlo : r % 16 ^ k < 2 ^ (4 * k + 4) := by
    have := Nat.mod_lt r (p16pos k)
    rw [p16] at this ⊢
    have h2 : (2 : Nat) ^ (4 * k) ≤ 2 ^ (4 * k + 4) := Nat.pow_le_pow_right (by decide) (by omega)
    omega
  have er : r % 16 ^ k + r / 16 ^ (k + 1) * 16 ^ (k + 1) = 2 ^ (4 * k + 4) * (r / 2 ^ (4 * k + 4)) + r % 16 ^ k := by
    rw [p16 (k + 1), show 4 * (k + 1) = 4 * k + 4 by omega, Nat.mul_comm, Nat.add_comm]
  rw [er, Nat.testBit_two_pow_mul_add _ hlo]
  by_cases h1 : j < 4 * k
  · rw [if_pos (by omega), p16, Nat.testBit_mod_two_pow]
    simp [h1, Nat.not_le.mpr h1]
  · by_cases h2 : j < 4 * k + 4
    · rw [if_pos h2, p16, Nat.testBit_mod_two_pow]
      have h3 : j - 4 * k < 4 := by omega
      simp [h1, h3, Nat.not_lt.mp h1]
    · rw [if_neg h2, Nat.testBit_div_two_pow]
      have h3 : ¬ j - 4 * k < 4 := by omega
      simp [h3]
      rw [show j - (4 * k + 4) + (4 * k + 4) = j by omega]
theorem row_rep {r : Nat} {i v : Int} (hr : r < 16 ^ 12) (h0 : 0 ≤ i) (h : i < 12) (hv0 : 0 ≤ v) (hv : v < 16) :
    (lN r &&& (zlshl (15 : Int64) (4 * i) ^^^ (-1))) ||| zlshl (zi2l (zand v 15)) (4 * i) = lN (rRep r i v) := by
  have hlt := rRep_lt hr h0 h hv0 hv
  rw [row_keep hr h0 h, zand15v hv0 hv, zi2l_N ⟨by omega, by omega⟩ hv0, zlshl_N _ (by omega) (by omega), z4 h0, ← p16]
  obtain ⟨k, rfl⟩ := zi_of h0
  obtain ⟨w, rfl⟩ := zi_of hv0
  unfold rRep at hlt ⊢
  simp only [Int.toNat_natCast] at hlt ⊢
  have hw : w < 16 := by omega
  have ha : r % 16 ^ k < 16 ^ k := Nat.mod_lt _ (p16pos k)
  have e1 : (16 : Nat) ^ (k + 1) = 16 ^ k * 16 := Nat.pow_succ ..
  have hb : r % 16 ^ k + w * 16 ^ k < 16 ^ (k + 1) := by
    have : (w + 1) * 16 ^ k ≤ 16 * 16 ^ k := Nat.mul_le_mul_right _ (by omega)
    rw [Nat.add_mul, Nat.one_mul] at this
    rw [e1, Nat.mul_comm (16 ^ k) 16]; omega
  have hsum : r % 16 ^ k + (r / 16 ^ (k + 1) * 16 + w) * 16 ^ k = (r % 16 ^ k + w * 16 ^ k) + r / 16 ^ (k + 1) * 16 ^ (k + 1) := by
    rw [e1, Nat.add_mul, Nat.mul_assoc _ 16, Nat.mul_comm 16 (16 ^ k)]; omega
  rw [hsum] at hlt ⊢
  have h2 : (16 : Nat) ^ 12 ≤ 2 ^ 64 := by decide
  rw [← g_or' (k := 4 * (k + 1)) (p16 (k + 1)).symm hb (by omega), ← g_or' (k := 4 * k) (p16 k).symm ha (by omega), ← g_or' (k := 4 * (k + 1)) (p16 (k + 1)).symm (Nat.lt_trans ha (by rw [e1]; have := p16pos k; omega)) (by omega), Int64.or_assoc, Int64.or_assoc, Int64.or_comm (lN (r / 16 ^ (k + 1) * 16 ^ (k + 1)))]
