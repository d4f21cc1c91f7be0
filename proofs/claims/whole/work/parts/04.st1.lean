/-! one step of the abstract layer, and why it holds -/
theorem zi_to {a : Int} (h : zr a) : (Int32.ofInt a).toInt = a := Int32.toInt_ofInt_of_le (by have := h.1; omega) (by have := h.2; omega)
theorem zi_lt {a b : Int} (ha : zr a) (hb : zr b) : Int32.ofInt a < Int32.ofInt b ↔ a < b := by rw [Int32.lt_iff_toInt_lt, zi_to ha, zi_to hb]
theorem zi_le {a b : Int} (ha : zr a) (hb : zr b) : Int32.ofInt a ≤ Int32.ofInt b ↔ a ≤ b := by rw [Int32.le_iff_toInt_le, zi_to ha, zi_to hb]
theorem zi_eq {a b : Int} (ha : zr a) (hb : zr b) : Int32.ofInt a = Int32.ofInt b ↔ a = b := by rw [← Int32.toInt_inj, zi_to ha, zi_to hb]
theorem zi_0 : (0 : Int32) = Int32.ofInt 0 := rfl
theorem zi_nI (n : Nat) : Int32.ofInt (n : Int) = nI n := by
  apply Int32.toBitVec.inj
  simp [nI]
theorem zi_of {a : Int} (h : 0 ≤ a) : ∃ n : Nat, a = (n : Int) := ⟨a.toNat, (Int.toNat_of_nonneg h).symm⟩
theorem zi_div {a b : Int} (h0 : 0 ≤ a) (ha : a < 2147483648) (h1 : 0 < b) (hb : b < 2147483648) : Int32.ofInt a / Int32.ofInt b = Int32.ofInt (a / b) := by
  obtain ⟨n, rfl⟩ := zi_of h0
  obtain ⟨k, rfl⟩ := zi_of (by omega : 0 ≤ b)
  rw [zi_nI, zi_nI, pk_div (by omega) (by omega) (by omega), ← Int.natCast_ediv, zi_nI]
theorem zi_rem {a b : Int} (h0 : 0 ≤ a) (ha : a < 2147483648) (h1 : 0 < b) (hb : b < 2147483648) : Int32.ofInt a - Int32.ofInt a / Int32.ofInt b * Int32.ofInt b = Int32.ofInt (a % b) := by
  rw [zi_div h0 ha h1 hb, ← Int32.ofInt_mul, ← Int32.ofInt_sub, Int.emod_def, Int.mul_comm]
def zand (a b : Int) : Int := (Int32.ofInt a &&& Int32.ofInt b).toInt
def zor (a b : Int) : Int := (Int32.ofInt a ||| Int32.ofInt b).toInt
def zxor (a b : Int) : Int := (Int32.ofInt a ^^^ Int32.ofInt b).toInt
def zshl (a b : Int) : Int := (Int32.ofInt a <<< (Int32.ofInt b &&& 31)).toInt
def zshr (a b : Int) : Int := (Int32.ofInt a >>> (Int32.ofInt b &&& 31)).toInt
def zushr (a b : Int) : Int := (((Int32.ofInt a).toUInt32 >>> ((Int32.ofInt b).toUInt32 &&& Int32.toUInt32 31)).toInt32).toInt
def zi2l (a : Int) : Int64 := (Int32.ofInt a).toInt64
def zl2i (x : Int64) : Int := x.toInt32.toInt
def zi2b (a : Int) : Int := (Int32.ofInt a).toInt8.toInt32.toInt
def zi2s (a : Int) : Int := (Int32.ofInt a).toInt16.toInt32.toInt
def zlshl (x : Int64) (a : Int) : Int64 := x <<< ((Int32.ofInt a).toInt64 &&& 63)
def zlushr (x : Int64) (a : Int) : Int64 := (x.toUInt64 >>> ((Int32.ofInt a).toInt64.toUInt64 &&& Int64.toUInt64 63)).toInt64
def zlcmp (x y : Int64) : Int := (lg_cmp x y).toInt
def zcmp : Jvm.ClassFile.Cond → Int → Int → Prop
  | .eq, a, b => a = b
  | .ne, a, b => ¬ a = b
  | .lt, a, b => a < b
  | .ge, a, b => b ≤ a
  | .gt, a, b => b < a
  | .le, a, b => a ≤ b
def zncmp : Jvm.ClassFile.Cond → Int → Int → Prop
  | .eq, a, b => ¬ a = b
  | .ne, a, b => a = b
  | .lt, a, b => b ≤ a
  | .ge, a, b => a < b
  | .gt, a, b => a ≤ b
  | .le, a, b => b < a
def zp1 (st : List VV) (f : Int → List VV → Prop) : Prop := match st with
  | .inl a :: r => f a r
  | _ => False
def zp2 (st : List VV) (f : Int → Int → List VV → Prop) : Prop := match st with
  | .inl b :: .inl a :: r => f a b r
  | _ => False
def zpL1 (st : List VV) (f : Int64 → List VV → Prop) : Prop := match st with
  | .inr (.inl a) :: r => f a r
  | _ => False
def zpL2 (st : List VV) (f : Int64 → Int64 → List VV → Prop) : Prop := match st with
  | .inr (.inl b) :: .inr (.inl a) :: r => f a b r
  | _ => False
def zpLI (st : List VV) (f : Int64 → Int → List VV → Prop) : Prop := match st with
  | .inl b :: .inr (.inl a) :: r => f a b r
  | _ => False
def zpQ (st : List VV) (f : Option (Nat × Nat) → List VV → Prop) : Prop := match st with
  | .inr (.inr q) :: r => f q r
  | _ => False
def zpR (st : List VV) (f : Nat → Nat → List VV → Prop) : Prop := match st with
  | .inr (.inr (some (c, k))) :: r => f c k r
  | _ => False
def zpIR (st : List VV) (f : Int → Nat → Nat → List VV → Prop) : Prop := match st with
  | .inl i :: .inr (.inr (some (c, k))) :: r => f i c k r
  | _ => False
def zpVR (st : List VV) (f : VV → Nat → Nat → List VV → Prop) : Prop := match st with
  | v :: .inr (.inr (some (c, k))) :: r => f v c k r
  | _ => False
def zpVIR (st : List VV) (f : VV → Int → Nat → Nat → List VV → Prop) : Prop := match st with
  | v :: .inl i :: .inr (.inr (some (c, k))) :: r => f v i c k r
  | _ => False
def zld (L : List (Option VV)) (i : Nat) (f : VV → Prop) : Prop := match L[i]? with
  | some (some v) => f v
  | _ => False
def zvI (v : VV) (f : Int → Prop) : Prop := match v with
  | .inl z => f z
  | _ => False
def zvL (v : VV) (f : Int64 → Prop) : Prop := match v with
  | .inr (.inl z) => f z
  | _ => False
def zvQ (v : VV) (f : Option (Nat × Nat) → Prop) : Prop := match v with
  | .inr (.inr z) => f z
  | _ => False
def zbr (ds : List Nat) (tk nt : Prop) (kt kn : List Nat → Prop) : Prop := match ds with
  | [] => False
  | 0 :: ds => nt ∧ kn ds
  | _ :: ds => tk ∧ kt ds
def zop {α : Type} (o : Option α) (f : α → Prop) : Prop := match o with
  | some x => f x
  | none => False
def zif (b : Bool) (P : Prop) : Prop := match b with
  | true => P
  | false => False
def zfld (q : Nat × Nat) (fi fl : Prop) (fr : Nat → Nat → Prop) : Prop := match q.1 with
  | 0 => fi
  | 1 => fl
  | n + 2 => fr n q.2
def zput (q : Nat × Nat) (v : VV) (fi fb : Int → Prop) (fl : Int64 → Prop) : Prop := match q with
  | (0, 0) => zvI v fi
  | (0, 1) => zvI v fb
  | (1, _) => zvL v fl
  | _ => False
abbrev zK : Type := List Nat → Nat → List (Option VV) → List VV → zSt → Prop
def st1 (w : Nat) (i : Instr) (t : Nat) (ds : List Nat) (pc : Nat) (L : List (Option VV)) (st : List VV) (σ : zSt) (K : zK) : Prop := match i with
  | .aconst_null => K ds (pc + 1) L (vN :: st) σ
  | .iconst z => K ds (pc + 1) L (vZ z :: st) σ
  | .bipush z => zif (Nat.blt z.natAbs 128) (K ds (pc + 2) L (vZ z :: st) σ)
  | .sipush z => zif (Nat.blt z.natAbs 32768) (K ds (pc + 3) L (vZ z :: st) σ)
  | .lconst z => K ds (pc + 1) L (vL (Int64.ofNat z.val) :: st) σ
  | .ldc x => zop (zgi x (zil w)) fun v => K ds (pc + 2) L (vZ v :: st) σ
  | .ldc_w x => zop (zgi x (zil w)) fun v => K ds (pc + 3) L (vZ v :: st) σ
  | .ldc2_w x => zop (zgi x (zll w)) fun v => K ds (pc + 3) L (vL v :: st) σ
  | .iload_n k => zld L k.val fun v => zvI v fun z => K ds (pc + 1) L (vZ z :: st) σ
  | .iload k => zld L k fun v => zvI v fun z => K ds (pc + 2) L (vZ z :: st) σ
  | .lload_n k => zld L k.val fun v => zvL v fun z => K ds (pc + 1) L (vL z :: st) σ
  | .lload k => zld L k fun v => zvL v fun z => K ds (pc + 2) L (vL z :: st) σ
  | .aload_n k => zld L k.val fun v => zvQ v fun z => K ds (pc + 1) L (.inr (.inr z) :: st) σ
  | .aload k => zld L k fun v => zvQ v fun z => K ds (pc + 2) L (.inr (.inr z) :: st) σ
  | .istore_n k => zif (Nat.blt k.val L.length) (zp1 st fun z r => K ds (pc + 1) (zlput L k.val (vZ z)) r σ)
  | .istore k => zif (Nat.blt k L.length) (zp1 st fun z r => K ds (pc + 2) (zlput L k (vZ z)) r σ)
  | .lstore_n k => zif (Nat.blt (k.val + 1) L.length) (zpL1 st fun z r => K ds (pc + 1) (zlput2 L k.val (vL z)) r σ)
  | .lstore k => zif (Nat.blt (k + 1) L.length) (zpL1 st fun z r => K ds (pc + 2) (zlput2 L k (vL z)) r σ)
  | .astore_n k => zif (Nat.blt k.val L.length) (zpQ st fun z r => K ds (pc + 1) (zlput L k.val (.inr (.inr z))) r σ)
  | .astore k => zif (Nat.blt k L.length) (zpQ st fun z r => K ds (pc + 2) (zlput L k (.inr (.inr z))) r σ)
  | .iinc k n => zif (Nat.blt k L.length) (zld L k fun v => zvI v fun z => K ds (pc + 3) (zlput L k (vZ (z + n))) st σ)
  | .dup => zpQ st (fun q r => K ds (pc + 1) L (.inr (.inr q) :: .inr (.inr q) :: r) σ)
  | .dup2 => zpIR st (fun i c k r => K ds (pc + 1) L (vZ i :: vR c k :: vZ i :: vR c k :: r) σ)
  | .pop => zp1 st (fun _ r => K ds (pc + 1) L r σ)
  | .iadd => zp2 st fun a b r => K ds (pc + 1) L (vZ (a + b) :: r) σ
  | .isub => zp2 st fun a b r => K ds (pc + 1) L (vZ (a - b) :: r) σ
  | .imul => zp2 st fun a b r => K ds (pc + 1) L (vZ (a * b) :: r) σ
  | .idiv => zp2 st fun a b r => (0 ≤ a ∧ a < 2147483648 ∧ 0 < b ∧ b < 2147483648) ∧ K ds (pc + 1) L (vZ (a / b) :: r) σ
  | .irem => zp2 st fun a b r => (0 ≤ a ∧ a < 2147483648 ∧ 0 < b ∧ b < 2147483648) ∧ K ds (pc + 1) L (vZ (a % b) :: r) σ
  | .iand => zp2 st fun a b r => K ds (pc + 1) L (vZ (zand a b) :: r) σ
  | .ior => zp2 st fun a b r => K ds (pc + 1) L (vZ (zor a b) :: r) σ
  | .ixor => zp2 st fun a b r => K ds (pc + 1) L (vZ (zxor a b) :: r) σ
  | .ishl => zp2 st fun a b r => K ds (pc + 1) L (vZ (zshl a b) :: r) σ
  | .ishr => zp2 st fun a b r => K ds (pc + 1) L (vZ (zshr a b) :: r) σ
  | .iushr => zp2 st fun a b r => K ds (pc + 1) L (vZ (zushr a b) :: r) σ
  | .i2l => zp1 st fun a r => K ds (pc + 1) L (vL (zi2l a) :: r) σ
  | .l2i => zpL1 st fun a r => K ds (pc + 1) L (vZ (zl2i a) :: r) σ
  | .i2b => zp1 st fun a r => K ds (pc + 1) L (vZ (zi2b a) :: r) σ
  | .i2s => zp1 st fun a r => K ds (pc + 1) L (vZ (zi2s a) :: r) σ
  | .ladd => zpL2 st fun a b r => K ds (pc + 1) L (vL (a + b) :: r) σ
  | .lsub => zpL2 st fun a b r => K ds (pc + 1) L (vL (a - b) :: r) σ
  | .lmul => zpL2 st fun a b r => K ds (pc + 1) L (vL (a * b) :: r) σ
  | .land => zpL2 st fun a b r => K ds (pc + 1) L (vL (a &&& b) :: r) σ
  | .lor => zpL2 st fun a b r => K ds (pc + 1) L (vL (a ||| b) :: r) σ
  | .lxor => zpL2 st fun a b r => K ds (pc + 1) L (vL (a ^^^ b) :: r) σ
  | .ldiv => zpL2 st fun a b r => (¬ b = 0) ∧ K ds (pc + 1) L (vL (a / b) :: r) σ
  | .lrem => zpL2 st fun a b r => (¬ b = 0) ∧ K ds (pc + 1) L (vL (a - a / b * b) :: r) σ
  | .lshl => zpLI st fun a b r => K ds (pc + 1) L (vL (zlshl a b) :: r) σ
  | .lushr => zpLI st fun a b r => K ds (pc + 1) L (vL (zlushr a b) :: r) σ
  | .lcmp => zpL2 st fun a b r => K ds (pc + 1) L (vZ (zlcmp a b) :: r) σ
  | .goto _ => K ds t L st σ
  | .ifCond c _ => zp1 st fun a r => zbr ds (zr a ∧ zcmp c a 0) (zr a ∧ zncmp c a 0) (fun ds => K ds t L r σ) (fun ds => K ds (pc + 3) L r σ)
  | .if_icmp c _ => zp2 st fun a b r => zbr ds (zr a ∧ zr b ∧ zcmp c a b) (zr a ∧ zr b ∧ zncmp c a b) (fun ds => K ds t L r σ) (fun ds => K ds (pc + 3) L r σ)
  | .ifnull _ => zpQ st fun q r => match q with
    | none => K ds t L r σ
    | some _ => K ds (pc + 3) L r σ
  | .ifnonnull _ => zpQ st fun q r => match q with
    | none => K ds (pc + 3) L r σ
    | some _ => K ds t L r σ
  | .getfield x => zpR st fun c k r => zop (zgi x (zgl w)) fun e => zif (Nat.beq e.1 c) (zop (zfk e.1)[e.2]? fun q => zfld q (K ds (pc + 3) L (vZ (σ.1 k e.2) :: r) σ) (K ds (pc + 3) L (vL (σ.2 k e.2) :: r) σ) (fun n c' => K ds (pc + 3) L (vR c' (k + n) :: r) σ))
  | .putfield x => zpVR st fun v c k r => zop (zgi x (zgl w)) fun e => zif (Nat.beq e.1 c) (zop (zfk e.1)[e.2]? fun q => zput q v (fun z => K ds (pc + 3) L r (uI σ k e.2 z)) (fun z => (z = 0 ∨ z = 1) ∧ K ds (pc + 3) L r (uI σ k e.2 z)) (fun z => K ds (pc + 3) L r (uL σ k e.2 z)))
  | .arraylength => zpR st fun c k r => zif (Nat.ble 8 c && Nat.ble c 11) (K ds (pc + 1) L (vZ (zlen k) :: r) σ)
  | .iaload => zpIR st fun i c k r => zif (Nat.beq c 8) ((0 ≤ i ∧ i < zlen k) ∧ K ds (pc + 1) L (vZ (σ.1 k i) :: r) σ)
  | .laload => zpIR st fun i c k r => zif (Nat.beq c 9) ((0 ≤ i ∧ i < zlen k) ∧ K ds (pc + 1) L (vL (σ.2 k i) :: r) σ)
  | .baload => zpIR st fun i c k r => zif (Nat.beq c 10) ((0 ≤ i ∧ i < zlen k) ∧ K ds (pc + 1) L (vZ (σ.1 k i) :: r) σ)
  | .aaload => zpIR st fun i c k r => zif (Nat.beq c 11) ((0 ≤ i ∧ i < zlen k) ∧ K ds (pc + 1) L (vR 2 (k + 1 + 2 * i.toNat) :: r) σ)
  | .iastore => zpVIR st fun v i c k r => zif (Nat.beq c 8) (zvI v fun z => (0 ≤ i ∧ i < zlen k) ∧ K ds (pc + 1) L r (uI σ k i z))
  | .bastore => zpVIR st fun v i c k r => zif (Nat.beq c 10) (zvI v fun z => (0 ≤ i ∧ i < zlen k ∧ (z = 0 ∨ z = 1)) ∧ K ds (pc + 1) L r (uI σ k i z))
  | .lastore => zpVIR st fun v i c k r => zif (Nat.beq c 9) (zvL v fun z => (0 ≤ i ∧ i < zlen k) ∧ K ds (pc + 1) L r (uL σ k i z))
  | _ => False
/-! what the views say -/
theorem zp1_i {st : List VV} {f : Int → List VV → Prop} (h : zp1 st f) : ∃ a r, st = vZ a :: r ∧ f a r := by
  unfold zp1 at h; split at h
  · exact ⟨_, _, rfl, h⟩
  · exact h.elim
theorem zp2_i {st : List VV} {f : Int → Int → List VV → Prop} (h : zp2 st f) : ∃ a b r, st = vZ b :: vZ a :: r ∧ f a b r := by
  unfold zp2 at h; split at h
  · exact ⟨_, _, _, rfl, h⟩
  · exact h.elim
theorem zpL1_i {st : List VV} {f : Int64 → List VV → Prop} (h : zpL1 st f) : ∃ a r, st = vL a :: r ∧ f a r := by
  unfold zpL1 at h; split at h
  · exact ⟨_, _, rfl, h⟩
  · exact h.elim
theorem zpL2_i {st : List VV} {f : Int64 → Int64 → List VV → Prop} (h : zpL2 st f) : ∃ a b r, st = vL b :: vL a :: r ∧ f a b r := by
  unfold zpL2 at h; split at h
  · exact ⟨_, _, _, rfl, h⟩
  · exact h.elim
theorem zpLI_i {st : List VV} {f : Int64 → Int → List VV → Prop} (h : zpLI st f) : ∃ a b r, st = vZ b :: vL a :: r ∧ f a b r := by
  unfold zpLI at h; split at h
  · exact ⟨_, _, _, rfl, h⟩
  · exact h.elim
theorem zpQ_i {st : List VV} {f : Option (Nat × Nat) → List VV → Prop} (h : zpQ st f) : ∃ q r, st = .inr (.inr q) :: r ∧ f q r := by
  unfold zpQ at h; split at h
  · exact ⟨_, _, rfl, h⟩
  · exact h.elim
theorem zpR_i {st : List VV} {f : Nat → Nat → List VV → Prop} (h : zpR st f) : ∃ c k r, st = vR c k :: r ∧ f c k r := by
  unfold zpR at h; split at h
  · exact ⟨_, _, _, rfl, h⟩
  · exact h.elim
theorem zpIR_i {st : List VV} {f : Int → Nat → Nat → List VV → Prop} (h : zpIR st f) : ∃ i c k r, st = vZ i :: vR c k :: r ∧ f i c k r := by
  unfold zpIR at h; split at h
  · exact ⟨_, _, _, _, rfl, h⟩
  · exact h.elim
theorem zpVR_i {st : List VV} {f : VV → Nat → Nat → List VV → Prop} (h : zpVR st f) : ∃ v c k r, st = v :: vR c k :: r ∧ f v c k r := by
  unfold zpVR at h; split at h
  · exact ⟨_, _, _, _, rfl, h⟩
  · exact h.elim
theorem zpVIR_i {st : List VV} {f : VV → Int → Nat → Nat → List VV → Prop} (h : zpVIR st f) : ∃ v i c k r, st = v :: vZ i :: vR c k :: r ∧ f v i c k r := by
  unfold zpVIR at h; split at h
  · exact ⟨_, _, _, _, _, rfl, h⟩
  · exact h.elim
theorem zld_i {L : List (Option VV)} {i : Nat} {f : VV → Prop} (h : zld L i f) : ∃ v, L[i]? = some (some v) ∧ f v := by
  unfold zld at h; split at h
  · exact ⟨_, by assumption, h⟩
  · exact h.elim
theorem zvI_i {v : VV} {f : Int → Prop} (h : zvI v f) : ∃ z, v = vZ z ∧ f z := by
  unfold zvI at h; split at h
  · exact ⟨_, rfl, h⟩
  · exact h.elim
theorem zvL_i {v : VV} {f : Int64 → Prop} (h : zvL v f) : ∃ z, v = vL z ∧ f z := by
  unfold zvL at h; split at h
  · exact ⟨_, rfl, h⟩
  · exact h.elim
theorem zvQ_i {v : VV} {f : Option (Nat × Nat) → Prop} (h : zvQ v f) : ∃ z, v = .inr (.inr z) ∧ f z := by
  unfold zvQ at h; split at h
  · exact ⟨_, rfl, h⟩
  · exact h.elim
theorem zop_i {α : Type} {o : Option α} {f : α → Prop} (h : zop o f) : ∃ x, o = some x ∧ f x := by
  unfold zop at h; split at h
  · exact ⟨_, rfl, h⟩
  · exact h.elim
theorem zif_i {b : Bool} {P : Prop} (h : zif b P) : b = true ∧ P := by
  unfold zif at h; split at h
  · exact ⟨rfl, h⟩
  · exact h.elim
theorem zbr_i {ds : List Nat} {tk nt : Prop} {kt kn : List Nat → Prop} (h : zbr ds tk nt kt kn) : (tk ∧ ∃ ds, kt ds) ∨ (nt ∧ ∃ ds, kn ds) := by
  unfold zbr at h; split at h
  · exact h.elim
  · exact Or.inr ⟨h.1, _, h.2⟩
  · exact Or.inl ⟨h.1, _, h.2⟩
