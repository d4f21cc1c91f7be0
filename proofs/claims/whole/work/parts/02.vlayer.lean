/-! The abstract layer: values, world, V: what a method does from a place on, whatever the machine's own parts are. -/
abbrev VV : Type := Int ⊕ (Int64 ⊕ Option (Nat × Nat))
abbrev vZ (z : Int) : VV := .inl z
abbrev vL (x : Int64) : VV := .inr (.inl x)
abbrev vR (c k : Nat) : VV := .inr (.inr (some (c, k)))
abbrev vN : VV := .inr (.inr none)
abbrev zSt : Type := (Nat → Int → Int) × (Nat → Int → Int64)
def tv (ad : Nat → Nat) : VV → Value
  | .inl z => .int (Int32.ofInt z)
  | .inr (.inl x) => .long x
  | .inr (.inr none) => .null
  | .inr (.inr (some q)) => .ref (ad q.2)
def uI (σ : zSt) (k : Nat) (j v : Int) : zSt := (fun a b => if a = k ∧ b = j then v else σ.1 a b, σ.2)
def uL (σ : zSt) (k : Nat) (j : Int) (v : Int64) : zSt := (σ.1, fun a b => if a = k ∧ b = j then v else σ.2 a b)
abbrev zr (a : Int) : Prop := -2147483648 ≤ a ∧ a < 2147483648
/-- the fields of a class, by its number in vwCl: (0, 0) int, (0, 1) boolean, (0, 2) a final boolean, (1, 0) long, (n + 2, c) a reference to the cell n further on, of kind c. Kinds: a class' number; 8 int rows, 9 long rows, 10 boolean rows, 11 rows of Sheets -/
def zfk : Nat → List (Nat × Nat)
  | 0 => [(3, 9), (4, 9), (0, 0), (1, 0), (1, 0)]
  | 1 => [(0, 0), (3, 8), (4, 8), (1, 0), (5, 8), (0, 0), (6, 8), (7, 8), (8, 8), (9, 8), (10, 8)]
  | 2 => [(3, 8), (0, 0), (0, 0)]
  | 3 => [(3, 8), (4, 8), (5, 8), (0, 0)]
  | 4 => [(0, 2), (3, 8), (0, 0)]
  | 5 => [(3, 4), (5, 4), (7, 1), (25, 0), (16, 1), (28, 0), (31, 3), (35, 11), (44, 9), (45, 8), (0, 1), (0, 0)]
  | 6 => [(3, 8), (4, 8), (0, 0), (5, 8), (6, 8), (7, 8), (0, 0), (8, 8), (0, 0), (9, 8), (10, 8), (11, 8), (0, 0), (12, 8), (13, 8), (14, 8), (0, 0), (0, 0), (0, 0), (0, 0), (15, 8), (16, 8), (17, 8), (18, 8), (19, 8), (20, 8), (21, 8), (22, 8), (23, 8), (0, 0), (24, 8), (25, 8), (26, 8), (27, 9), (28, 10), (29, 8), (30, 8), (31, 8), (32, 8), (0, 0)]
  | _ => []
/-- the kinds of the cells -/
def shL : List Nat := [5, 4, 8, 4, 8, 1, 8, 8, 8, 8, 8, 8, 8, 8, 1, 8, 8, 8, 8, 8, 8, 8, 8, 0, 9, 9, 0, 9, 9, 3, 8, 8, 8, 11, 2, 8, 2, 8, 2, 8, 2, 8, 9, 8, 6, 8, 8, 8, 8, 8, 8, 8, 8, 8, 8, 8, 8, 8, 8, 8, 8, 8, 8, 8, 8, 8, 8, 8, 8, 9, 10, 8, 8, 8, 8]
def shG (k : Nat) : Nat := shL.getD k 12
/-- the lengths of the cells that are rows -/
def zlL : List Int := [0, 0, 47, 0, 24, 0, 12, 12, 24, 9, 9, 9, 24, 24, 0, 12, 12, 24, 9, 9, 9, 24, 24, 0, 24, 24, 0, 24, 24, 0, 8, 8, 8, 4, 0, 60, 0, 60, 0, 60, 0, 60, 216, 256, 0, 2, 94, 13, 13, 13, 24, 9, 9, 9, 9, 9, 9, 13, 12, 12, 12, 288, 288, 288, 24, 2, 8, 8, 8, 240, 4, 4, 4, 240, 60]
def zlen (k : Nat) : Int := zlL.getD k 0
abbrev zFD : Type := va_G × Nat × (Nat → Nat) × (Nat → ClassId)
def zcf (ad : Nat → Nat) (σ : zSt) (k j : Nat) (q : Nat × Nat) : Value := match q.1 with
  | 0 => .int (Int32.ofInt (σ.1 k j))
  | 1 => .long (σ.2 k j)
  | n + 2 => .ref (ad (k + n))
def zce (ad : Nat → Nat) (tc : Nat → ClassId) (σ : zSt) (k c : Nat) : va_E := match c with
  | 8 => .inl (tc 0, (zlen k).toNat, .inl (fun j => Int32.ofInt (σ.1 k j)))
  | 9 => .inl (tc 1, (zlen k).toNat, .inr (.inl (fun j => σ.2 k j)))
  | 10 => .inl (tc 2, (zlen k).toNat, .inl (fun j => Int32.ofInt (σ.1 k j)))
  | 11 => .inl (tc 3, (zlen k).toNat, .inr (.inr (.inr (.inr (fun j => some (ad (k + 1 + 2 * j)))))))
  | c => .inr (c, (zfk c).mapIdx (fun j q => zcf ad σ k j q))
def zwl (G : zFD) (σ : zSt) : va_W := (List.range G.2.1).map (fun k => (G.2.2.1 k, zce G.2.2.1 G.2.2.2 σ k (shG k)))
def zty (G : zFD) : List (ClassId × FieldType) := [(G.2.2.2 0, .int), (G.2.2.2 1, .long), (G.2.2.2 2, .boolean), (G.2.2.2 3, .object "MiddleQueue$Sheet")]
def zwt (G : zFD) : VV → Prop
  | .inr (.inr (some q)) => q.2 < G.2.1 ∧ shG q.2 = q.1
  | _ => True
def zwts (G : zFD) (st : List VV) : Prop := ∀ v ∈ st, zwt G v
def zwtl (G : zFD) (L : List (Option VV)) : Prop := ∀ v, some v ∈ L → zwt G v
/-- a method: its name, its bytes, how many locals, what it answers, whose class it is (a number), its instructions with their targets -/
abbrev MI : Type := MethodName × ByteArray × Nat × Option FieldType × Nat × (Nat → Option (Instr × Nat))
def zown : Nat → String
  | 0 => RX0
  | 1 => RX1
  | 2 => RX2
  | 3 => RX3
  | 4 => RX4
  | 5 => RX5
  | 6 => RX6
  | 7 => RX7
  | _ => RJ6
def Cx (d : Nat) (Y : MI) (p : Program) (R : Room) (s : State) (m : MethodId) (args : Array Value) (meth : Method) (c : Code) (G : zFD) (A : Nat → Prop) : Prop :=
  p.tables.exec = Jvm.exec ∧ c.code = Y.2.1 ∧ c.maxLocals = Y.2.2.1 ∧ s.vm.findClass (zown Y.2.2.2.2.1) = some m.cls ∧ meth.sig.returnType = Y.2.2.2.1 ∧ meth.locks = false ∧ (∀ w ∈ z_tbl, w.before args s = true) ∧ (d ≤ R.frames ∧ 32 * d ≤ R.locals) ∧ va_K G.1 vwCl (zty G) s ∧ (G.2.1 = 44 ∨ G.2.1 = 75) ∧ ∀ q : Nat, s.heap.size ≤ q → A q
def zlm (ad : Nat → Nat) : Nat → List (Option VV) → List (Nat × Value)
  | _, [] => []
  | i, none :: t => zlm ad (i + 1) t
  | i, some v :: t => (i, tv ad v) :: zlm ad (i + 1) t
def zQ (post : Option VV → zSt → Prop) (G : zFD) (A : Nat → Prop) : Array Value → State → Outcome → State → Prop := fun _ st oc t =>
  (∃ (v : Option VV) (σ' : zSt), oc = .returned (v.map (tv G.2.2.1)) ∧ post v σ' ∧ (∀ w, v = some w → zwt G w) ∧ va_P G.1 vwCl (zwl G σ') t.heap ∧ va_D A (zwl G σ')) ∧ va_F A st t
def zV (l : Launch) (p : Program) (e : Env) (R : Room) (s : State) (m : MethodId) (args : Array Value) (below : List Frame) (meth : Method) (c : Code) (G : zFD) (A : Nat → Prop) (Y : MI) (post : Option VV → zSt → Prop) (pc : Nat) (L : List (Option VV)) (st : List VV) (σ : zSt) : Prop :=
  ∀ (H : Heap) (locs : List Loc) (ls : Array Slot), va_P G.1 vwCl (zwl G σ) H → va_D A (zwl G σ) → va_S A s.heap H locs → lv_has ls Y.2.2.1 (zlm G.2.2.1 0 L) → L.length = Y.2.2.1 → zwtl G L → zwts G st →
    W p l e R s m args below meth c H locs 0 0 (MQ below (zQ post G A) args s 0 0 A) (F0 m pc ls (st.map (tv G.2.2.1)))
def V (d : Nat) (Y : MI) (pc : Nat) (L : List (Option VV)) (st : List VV) (σ : zSt) (post : Option VV → zSt → Prop) : Prop :=
  ∀ (l : Launch) (p : Program) (e : Env) (R : Room) (s : State) (m : MethodId) (args : Array Value) (below : List Frame) (meth : Method) (c : Code) (G : zFD) (A : Nat → Prop), Cx d Y p R s m args meth c G A → zV l p e R s m args below meth c G A Y post pc L st σ
/-! locals -/
theorem zlm_mem {ad : Nat → Nat} {x : Nat × Value} : ∀ {L : List (Option VV)} {i : Nat}, x ∈ zlm ad i L ↔ ∃ (j : Nat) (v : VV), L[j]? = some (some v) ∧ x = (i + j, tv ad v)
  | [], i => by simp [zlm]
  | none :: t, i => by
    rw [zlm, zlm_mem (L := t)]
    constructor
    · rintro ⟨j, v, h, rfl⟩
      exact ⟨j + 1, v, h, by rw [show i + 1 + j = i + (j + 1) by omega]⟩
    · rintro ⟨j, v, h, rfl⟩
      cases j with
      | zero => simp at h
      | succ j => exact ⟨j, v, h, by rw [show i + 1 + j = i + (j + 1) by omega]⟩
  | some w :: t, i => by
    rw [zlm, List.mem_cons, zlm_mem (L := t)]
    constructor
    · rintro (rfl | ⟨j, v, h, rfl⟩)
      · exact ⟨0, w, rfl, rfl⟩
      · exact ⟨j + 1, v, h, by rw [show i + 1 + j = i + (j + 1) by omega]⟩
    · rintro ⟨j, v, h, rfl⟩
      cases j with
      | zero => simp at h; subst h; exact Or.inl rfl
      | succ j => exact Or.inr ⟨j, v, h, by rw [show i + 1 + j = i + (j + 1) by omega]⟩
theorem zl_at {ad : Nat → Nat} {ls : Array Slot} {n : Nat} {L : List (Option VV)} (h : lv_has ls n (zlm ad 0 L)) {i : Nat} {v : VV} (hi : L[i]? = some (some v)) : ls[i]? = some (.val (tv ad v)) := by
  have := h.2.2 (i, tv ad v) (zlm_mem.mpr ⟨i, v, hi, by rw [Nat.zero_add]⟩)
  exact this
/-- a long ahead of a place is lost when something is put there -/
def zlc1 (L : List (Option VV)) (j : Nat) (o : Option (Option VV)) : List (Option VV) := match o with
  | some (some (.inr (.inl _))) => L.set j none
  | _ => L
def zlclr (L : List (Option VV)) (i : Nat) : List (Option VV) := match i with
  | 0 => L
  | j + 1 => zlc1 L j L[j]?
def zlput (L : List (Option VV)) (i : Nat) (v : VV) : List (Option VV) := (zlclr L i).set i (some v)
def zlput2 (L : List (Option VV)) (i : Nat) (v : VV) : List (Option VV) := ((zlclr L i).set i (some v)).set (i + 1) none
theorem zlc1_len (L : List (Option VV)) (j : Nat) (o : Option (Option VV)) : (zlc1 L j o).length = L.length := by
  unfold zlc1; split
  · rw [List.length_set]
  · rfl
theorem zlclr_len (L : List (Option VV)) (i : Nat) : (zlclr L i).length = L.length := by
  cases i with
  | zero => rfl
  | succ j => exact zlc1_len L j _
theorem tv_cat2 {ad : Nat → Nat} {v : VV} : (tv ad v).category = 2 ↔ ∃ x, v = .inr (.inl x) := by
  rcases v with z | x | _ | q <;> simp [tv, Value.category]
theorem zlclr_get {L : List (Option VV)} {i j : Nat} {w : VV} (h : (zlclr L i)[j]? = some (some w)) : L[j]? = some (some w) ∧ ¬ (j + 1 = i ∧ ∃ x, w = .inr (.inl x)) := by
  cases i with
  | zero => exact ⟨h, fun q => by omega⟩
  | succ k =>
    replace h : (zlc1 L k L[k]?)[j]? = some (some w) := h
    unfold zlc1 at h
    split at h
    · rename_i x hx
      by_cases hj : j = k
      · subst hj
        have hlt : j < L.length := (List.getElem?_eq_some_iff.mp hx).1
        rw [List.getElem?_set_self hlt] at h
        simp at h
      · rw [List.getElem?_set_ne (Ne.symm hj)] at h
        exact ⟨h, fun q => hj (by omega)⟩
    · rename_i hx
      refine ⟨h, fun q => ?_⟩
      obtain ⟨q1, x, rfl⟩ := q
      have hjk : j = k := by omega
      subst hjk
      exact hx x h
theorem zl_put {ad : Nat → Nat} {n : Nat} {L : List (Option VV)} {i : Nat} {v : VV} {ls' : Array Slot} (hc : lv_has ls' n ((i, tv ad v) :: (zlm ad 0 L).filter (fun q => !(q.1 == i) && !(q.1 + 1 == i && q.2.category == 2)))) : lv_has ls' n (zlm ad 0 (zlput L i v)) := by
  refine ⟨hc.1, hc.2.1, fun q hq => hc.2.2 q ?_⟩
  obtain ⟨j, w, hj, rfl⟩ := zlm_mem.mp hq
  rw [Nat.zero_add]
  by_cases hji : j = i
  · subst hji
    unfold zlput at hj
    have hlt := (List.getElem?_eq_some_iff.mp hj).1
    rw [List.length_set] at hlt
    rw [List.getElem?_set_self hlt] at hj
    cases hj
    exact List.mem_cons_self
  · unfold zlput at hj
    rw [List.getElem?_set_ne (Ne.symm hji)] at hj
    obtain ⟨h1, h2⟩ := zlclr_get hj
    refine List.mem_cons_of_mem _ (List.mem_filter.mpr ⟨zlm_mem.mpr ⟨j, w, h1, by rw [Nat.zero_add]⟩, ?_⟩)
    have e1 : (j == i) = false := by simpa using hji
    have e2 : (j + 1 == i && (tv ad w).category == 2) = false := by
      rw [Bool.and_eq_false_iff]
      by_cases hk : j + 1 = i
      · exact Or.inr (by simpa using fun hcat => h2 ⟨hk, tv_cat2.mp hcat⟩)
      · exact Or.inl (by simpa using hk)
    simp only [e1, e2]
    rfl
theorem zl_put2 {ad : Nat → Nat} {n : Nat} {L : List (Option VV)} {i : Nat} {v : VV} {ls' : Array Slot} (hc : lv_has ls' n ((i, tv ad v) :: (zlm ad 0 L).filter (fun q => !(q.1 == i) && (!(q.1 == i + 1) && !(q.1 + 1 == i && q.2.category == 2))))) : lv_has ls' n (zlm ad 0 (zlput2 L i v)) := by
  refine ⟨hc.1, hc.2.1, fun q hq => hc.2.2 q ?_⟩
  obtain ⟨j, w, hj, rfl⟩ := zlm_mem.mp hq
  rw [Nat.zero_add]
  unfold zlput2 at hj
  by_cases hj1 : j = i + 1
  · subst hj1
    have hlt := (List.getElem?_eq_some_iff.mp hj).1
    rw [List.length_set] at hlt
    rw [List.getElem?_set_self hlt] at hj
    simp at hj
  · rw [List.getElem?_set_ne (Ne.symm hj1)] at hj
    by_cases hji : j = i
    · subst hji
      have hlt := (List.getElem?_eq_some_iff.mp hj).1
      rw [List.length_set] at hlt
      rw [List.getElem?_set_self hlt] at hj
      cases hj
      exact List.mem_cons_self
    · rw [List.getElem?_set_ne (Ne.symm hji)] at hj
      obtain ⟨h1, h2⟩ := zlclr_get hj
      refine List.mem_cons_of_mem _ (List.mem_filter.mpr ⟨zlm_mem.mpr ⟨j, w, h1, by rw [Nat.zero_add]⟩, ?_⟩)
      have e1 : (j == i) = false := by simpa using hji
      have e3 : (j == i + 1) = false := by simpa using hj1
      have e2 : (j + 1 == i && (tv ad w).category == 2) = false := by
        rw [Bool.and_eq_false_iff]
        by_cases hk : j + 1 = i
        · exact Or.inr (by simpa using fun hcat => h2 ⟨hk, tv_cat2.mp hcat⟩)
        · exact Or.inl (by simpa using hk)
      simp only [e1, e2, e3]
      rfl
theorem zwtl_clr {G : zFD} {L : List (Option VV)} (h : zwtl G L) (i : Nat) : zwtl G (zlclr L i) := by
  intro v hv
  obtain ⟨j, hj⟩ := List.getElem?_of_mem hv
  exact h v (List.mem_of_getElem? (zlclr_get hj).1)
theorem zwtl_put {G : zFD} {L : List (Option VV)} (h : zwtl G L) (i : Nat) {v : VV} (hv : zwt G v) : zwtl G (zlput L i v) := by
  intro w hw
  rcases List.mem_or_eq_of_mem_set hw with h1 | h1
  · exact zwtl_clr h i w h1
  · cases h1; exact hv
theorem zwtl_put2 {G : zFD} {L : List (Option VV)} (h : zwtl G L) (i : Nat) {v : VV} (hv : zwt G v) : zwtl G (zlput2 L i v) := by
  intro w hw
  rcases List.mem_or_eq_of_mem_set hw with h1 | h1
  · exact zwtl_put h i hv w h1
  · cases h1
/-! the world's cells -/
theorem zwl_get {G : zFD} {σ : zSt} {k : Nat} (hk : k < G.2.1) : (zwl G σ)[k]? = some (G.2.2.1 k, zce G.2.2.1 G.2.2.2 σ k (shG k)) := by
  simp [zwl, hk]
theorem zwl_set {G : zFD} {σ σ' : zSt} {k : Nat} {e : va_E} (he : zce G.2.2.1 G.2.2.2 σ' k (shG k) = e) (ho : ∀ q, q ≠ k → zce G.2.2.1 G.2.2.2 σ' q (shG q) = zce G.2.2.1 G.2.2.2 σ q (shG q)) : (zwl G σ).set k (G.2.2.1 k, e) = zwl G σ' := by
  apply List.ext_getElem?
  intro i
  by_cases hi : i = k
  · subst hi
    by_cases hl : i < G.2.1
    · rw [List.getElem?_set_self (by simpa [zwl] using hl), zwl_get hl, he]
    · rw [List.getElem?_eq_none (by simp [zwl]; omega), List.getElem?_eq_none (by simp [zwl]; omega)]
  · rw [List.getElem?_set_ne (Ne.symm hi)]
    by_cases hl : i < G.2.1
    · rw [zwl_get hl, zwl_get hl, ho i hi]
    · rw [List.getElem?_eq_none (by simp [zwl]; omega), List.getElem?_eq_none (by simp [zwl]; omega)]
theorem zcf_eq {ad : Nat → Nat} {σ σ' : zSt} {k : Nat} (h1 : ∀ b, σ'.1 k b = σ.1 k b) (h2 : ∀ b, σ'.2 k b = σ.2 k b) (j : Nat) (q : Nat × Nat) : zcf ad σ' k j q = zcf ad σ k j q := by
  unfold zcf
  split
  · rw [h1]
  · rw [h2]
  · rfl
theorem zce_eq {ad : Nat → Nat} {tc : Nat → ClassId} {σ σ' : zSt} {q c : Nat} (h1 : ∀ b, σ'.1 q b = σ.1 q b) (h2 : ∀ b, σ'.2 q b = σ.2 q b) : zce ad tc σ' q c = zce ad tc σ q c := by
  unfold zce
  split
  · simp only [h1]
  · simp only [h2]
  · simp only [h1]
  · rfl
  · have e : (fun j q' => zcf ad σ' q j q') = (fun j q' => zcf ad σ q j q') := by
      funext j q'
      exact zcf_eq h1 h2 j q'
    rw [e]
theorem zce_uI {ad : Nat → Nat} {tc : Nat → ClassId} {σ : zSt} {k q c : Nat} {j v : Int} (h : q ≠ k) : zce ad tc (uI σ k j v) q c = zce ad tc σ q c :=
  zce_eq (fun _ => if_neg (fun z => h z.1)) (fun _ => rfl)
theorem zce_uL {ad : Nat → Nat} {tc : Nat → ClassId} {σ : zSt} {k q c : Nat} {j : Int} {v : Int64} (h : q ≠ k) : zce ad tc (uL σ k j v) q c = zce ad tc σ q c :=
  zce_eq (fun _ => rfl) (fun _ => if_neg (fun z => h z.1))
