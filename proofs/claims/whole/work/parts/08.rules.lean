/-! the rules of V: many steps at once, answers, calls -/
def wpN (Y : MI) : Nat → List Nat → Nat → List (Option VV) → List VV → zSt → (Nat → List (Option VV) → List VV → zSt → Prop) → Prop
  | 0, _, pc, L, st, σ, K => K pc L st σ
  | n + 1, ds, pc, L, st, σ, K => zop (Y.2.2.2.2.2 pc) fun q => st1 Y.2.2.2.2.1 q.1 q.2 ds pc L st σ (fun ds pc L st σ => wpN Y n ds pc L st σ K)
def zTok (Y : MI) : Prop := ∀ (pc : Nat) (q : Instr × Nat), Y.2.2.2.2.2 pc = some q → decode Y.2.1 pc = .ok (q.1, zsz q.1 q.2) ∧ zto pc q.1 q.2 = true
def zTab (n : Nat) (f : Nat → Option (Instr × Nat)) (pc : Nat) : Option (Instr × Nat) := bif Nat.blt pc n then f pc else none
def zchk (b : ByteArray) (f : Nat → Option (Instr × Nat)) (pc : Nat) : Bool := match f pc with
  | none => true
  | some q => decide (decode b pc = .ok (q.1, zsz q.1 q.2)) && zto pc q.1 q.2
theorem zTok_of {Y : MI} (n : Nat) (f : Nat → Option (Instr × Nat)) (h : Y.2.2.2.2.2 = zTab n f) (hc : (List.range n).all (zchk Y.2.1 f) = true) : zTok Y := by
  intro pc q hq
  rw [h] at hq
  unfold zTab at hq
  cases hb : Nat.blt pc n with
  | false => rw [hb] at hq; cases hq
  | true =>
    rw [hb] at hq
    have hq : f pc = some q := hq
    have h1 := List.all_eq_true.mp hc pc (List.mem_range.mpr (Nat.blt_eq.mp hb))
    unfold zchk at h1
    rw [hq] at h1
    simp only [Bool.and_eq_true, decide_eq_true_eq] at h1
    exact h1
theorem V_run {d : Nat} {Y : MI} {post : Option VV → zSt → Prop} (hT : zTok Y) : ∀ (n : Nat) (ds : List Nat) {pc : Nat} {L : List (Option VV)} {st : List VV} {σ : zSt}, wpN Y n ds pc L st σ (fun pc L st σ => V d Y pc L st σ post) → V d Y pc L st σ post
  | 0, _, _, _, _, _, h => h
  | n + 1, ds, pc, L, st, σ, h => by
    intro l p e R s m args below meth c G A C0
    replace h : zop (Y.2.2.2.2.2 pc) fun q => st1 Y.2.2.2.2.1 q.1 q.2 ds pc L st σ (fun ds pc L st σ => wpN Y n ds pc L st σ (fun pc L st σ => V d Y pc L st σ post)) := h
    obtain ⟨q, hq, h⟩ := zop_i h
    obtain ⟨hd, ht⟩ := hT pc q hq
    exact st1_ok C0 hd ht h (fun ds pc L st σ hk => V_run hT n ds hk l p e R s m args below meth c G A C0)
section RET
variable {d : Nat} {Y : MI} {post : Option VV → zSt → Prop} {pc t : Nat} {L : List (Option VV)} {σ : zSt}
theorem V_iret {z : Int} (hT : zTok Y) (ht : Y.2.2.2.2.2 pc = some (.ireturn, t)) (hr : Y.2.2.2.1 = some .int) (hp : post (some (vZ z)) σ) : V d Y pc L [vZ z] σ post := by
  intro l p e R s m args below meth c G A C0 H locs ls hP hD hS hl hn hL hW
  obtain ⟨hx, hb, hml, hown, hr2, hlocks, hts, hR, hK, hG, hA⟩ := C0
  exact W.iret (v := Int32.ofInt z) hx hb (hr2.trans hr) (fun t ht _ => ⟨⟨some (vZ z), σ, rfl, hp, fun w hw => by cases hw; trivial, by rw [ht]; exact hP, hD⟩, hS.F ht⟩) hS.2.2 (hT _ _ ht).1
theorem V_zret {z : Int} (hT : zTok Y) (ht : Y.2.2.2.2.2 pc = some (.ireturn, t)) (hr : Y.2.2.2.1 = some .boolean) (hz : z = 0 ∨ z = 1) (hp : post (some (vZ z)) σ) : V d Y pc L [vZ z] σ post := by
  intro l p e R s m args below meth c G A C0 H locs ls hP hD hS hl hn hL hW
  obtain ⟨hx, hb, hml, hown, hr2, hlocks, hts, hR, hK, hG, hA⟩ := C0
  exact W.zret (v := Int32.ofInt z) (ty := .boolean) hx hb (hr2.trans hr) (by rcases hz with rfl | rfl <;> decide) (fun t ht _ => ⟨⟨some (vZ z), σ, rfl, hp, fun w hw => by cases hw; trivial, by rw [ht]; exact hP, hD⟩, hS.F ht⟩) hS.2.2 (hT _ _ ht).1
theorem V_lret {x : Int64} (hT : zTok Y) (ht : Y.2.2.2.2.2 pc = some (.lreturn, t)) (hr : Y.2.2.2.1 = some .long) (hp : post (some (vL x)) σ) : V d Y pc L [vL x] σ post := by
  intro l p e R s m args below meth c G A C0 H locs ls hP hD hS hl hn hL hW
  obtain ⟨hx, hb, hml, hown, hr2, hlocks, hts, hR, hK, hG, hA⟩ := C0
  exact W.lret (v := x) hx hb (hr2.trans hr) (fun t ht _ => ⟨⟨some (vL x), σ, rfl, hp, fun w hw => by cases hw; trivial, by rw [ht]; exact hP, hD⟩, hS.F ht⟩) hS.2.2 (hT _ _ ht).1
theorem V_vret (hT : zTok Y) (ht : Y.2.2.2.2.2 pc = some (.return_, t)) (hr : Y.2.2.2.1 = none) (hp : post none σ) : V d Y pc L [] σ post := by
  intro l p e R s m args below meth c G A C0 H locs ls hP hD hS hl hn hL hW
  obtain ⟨hx, hb, hml, hown, hr2, hlocks, hts, hR, hK, hG, hA⟩ := C0
  exact W.vret hx hb (hr2.trans hr) (fun t ht _ => ⟨⟨none, σ, rfl, hp, fun w hw => (by cases hw), by rw [ht]; exact hP, hD⟩, hS.F ht⟩) hS.2.2 (hT _ _ ht).1
theorem V_aret {q : Option (Nat × Nat)} {nm : String} (hT : zTok Y) (ht : Y.2.2.2.2.2 pc = some (.areturn, t)) (hr : Y.2.2.2.1 = some (.object nm)) (hp : post (some (.inr (.inr q))) σ) : V d Y pc L [.inr (.inr q)] σ post := by
  intro l p e R s m args below meth c G A C0 H locs ls hP hD hS hl hn hL hW
  obtain ⟨hx, hb, hml, hown, hr2, hlocks, hts, hR, hK, hG, hA⟩ := C0
  exact W.aret (v := tv G.2.2.1 (.inr (.inr q))) hx hb (hr2.trans hr) (Or.inl ⟨nm, rfl⟩) (by cases q with | none => exact Or.inl rfl | some q => exact Or.inr ⟨_, rfl⟩) (fun t ht _ => ⟨⟨some (.inr (.inr q)), σ, rfl, hp, fun w hw => by cases hw; exact zw_h hW, by rw [ht]; exact hP, hD⟩, hS.F ht⟩) hS.2.2 (hT _ _ ht).1
end RET
/-! calls -/
def zla : List VV → List (Option VV)
  | [] => []
  | .inr (.inl x) :: r => some (.inr (.inl x)) :: none :: zla r
  | v :: r => some v :: zla r
def zargs (n : Nat) (a : List VV) : List (Option VV) := zla a ++ List.replicate (n - (zla a).length) none
def Mc (d : Nat) (Y : MI) (a : List VV) (σ : zSt) (post : Option VV → zSt → Prop) : Prop := V d Y 0 (zargs Y.2.2.1 a) [] σ post
theorem zlm_none (ad : Nat → Nat) : ∀ (k i : Nat), zlm ad i (List.replicate k none) = []
  | 0, _ => rfl
  | k + 1, i => zlm_none ad k (i + 1)
theorem zlm_zla (ad : Nat → Nat) (k : Nat) : ∀ (a : List VV) (i : Nat), zlm ad i (zla a ++ List.replicate k none) = lv_args i (a.map (tv ad))
  | [], i => zlm_none ad k i
  | .inl z :: r, i => by
    show (i, tv ad (.inl z)) :: zlm ad (i + 1) (zla r ++ List.replicate k none) = (i, tv ad (.inl z)) :: lv_args (i + 1) (r.map (tv ad))
    rw [zlm_zla ad k r]
  | .inr (.inl x) :: r, i => by
    show (i, tv ad (.inr (.inl x))) :: zlm ad (i + 2) (zla r ++ List.replicate k none) = (i, tv ad (.inr (.inl x))) :: lv_args (i + 2) (r.map (tv ad))
    rw [zlm_zla ad k r]
  | .inr (.inr none) :: r, i => by
    show (i, tv ad (.inr (.inr none))) :: zlm ad (i + 1) (zla r ++ List.replicate k none) = (i, tv ad (.inr (.inr none))) :: lv_args (i + 1) (r.map (tv ad))
    rw [zlm_zla ad k r]
  | .inr (.inr (some q)) :: r, i => by
    show (i, tv ad (.inr (.inr (some q)))) :: zlm ad (i + 1) (zla r ++ List.replicate k none) = (i, tv ad (.inr (.inr (some q)))) :: lv_args (i + 1) (r.map (tv ad))
    rw [zlm_zla ad k r]
theorem zla_len (ad : Nat → Nat) : ∀ a : List VV, (lg_sl (a.map (tv ad))).length = (zla a).length
  | [] => rfl
  | .inl z :: r => by
    show ([Slot.val (tv ad (.inl z))] ++ lg_sl (r.map (tv ad))).length = (some (.inl z) :: zla r).length
    rw [List.length_append, zla_len ad r, List.length_cons, Nat.add_comm]; rfl
  | .inr (.inl x) :: r => by
    show ([Slot.val (tv ad (.inr (.inl x))), Slot.second] ++ lg_sl (r.map (tv ad))).length = (some (.inr (.inl x)) :: none :: zla r).length
    rw [List.length_append, zla_len ad r, List.length_cons, List.length_cons, Nat.add_comm]; rfl
  | .inr (.inr none) :: r => by
    show ([Slot.val (tv ad (.inr (.inr none)))] ++ lg_sl (r.map (tv ad))).length = (some (.inr (.inr none)) :: zla r).length
    rw [List.length_append, zla_len ad r, List.length_cons, Nat.add_comm]; rfl
  | .inr (.inr (some q)) :: r => by
    show ([Slot.val (tv ad (.inr (.inr (some q))))] ++ lg_sl (r.map (tv ad))).length = (some (.inr (.inr (some q))) :: zla r).length
    rw [List.length_append, zla_len ad r, List.length_cons, Nat.add_comm]; rfl
theorem zla_mem {v : VV} : ∀ {a : List VV}, some v ∈ zla a → v ∈ a
  | [], h => by cases h
  | .inl z :: r, h => by
    rcases List.mem_cons.mp h with h | h
    · cases h; exact List.mem_cons_self
    · exact List.mem_cons_of_mem _ (zla_mem h)
  | .inr (.inl x) :: r, h => by
    rcases List.mem_cons.mp h with h | h
    · cases h; exact List.mem_cons_self
    · rcases List.mem_cons.mp h with h | h
      · cases h
      · exact List.mem_cons_of_mem _ (zla_mem h)
  | .inr (.inr none) :: r, h => by
    rcases List.mem_cons.mp h with h | h
    · cases h; exact List.mem_cons_self
    · exact List.mem_cons_of_mem _ (zla_mem h)
  | .inr (.inr (some q)) :: r, h => by
    rcases List.mem_cons.mp h with h | h
    · cases h; exact List.mem_cons_self
    · exact List.mem_cons_of_mem _ (zla_mem h)
abbrev zws (Y : MI) : List Cond := .code Y.1 Y.2.1 Y.2.2.1 Y.2.2.2.1 :: z_tbl
abbrev zrm (d : Nat) : Room := { frames := d, cells := 0, slots := 0, locals := 32 * d }
abbrev zPc (G : zFD) (σ : zSt) (a : List VV) (sz : Nat) : Array Value → State → Prop := va_Pc (a.map (tv G.2.2.1)) (fun U => U.heap.size = sz ∧ va_P G.1 vwCl (zwl G σ) U.heap ∧ va_K G.1 vwCl (zty G) U ∧ va_D (fun _ => True) (zwl G σ))
/-- what the tables say of a method -/
def zokM (Y : MI) (n : Nat) : Bool := decide (Cond.code Y.1 Y.2.1 Y.2.2.1 Y.2.2.2.1 ∈ z_tbl) && decide (Cond.initialized Y.1.cls ∈ z_tbl) && decide (Y.1.cls ≠ "java/lang/invoke/MethodHandle") && decide (Y.1.cls ≠ "java/lang/invoke/VarHandle") && decide ((parseMethodDescriptor Y.1.desc).map (fun d => d.parameters.length) = some n) && plainName Y.1.cls && decide (Y.1.cls = zown Y.2.2.2.2.1) && Nat.ble Y.2.2.1 13
def zokI (Y : MI) : Bool := decide (Cond.instanceMethod Y.1 ∈ z_tbl) && decide (Cond.selects Y.1.cls Y.1 Y.1 ∈ z_tbl)
def zokS (Y : MI) : Bool := decide (Cond.static Y.1 ∈ z_tbl)
theorem zokM_i {Y : MI} {n : Nat} (h : zokM Y n = true) : Cond.code Y.1 Y.2.1 Y.2.2.1 Y.2.2.2.1 ∈ z_tbl ∧ Cond.initialized Y.1.cls ∈ z_tbl ∧ Y.1.cls ≠ "java/lang/invoke/MethodHandle" ∧ Y.1.cls ≠ "java/lang/invoke/VarHandle" ∧ (parseMethodDescriptor Y.1.desc).map (fun d => d.parameters.length) = some n ∧ plainName Y.1.cls = true ∧ Y.1.cls = zown Y.2.2.2.2.1 ∧ Y.2.2.1 ≤ 13 := by
  unfold zokM at h
  simp only [Bool.and_eq_true, decide_eq_true_eq] at h
  obtain ⟨⟨⟨⟨⟨⟨⟨h1, h2⟩, h3⟩, h4⟩, h5⟩, h6⟩, h7⟩, h8⟩ := h
  exact ⟨h1, h2, h3, h4, h5, h6, h7, Nat.le_of_ble_eq_true h8⟩
theorem V_met {d n : Nat} {Y : MI} {a : List VV} {σ : zSt} {post : Option VV → zSt → Prop} (hok : zokM Y n = true) (hlen : (zla a).length ≤ Y.2.2.1) (h : Mc d Y a σ post) (l : Launch) (G : zFD) (hG : G.2.1 = 44 ∨ G.2.1 = 75) (hwt : zwts G a) (sz : Nat) :
    Met l Y.1 (zws Y) (zrm d) (zPc G σ a sz) (zQ post G (va_A (zwl G σ) sz)) 0 0 (va_A (zwl G σ) sz) := by
  obtain ⟨-, -, -, -, -, hpl, hcls, -⟩ := zokM_i hok
  refine Met.ofW (cc := Y.2.1) (maxL := Y.2.2.1) (ret := Y.2.2.2.1) hpl rfl ?_
  intro p e s m args below meth c s₁ B hml hv
  obtain ⟨rfl, hsz, hP, hK, hD0⟩ := hv
  subst hsz
  have hts := atoms_spec (ws := zws Y) B.pre
  have hown : s.vm.findClass Y.1.cls = some m.cls := findClass_of_methodNamed B.named
  rw [hcls] at hown
  have hl := lv_entry (a.map (tv G.2.2.1)) (n := Y.2.2.1) (by rw [zla_len]; exact hlen)
  rw [lg_entry_eq]
  rw [zla_len] at hl ⊢
  have hl2 : lv_has ((lg_sl (a.map (tv G.2.2.1)) ++ List.replicate (Y.2.2.1 - (zla a).length) Slot.unset).toArray) Y.2.2.1 (zlm G.2.2.1 0 (zargs Y.2.2.1 a)) := by
    rw [zargs, zlm_zla]; exact hl
  refine h l p e _ s m _ below meth c G _ ⟨B.exec, B.bytes, hml, hown, B.returns, B.notSynchronized, fun w hw => hts w (List.mem_cons_of_mem _ hw), ⟨Nat.le_refl _, Nat.le_refl _⟩, hK, hG, fun q hq => Or.inr hq⟩ s.heap [] _ hP hD0.self va_S.rf hl2 ?_ ?_ (fun v hv => absurd hv List.not_mem_nil)
  · unfold zargs
    rw [List.length_append, List.length_replicate]
    omega
  · intro v hv
    unfold zargs at hv
    rcases List.mem_append.mp hv with h1 | h1
    · exact hwt v (zla_mem h1)
    · have := List.eq_of_mem_replicate h1
      cases this
def zcat (st : List VV) : Nat := match st with
  | [] => 0
  | .inr (.inl _) :: r => 2 + zcat r
  | _ :: r => 1 + zcat r
theorem zcat_ok (ad : Nat → Nat) : ∀ st : List VV, ((st.map (tv ad)).map fun v => v.category).sum = zcat st
  | [] => rfl
  | .inl z :: r => by
    show 1 + ((r.map (tv ad)).map fun v => v.category).sum = 1 + zcat r
    rw [zcat_ok ad r]
  | .inr (.inl x) :: r => by
    show 2 + ((r.map (tv ad)).map fun v => v.category).sum = 2 + zcat r
    rw [zcat_ok ad r]
  | .inr (.inr none) :: r => by
    show 1 + ((r.map (tv ad)).map fun v => v.category).sum = 1 + zcat r
    rw [zcat_ok ad r]
  | .inr (.inr (some q)) :: r => by
    show 1 + ((r.map (tv ad)).map fun v => v.category).sum = 1 + zcat r
    rw [zcat_ok ad r]
theorem z_goodIn {Y : MI} (h : Cond.code Y.1 Y.2.1 Y.2.2.1 Y.2.2.2.1 ∈ z_tbl) : GoodIn z_tbl (zws Y) := by
  intro w hw
  rcases List.mem_cons.mp hw with rfl | hw
  · exact ⟨h, z_good h⟩
  · exact ⟨hw, z_good hw⟩
theorem zPc_blind {G : zFD} {σ : zSt} {a : List VV} {sz : Nat} : FrameBlind (zPc G σ a sz) := fun a U g mk q => by
  obtain ⟨q0, q1, qP, qK, qD⟩ := q
  exact ⟨q0, q1, qP, va_K.moved (u := U) (U := U.calling g mk a) (Vm.Alike.refl U.vm) qK, qD⟩
theorem va_A_in {G : zFD} {σ : zSt} {A : Nat → Prop} {H0 H : Heap} {locs : List Loc} (hD : va_D A (zwl G σ)) (hS : va_S A H0 H locs) (hA : ∀ q : Nat, H0.size ≤ q → A q) : ∀ q, va_A (zwl G σ) H.size q → A q := by
  intro q h
  rcases h with ⟨k, e, h⟩ | h
  · exact hD.2 k (q, e) h
  · exact hA q (Nat.le_trans hS.1 h)
theorem zmap_toList {ad : Nat → Nat} {v : Option VV} {r : List VV} : (v.map (tv ad)).toList ++ r.map (tv ad) = (v.toList ++ r).map (tv ad) := by
  cases v <;> rfl
section CALL
variable {d d' n idx t pc : Nat} {Y Y' : MI} {post post' : Option VV → zSt → Prop} {L : List (Option VV)} {st rest a : List VV} {σ : zSt}
/-- what is behind a call -/
theorem z_behind {l : Launch} {p : Program} {e : Env} {R : Room} {s : State} {m : MethodId} {args : Array Value} {below : List Frame} {meth : Method} {c : Code} {G : zFD} {A : Nat → Prop} {H : Heap} {locs : List Loc} {ls : Array Slot} {aa : Array Value}
    (C0 : Cx d Y p R s m args meth c G A) (hD : va_D A (zwl G σ)) (hS : va_S A s.heap H locs) (hl : lv_has ls Y.2.2.1 (zlm G.2.2.1 0 L)) (hn : L.length = Y.2.2.1) (hL : zwtl G L) (hW : zwts G rest)
    (hrun : va_Run p l e R s m args below meth c H locs 0 0 0 0 (F0 m pc ls (st.map (tv G.2.2.1))) (rest.map (tv G.2.2.1)) (zQ post' G (va_A (zwl G σ) H.size) aa) (va_A (zwl G σ) H.size))
    (kk : ∀ v σ', post' v σ' → V d Y (pc + 3) L (v.toList ++ rest) σ' post) :
    W p l e R s m args below meth c H locs 0 0 (MQ below (zQ post G A) args s 0 0 A) (F0 m pc ls (st.map (tv G.2.2.1))) := by
  have hAin := va_A_in hD hS C0.2.2.2.2.2.2.2.2.2.2
  intro T hT2 X
  obtain ⟨v, st₀, t1, T', L2, h0, X', hL2, e1, e2, ⟨⟨v', σ', hv, hp, hwt, hP1, hD1⟩, hz, hk1⟩, stp⟩ := hrun T hT2 X
  cases hv
  rw [h0] at hz hk1
  have hst : ∀ w ∈ v'.toList ++ rest, zwt G w := by
    intro w hw
    rcases List.mem_append.mp hw with h1 | h1
    · exact hwt w (by simpa using h1)
    · exact hW w h1
  have hk2 := kk v' σ' hp l p e R s m args below meth c G A C0 T'.heap (locs ++ L2) ls (by rw [e1]; exact hP1) (hD1.weaken (fun k q _ h => hAin q.1 h))
    ⟨Nat.le_trans hS.1 (by rw [e1]; exact hz), fun q h1 h2 => by rw [e1, hk1 q (Nat.lt_of_lt_of_le h1 hS.1) (fun z => h2 (hAin q z))]; exact hS.2.1 q h1 h2, fun q hq => by
      rcases List.mem_append.mp hq with h | h
      · exact hS.2.2 q h
      · exact hAin _ (hL2 q h)⟩ hl hn hL hst
  rw [← zmap_toList] at hk2
  obtain ⟨t2, a1, b1⟩ := hk2 T' rfl X'
  exact ⟨t2, stp t2 a1, b1⟩
theorem V_callV {c k : Nat} (hT : zTok Y) (hti : Y.2.2.2.2.2 pc = some (.invokevirtual idx, t)) (hok : zokM Y' n = true) (hoi : zokI Y' = true) (hlk : Cond.methodLink (zown Y.2.2.2.2.1) idx Y'.1 ∈ z_tbl) (hcl : (vwCl[c]?).map (fun q => q.1) = some Y'.1.cls) (han : a.length = n) (hst : st = a.reverse ++ vR c k :: rest) (hd : d' + 1 ≤ d) (hcat : zcat rest ≤ 8) (hlen : (zla (vR c k :: a)).length ≤ Y'.2.2.1)
    (hc : Mc d' Y' (vR c k :: a) σ post') (kk : ∀ v σ', post' v σ' → V d Y (pc + 3) L (v.toList ++ rest) σ' post) : V d Y pc L st σ post := by
  subst hst
  intro l p e R s m args below meth cc G A C0 H locs ls hP hD hS hl hn hL hW
  obtain ⟨hx, hb, hml, hown, hr2, hlocks, hts, hR, hK, hG, hA⟩ := id C0
  obtain ⟨ho1, ho2, ho3, ho4, ho5, ho6, ho7, ho8⟩ := zokM_i hok
  unfold zokI at hoi
  simp only [Bool.and_eq_true, decide_eq_true_eq] at hoi
  have hwa : zwts G (vR c k :: a) := by
    intro w hw
    rcases List.mem_cons.mp hw with rfl | h
    · exact hW _ (List.mem_append_right _ List.mem_cons_self)
    · exact hW _ (List.mem_append_left _ (List.mem_reverse.mpr h))
  have hwk : k < G.2.1 ∧ shG k = c := hwa _ List.mem_cons_self
  have hwr : zwts G rest := fun w hw => hW w (List.mem_append_right _ (List.mem_cons_of_mem _ hw))
  cases hvc : vwCl[c]? with
  | none => rw [hvc] at hcl; cases hcl
  | some q =>
    rw [hvc] at hcl
    have hq1 : q.1 = Y'.1.cls := Option.some.inj hcl
    obtain ⟨C, TT, N⟩ := q
    have hc8 := (zcl_ok hvc).1
    have hcell : (zwl G σ)[k]? = some (G.2.2.1 k, .inr (c, (zfk c).mapIdx (fun j q => zcf G.2.2.1 σ k j q))) := by rw [zwl_get hwk.1, hwk.2, zce_obj hc8]
    have hM := V_met hok hlen hc l G hG hwa H.size
    have hrecv := va_recv hK hP hvc hcell
    have hcb : CallB R s args (zown Y.2.2.2.2.1) idx Y'.1 Y'.2.1 Y'.2.2.1 Y'.2.2.2.1 (zws Y') (zrm d') 0 0 n := callB_of n hts (z_goodIn ho1) rfl rfl rfl (hts _ ho2) (hts _ hlk) ⟨ho3, ho4, ho5⟩ ⟨by show d' + 1 ≤ R.frames; omega, by show 8 + (Y'.2.2.1 + 11) + 32 * d' ≤ R.locals; omega⟩
    have hrun := va_runV (C := C) (As := a.map (tv G.2.2.1)) (rest := rest.map (tv G.2.2.1)) (g := F0 m pc ls ((a.reverse ++ vR c k :: rest).map (tv G.2.2.1))) (cells := 0) (slots := 0) (l := l) (e := e) (below := below) (meth := meth) (locs := locs) ⟨hx, hb, hml, hown, hts⟩ hM ⟨hcb, hts _ hoi.1, by have h9 := hts _ hoi.2; rw [← hq1] at h9; exact h9⟩
      ⟨zPc_blind, hrecv, fun U hU hWW => ⟨rfl, by rw [hU], by rw [hU]; exact hP, va_K.moved hWW.alike hK, hD.weaken (fun _ _ _ _ => trivial)⟩⟩ rfl (by rw [List.length_map]; exact han) hl.1 (by simp [tv, List.map_reverse]) (lv_room (by rw [zcat_ok]; exact hcat)) (hT _ _ hti).1 ⟨Nat.zero_le _, Nat.zero_le _⟩
    exact z_behind C0 hD hS hl hn hL hwr hrun kk
theorem V_callS (hT : zTok Y) (hti : Y.2.2.2.2.2 pc = some (.invokestatic idx, t)) (hok : zokM Y' n = true) (hoi : zokS Y' = true) (hlk : Cond.methodLink (zown Y.2.2.2.2.1) idx Y'.1 ∈ z_tbl) (han : a.length = n) (hst : st = a.reverse ++ rest) (hd : d' + 1 ≤ d) (hcat : zcat rest ≤ 8) (hlen : (zla a).length ≤ Y'.2.2.1)
    (hc : Mc d' Y' a σ post') (kk : ∀ v σ', post' v σ' → V d Y (pc + 3) L (v.toList ++ rest) σ' post) : V d Y pc L st σ post := by
  subst hst
  intro l p e R s m args below meth cc G A C0 H locs ls hP hD hS hl hn hL hW
  obtain ⟨hx, hb, hml, hown, hr2, hlocks, hts, hR, hK, hG, hA⟩ := id C0
  obtain ⟨ho1, ho2, ho3, ho4, ho5, ho6, ho7, ho8⟩ := zokM_i hok
  unfold zokS at hoi
  simp only [decide_eq_true_eq] at hoi
  have hwa : zwts G a := fun w h => hW _ (List.mem_append_left _ (List.mem_reverse.mpr h))
  have hwr : zwts G rest := fun w hw => hW w (List.mem_append_right _ hw)
  have hM := V_met hok hlen hc l G hG hwa H.size
  have hcb : CallB R s args (zown Y.2.2.2.2.1) idx Y'.1 Y'.2.1 Y'.2.2.1 Y'.2.2.2.1 (zws Y') (zrm d') 0 0 n := callB_of n hts (z_goodIn ho1) rfl rfl rfl (hts _ ho2) (hts _ hlk) ⟨ho3, ho4, ho5⟩ ⟨by show d' + 1 ≤ R.frames; omega, by show 8 + (Y'.2.2.1 + 11) + 32 * d' ≤ R.locals; omega⟩
  have hrun := va_runS (As := a.map (tv G.2.2.1)) (rest := rest.map (tv G.2.2.1)) (g := F0 m pc ls ((a.reverse ++ rest).map (tv G.2.2.1))) (cells := 0) (slots := 0) (l := l) (e := e) (below := below) (meth := meth) (locs := locs) ⟨hx, hb, hml, hown, hts⟩ hM ⟨hcb, hts _ hoi⟩
    ⟨zPc_blind, fun U hU hWW => ⟨rfl, by rw [hU], by rw [hU]; exact hP, va_K.moved hWW.alike hK, hD.weaken (fun _ _ _ _ => trivial)⟩⟩ rfl (by rw [List.length_map]; exact han) hl.1 (by simp [tv, List.map_reverse]) (lv_room (by rw [zcat_ok]; exact hcat)) (hT _ _ hti).1 ⟨Nat.zero_le _, Nat.zero_le _⟩
  exact z_behind C0 hD hS hl hn hL hwr hrun kk
end CALL
