def R_law : String := "MiddleQueueLaw"
def lw_P (b : Addr) (xs : List Int32) (args : Array Value) (s : State) : Prop := args = #[.ref b] ∧ s.IntsAt b xs ∧ xs.length ≤ 3072 ∧ (Jvm.Cond.and given_1 narrow_1).before args s = true
def lw_Q (_ : Array Value) (s : State) (o : Outcome) (t : State) : Prop := o = .returned (some (.int 1)) ∧ Framed s o t [] 600000 7302250
def lw_Z (below : List Frame) (a : Array Value) (s : State) : State → Prop := fun t => ∃ o, t.status = .running ∧ Ended t below o ∧ lw_Q a s o t
/-- the law's own end, with 1 on the stack, nothing written that was there before, its room as the claim has it -/
theorem lw_ret {p : Program} {l : Launch} {e : Env} {s : State} {m : MethodId} {below : List Frame} {meth : Method} {c : Code} {b : Nat} (hx : p.tables.exec = Jvm.exec) (hb : c.code = code) (hr : meth.sig.returnType = ret) (hlocks : meth.locks = false) {pc : Nat} {H : Heap} {ls : Array Slot} (hdg : decode code pc = .ok (.ireturn, 1)) : W p l e room_1 s m #[Value.ref b] below meth c H [] 600000 7302250 (lw_Z below #[Value.ref b] s) (F0 m pc ls [.int 1]) := by
  intro T hT X
  obtain ⟨fs, hret, hrun, hended, hW, hframe⟩ := X.leave (v := some (.int 1)) (hlocks := hlocks) (fun h => by rw [hr] at h; cases h)
  have hmeth' : T.vm.method? m = some meth := X.method'
  refine ⟨T.setFrames fs, ?_, .returned (some (.int 1)), hrun, hended, rfl, ⟨_, rfl⟩, hW, hframe⟩
  jvm_step X.here [X.here.top, hx, hb, hdg, hmeth', hr, ret, narrow_b1]
  (try refine ⟨rfl, ?_⟩); (try refine ⟨rfl, ?_⟩)
  first | (intro acts; rw [hret _ acts rfl rfl rfl]) | rw [hret _ _ rfl rfl rfl]
  exact Steps.refl _
/-- what holds at the law's entry: the machine, the code, the tables' words (any of lw_tbl by 'hts w (by decide +kernel)'), the script of L ints xs at the cell b, what the Statement gives of the start (any of its parts by flat_of_before) -/
def lw_At (p : Program) (s : State) (m : MethodId) (meth : Method) (c : Code) (b L : Nat) (xs : Nat → Int32) : Prop :=
  p.tables.exec = Jvm.exec ∧ c.code = code ∧ meth.sig.returnType = ret ∧ c.maxLocals = 4 ∧ s.vm.findClass R_law = some m.cls ∧ (∀ w ∈ lw_tbl, w.before #[Value.ref b] s = true) ∧ va_X b L xs s s.heap ∧ b < s.heap.size ∧ meth.locks = false ∧ (Jvm.Cond.and given_1 narrow_1).before #[Value.ref b] s = true

/-! one case of the law's switch, whatever the two methods are -/
def lwD (pc : Nat) (i : Instr) (n : Nat) : Bool := decide (decode code pc = .ok (i, n))
theorem lwD_i {pc : Nat} {i : Instr} {n : Nat} (h : lwD pc i n = true) : decode code pc = .ok (i, n) := of_decide_eq_true h
def lwLds : Nat → Nat → Nat → Bool
  | _, _, 0 => true
  | pc, k, n + 1 => (lwD pc (.aload_n 0) 1 && lwD (pc + 1) (.iload_n 3) 1 && lwD (pc + 2) (.iconst (k : Int)) 1 && lwD (pc + 3) .iadd 1 && lwD (pc + 4) .iaload 1) && lwLds (pc + 5) (k + 1) n
theorem zla_Z (l : List Nat) (g : Nat → Int) : (zla (l.map (fun j => vZ (g j)))).length = l.length := by
  induction l with
  | nil => rfl
  | cons a r ih => show (zla (r.map (fun j => vZ (g j)))).length + 1 = _; rw [ih]; rfl
theorem lw_nI {k : Nat} (h : k ≤ 6) : Int32.ofInt (k : Int) = nI k := by
  rcases (show k = 0 ∨ k = 1 ∨ k = 2 ∨ k = 3 ∨ k = 4 ∨ k = 5 ∨ k = 6 by omega) with rfl | rfl | rfl | rfl | rfl | rfl | rfl <;> decide
theorem lw_loads {p : Program} {l : Launch} {e : Env} {s : State} {m : MethodId} {below : List Frame} {meth : Method} {c : Code} {b L : Nat} {xs : Nat → Int32} {H : Heap} {locs : List Loc} {ls : Array Slot} {i r1 r2 : Nat} (C0 : lw_At p s m meth c b L xs) (hL : L ≤ 3072) (hS : va_S (fun q : Nat => s.heap.size ≤ q) s.heap H locs) (hl : lv_has ls 4 [(3, .int (nI i)), (2, .ref r2), (1, .ref r1), (0, .ref b)]) (hi : i + 6 ≤ L) : ∀ (n k pc : Nat) (rest : List Value), lwLds pc k n = true → k + n ≤ 6 → W p l e room_1 s m #[Value.ref b] below meth c H locs 600000 7302250 (lw_Z below #[Value.ref b] s) (F0 m (pc + 5 * n) ls (((List.range' k n).map (fun j => Value.int (xs (i + j)))).reverse ++ rest)) → W p l e room_1 s m #[Value.ref b] below meth c H locs 600000 7302250 (lw_Z below #[Value.ref b] s) (F0 m (pc) ls (rest)) := by
  obtain ⟨hx, hb, hr, hml, hown, hts, hX, hbl, hlocks, hgv⟩ := C0
  have hbA : ¬ (fun q : Nat => s.heap.size ≤ q) b := Nat.not_le.mpr hbl
  intro n
  induction n with
  | zero => intro k pc rest _ _ h; exact h
  | succ n ih =>
    intro k pc rest hd hk h
    unfold lwLds at hd
    simp only [Bool.and_eq_true] at hd
    obtain ⟨⟨⟨⟨⟨d0, d1⟩, d2⟩, d3⟩, d4⟩, d5⟩ := hd
    refine lv_aload_n hx hb (lwD_i d0) rfl (lv_at hl 3 rfl) ?_
    refine lv_iload_n hx hb (lwD_i d1) rfl (lv_at hl 0 rfl) ?_
    refine lv_iconst (v := nI k) hx hb (lwD_i d2) (lw_nI (by omega)) ?_
    refine lv_iadd hx hb (lwD_i d3) ?_
    rw [nI_add]
    refine va_sld hx hb hX hbl hbA hS (vp_in_nI (by omega) (by omega)) (lwD_i d4) ?_
    rw [nI_clamp (by omega)]
    refine ih (k + 1) (pc + 5) _ d5 (by omega) ?_
    have e1 : pc + 5 + 5 * n = pc + 5 * (n + 1) := by omega
    have e2 : ((List.range' (k + 1) n).map (fun j => Value.int (xs (i + j)))).reverse ++ .int (xs (i + k)) :: rest = ((List.range' k (n + 1)).map (fun j => Value.int (xs (i + j)))).reverse ++ rest := by
      rw [List.range'_succ, List.map_cons, List.reverse_cons, List.append_assoc]; rfl
    rw [e1, e2]; exact h
/-- what is so at the law's places: the two sides hold the same state -/
def LW (p : Program) (l : Launch) (e : Env) (s : State) (m : MethodId) (below : List Frame) (meth : Method) (c : Code) (b : Nat) (G : zFD) (i pc : Nat) (S : zAb) : Prop := ∀ (σ : zSt) (H : Heap) (locs : List Loc) (ls : Array Slot), RC σ S → RM σ S → va_P G.1 vwCl (zwl G σ) H → va_D (fun q : Nat => s.heap.size ≤ q) (zwl G σ) → va_S (fun q : Nat => s.heap.size ≤ q) s.heap H locs → lv_has ls 4 [(3, .int (nI i)), (2, .ref (G.2.2.1 44)), (1, .ref (G.2.2.1 0)), (0, .ref b)] → W p l e room_1 s m #[Value.ref b] below meth c H locs 600000 7302250 (lw_Z below #[Value.ref b] s) (F0 m (pc) ls ([]))
def lwCase (P n i1 i2 : Nat) : Bool := lwD P (.aload_n 1) 1 && lwLds (P + 1) 1 n && lwD (P + 1 + 5 * n) (.invokevirtual i1) 3 && lwD (P + 1 + 5 * n + 3) (.aload_n 2) 1 && lwLds (P + 1 + 5 * n + 3 + 1) 1 n && lwD (P + 1 + 5 * n + 3 + 1 + 5 * n) (.invokevirtual i2) 3 && lwD (P + 1 + 5 * n + 3 + 1 + 5 * n + 3) (.if_icmp .eq (1265 - ((P + 1 + 5 * n + 3 + 1 + 5 * n + 3 : Nat) : Int))) 3
set_option maxHeartbeats 2000000 in
theorem law_case {p : Program} {l : Launch} {e : Env} {s : State} {m : MethodId} {below : List Frame} {meth : Method} {c : Code} {b L : Nat} {xs : Nat → Int32} {G : zFD} {n i1 i2 d1 d2 P : Nat} {Y1 Y2 : MI} (f : (Nat → Int) → zAb → zAb × Int) (C0 : lw_At p s m meth c b L xs) (hL : L ≤ 3072) (hG : G.2.1 = 75) (hK : va_K G.1 vwCl (zty G) s) (hc : lwCase P n i1 i2 = true) (hn : n ≤ 5) (ok1 : zokM Y1 n = true) (oi1 : zokI Y1 = true) (lk1 : Cond.methodLink R_law i1 Y1.1 ∈ z_tbl) (cl1 : Y1.1.cls = RX6) (ml1 : n + 1 ≤ Y1.2.2.1) (dd1 : d1 ≤ 12) (ok2 : zokM Y2 n = true) (oi2 : zokI Y2 = true) (lk2 : Cond.methodLink R_law i2 Y2.1 ∈ z_tbl) (cl2 : Y2.1.cls = RX7) (ml2 : n + 1 ≤ Y2.2.2.1) (dd2 : d2 ≤ 12)
    (h1 : ∀ (g : Nat → Int), (∀ j, zr (g j)) → ∀ (σ : zSt) (S : zAb), RC σ S → aOk S → Mc d1 Y1 (vR 5 0 :: (List.range' 1 n).map (fun j => vZ (g j))) σ (fun v σ' => v = some (vZ (f g S).2) ∧ dK σ σ' ∧ RC σ' (f g S).1))
    (h2 : ∀ (g : Nat → Int), (∀ j, zr (g j)) → ∀ (σ : zSt) (S : zAb), RM σ S → aOk S → Mc d2 Y2 (vR 6 44 :: (List.range' 1 n).map (fun j => vZ (g j))) σ (fun v σ' => v = some (vZ (f g S).2) ∧ cKeep σ σ' ∧ RM σ' (f g S).1))
    (h3 : ∀ (g : Nat → Int) (S : zAb), (∀ j, zr (g j)) → aOk S → aOk (f g S).1) :
    ∀ (i : Nat) (S : zAb), i + 6 ≤ L → aOk S → (∀ S' : zAb, aOk S' → LW p l e s m below meth c b G i 1265 S') → LW p l e s m below meth c b G i P S := by
  intro i S hi ho hend σ H locs ls hR hM hP hD hS hl
  have C1 := C0
  obtain ⟨hx, hb, hr, hml, hown, hts, hX, hbl, hlocks, hgv⟩ := C0
  have hts2 : ∀ w ∈ z_tbl, w.before #[Value.ref b] s = true := fun w hw => hts w (List.mem_filter.mp hw).1
  unfold lwCase at hc
  simp only [Bool.and_eq_true] at hc
  have hzr : ∀ j, zr ((fun j => (xs (i + j)).toInt) j) := fun j => ⟨Int32.le_toInt _, Int32.toInt_lt _⟩
  have hmap : ((List.range' 1 n).map (fun j => Value.int (xs (i + j)))) = ((List.range' 1 n).map (fun j => vZ (xs (i + j)).toInt)).map (tv G.2.2.1) := by
    rw [List.map_map]
    refine List.map_congr_left (fun j _ => ?_)
    show Value.int (xs (i + j)) = Value.int (Int32.ofInt (xs (i + j)).toInt)
    rw [Int32.ofInt_toInt]
  have hwl : ∀ k cc, k < 75 → shG k = cc → zwts G (vR cc k :: (List.range' 1 n).map (fun j => vZ (xs (i + j)).toInt)) := by
    intro k cc hk hkc v hv
    rcases List.mem_cons.mp hv with rfl | hv
    · exact ⟨by rw [hG]; exact hk, hkc⟩
    · obtain ⟨j, -, rfl⟩ := List.mem_map.mp hv
      exact True.intro
  have hln : ∀ k cc, (zla (vR cc k :: (List.range' 1 n).map (fun j => vZ (xs (i + j)).toInt))).length = n + 1 := by
    intro k cc
    show (zla ((List.range' 1 n).map (fun j => vZ (xs (i + j)).toInt))).length + 1 = _
    rw [zla_Z, List.length_range']
  have hla : ((List.range' 1 n).map (fun j => vZ (xs (i + j)).toInt)).length = n := by rw [List.length_map, List.length_range']
  have m1 := (zokM_i ok1).2.2.2.2.2.2.2
  have m2 := (zokM_i ok2).2.2.2.2.2.2.2
  obtain ⟨⟨⟨⟨⟨⟨c0, c1⟩, c2⟩, c3⟩, c4⟩, c5⟩, c6⟩ := hc
  refine lv_aload_n hx hb (lwD_i c0) rfl (lv_at hl 2 rfl) ?_
  refine lw_loads C1 hL hS hl hi n 1 (P + 1) _ c1 (by omega) ?_
  rw [hmap]
  refine z_vcall (k := 0) (c' := 5) (rest := []) (Y' := Y1) hx hb hml hown hts2 ok1 oi1 lk1 (by rw [cl1]; rfl) hla (Or.inr hG) (hwl 0 5 (by decide) rfl) hK hP hD hS (fun _ h => h) hl ⟨show d1 + 1 ≤ 14 by omega, show 8 + (Y1.2.2.1 + 11) + 32 * d1 ≤ 552 by omega⟩ ⟨Nat.le_refl _, Nat.le_refl _⟩ (Nat.le_of_ble_eq_true rfl) (by rw [hln]; exact ml1) (lwD_i c2) (h1 _ hzr σ S hR ho) (fun v σ1 H1 locs1 hp _ hP hD hS => ?_)
  obtain ⟨rfl, hk1, hR1⟩ := hp
  have hM1 : RM σ1 S := RM_high (fun a ha => (hk1 a ha).1) hM
  refine lv_aload_n hx hb (lwD_i c3) rfl (lv_at hl 1 rfl) ?_
  refine lw_loads C1 hL hS hl hi n 1 (P + 1 + 5 * n + 3 + 1) _ c4 (by omega) ?_
  rw [hmap]
  refine z_vcall (k := 44) (c' := 6) (rest := [tv G.2.2.1 (vZ (f (fun j => (xs (i + j)).toInt) S).2)]) (Y' := Y2) hx hb hml hown hts2 ok2 oi2 lk2 (by rw [cl2]; rfl) hla (Or.inr hG) (hwl 44 6 (by decide) rfl) hK hP hD hS (fun _ h => h) hl ⟨show d2 + 1 ≤ 14 by omega, show 8 + (Y2.2.2.1 + 11) + 32 * d2 ≤ 552 by omega⟩ ⟨Nat.le_refl _, Nat.le_refl _⟩ (Nat.le_of_ble_eq_true rfl) (by rw [hln]; exact ml2) (lwD_i c5) (h2 _ hzr σ1 S hM1 ho) (fun v σ2 H2 locs2 hp _ hP hD hS => ?_)
  obtain ⟨rfl, hk2, hM2⟩ := hp
  have hR2 : RC σ2 (f (fun j => (xs (i + j)).toInt) S).1 := RC_low (fun a ha => ⟨hk2.1 a ha, hk2.2 a ha⟩) hR1
  refine lv_icmp_eq (tgt := 1265) hx hb (lwD_i c6) (by omega) (fun _ => ?_) (fun q => absurd rfl q)
  exact hend _ (h3 _ S hzr ho) σ2 H2 locs2 ls hR2 hM2 hP hD hS hl
theorem lw_cmp0 (x : Int64) : lg_cmp x x = 0 := by unfold lg_cmp; simp
def lwCaseL (P n i1 i2 : Nat) : Bool := lwD P (.aload_n 1) 1 && lwLds (P + 1) 1 n && lwD (P + 1 + 5 * n) (.invokevirtual i1) 3 && lwD (P + 1 + 5 * n + 3) (.aload_n 2) 1 && lwLds (P + 1 + 5 * n + 3 + 1) 1 n && lwD (P + 1 + 5 * n + 3 + 1 + 5 * n) (.invokevirtual i2) 3 && (lwD (P + 1 + 5 * n + 3 + 1 + 5 * n + 3) .lcmp 1 && lwD (P + 1 + 5 * n + 3 + 1 + 5 * n + 3 + 1) (.ifCond .eq (1265 - ((P + 1 + 5 * n + 3 + 1 + 5 * n + 3 + 1 : Nat) : Int))) 3)
set_option maxHeartbeats 2000000 in
theorem law_caseL {p : Program} {l : Launch} {e : Env} {s : State} {m : MethodId} {below : List Frame} {meth : Method} {c : Code} {b L : Nat} {xs : Nat → Int32} {G : zFD} {n i1 i2 d1 d2 P : Nat} {Y1 Y2 : MI} (f : (Nat → Int) → zAb → zAb × Int64) (C0 : lw_At p s m meth c b L xs) (hL : L ≤ 3072) (hG : G.2.1 = 75) (hK : va_K G.1 vwCl (zty G) s) (hc : lwCaseL P n i1 i2 = true) (hn : n ≤ 5) (ok1 : zokM Y1 n = true) (oi1 : zokI Y1 = true) (lk1 : Cond.methodLink R_law i1 Y1.1 ∈ z_tbl) (cl1 : Y1.1.cls = RX6) (ml1 : n + 1 ≤ Y1.2.2.1) (dd1 : d1 ≤ 12) (ok2 : zokM Y2 n = true) (oi2 : zokI Y2 = true) (lk2 : Cond.methodLink R_law i2 Y2.1 ∈ z_tbl) (cl2 : Y2.1.cls = RX7) (ml2 : n + 1 ≤ Y2.2.2.1) (dd2 : d2 ≤ 12)
    (h1 : ∀ (g : Nat → Int), (∀ j, zr (g j)) → ∀ (σ : zSt) (S : zAb), RC σ S → aOk S → Mc d1 Y1 (vR 5 0 :: (List.range' 1 n).map (fun j => vZ (g j))) σ (fun v σ' => v = some (vL (f g S).2) ∧ dK σ σ' ∧ RC σ' (f g S).1))
    (h2 : ∀ (g : Nat → Int), (∀ j, zr (g j)) → ∀ (σ : zSt) (S : zAb), RM σ S → aOk S → Mc d2 Y2 (vR 6 44 :: (List.range' 1 n).map (fun j => vZ (g j))) σ (fun v σ' => v = some (vL (f g S).2) ∧ cKeep σ σ' ∧ RM σ' (f g S).1))
    (h3 : ∀ (g : Nat → Int) (S : zAb), (∀ j, zr (g j)) → aOk S → aOk (f g S).1) :
    ∀ (i : Nat) (S : zAb), i + 6 ≤ L → aOk S → (∀ S' : zAb, aOk S' → LW p l e s m below meth c b G i 1265 S') → LW p l e s m below meth c b G i P S := by
  intro i S hi ho hend σ H locs ls hR hM hP hD hS hl
  have C1 := C0
  obtain ⟨hx, hb, hr, hml, hown, hts, hX, hbl, hlocks, hgv⟩ := C0
  have hts2 : ∀ w ∈ z_tbl, w.before #[Value.ref b] s = true := fun w hw => hts w (List.mem_filter.mp hw).1
  unfold lwCaseL at hc
  simp only [Bool.and_eq_true] at hc
  have hzr : ∀ j, zr ((fun j => (xs (i + j)).toInt) j) := fun j => ⟨Int32.le_toInt _, Int32.toInt_lt _⟩
  have hmap : ((List.range' 1 n).map (fun j => Value.int (xs (i + j)))) = ((List.range' 1 n).map (fun j => vZ (xs (i + j)).toInt)).map (tv G.2.2.1) := by
    rw [List.map_map]
    refine List.map_congr_left (fun j _ => ?_)
    show Value.int (xs (i + j)) = Value.int (Int32.ofInt (xs (i + j)).toInt)
    rw [Int32.ofInt_toInt]
  have hwl : ∀ k cc, k < 75 → shG k = cc → zwts G (vR cc k :: (List.range' 1 n).map (fun j => vZ (xs (i + j)).toInt)) := by
    intro k cc hk hkc v hv
    rcases List.mem_cons.mp hv with rfl | hv
    · exact ⟨by rw [hG]; exact hk, hkc⟩
    · obtain ⟨j, -, rfl⟩ := List.mem_map.mp hv
      exact True.intro
  have hln : ∀ k cc, (zla (vR cc k :: (List.range' 1 n).map (fun j => vZ (xs (i + j)).toInt))).length = n + 1 := by
    intro k cc
    show (zla ((List.range' 1 n).map (fun j => vZ (xs (i + j)).toInt))).length + 1 = _
    rw [zla_Z, List.length_range']
  have hla : ((List.range' 1 n).map (fun j => vZ (xs (i + j)).toInt)).length = n := by rw [List.length_map, List.length_range']
  have m1 := (zokM_i ok1).2.2.2.2.2.2.2
  have m2 := (zokM_i ok2).2.2.2.2.2.2.2
  obtain ⟨⟨⟨⟨⟨⟨c0, c1⟩, c2⟩, c3⟩, c4⟩, c5⟩, c6⟩ := hc
  refine lv_aload_n hx hb (lwD_i c0) rfl (lv_at hl 2 rfl) ?_
  refine lw_loads C1 hL hS hl hi n 1 (P + 1) _ c1 (by omega) ?_
  rw [hmap]
  refine z_vcall (k := 0) (c' := 5) (rest := []) (Y' := Y1) hx hb hml hown hts2 ok1 oi1 lk1 (by rw [cl1]; rfl) hla (Or.inr hG) (hwl 0 5 (by decide) rfl) hK hP hD hS (fun _ h => h) hl ⟨show d1 + 1 ≤ 14 by omega, show 8 + (Y1.2.2.1 + 11) + 32 * d1 ≤ 552 by omega⟩ ⟨Nat.le_refl _, Nat.le_refl _⟩ (Nat.le_of_ble_eq_true rfl) (by rw [hln]; exact ml1) (lwD_i c2) (h1 _ hzr σ S hR ho) (fun v σ1 H1 locs1 hp _ hP hD hS => ?_)
  obtain ⟨rfl, hk1, hR1⟩ := hp
  have hM1 : RM σ1 S := RM_high (fun a ha => (hk1 a ha).1) hM
  refine lv_aload_n hx hb (lwD_i c3) rfl (lv_at hl 1 rfl) ?_
  refine lw_loads C1 hL hS hl hi n 1 (P + 1 + 5 * n + 3 + 1) _ c4 (by omega) ?_
  rw [hmap]
  refine z_vcall (k := 44) (c' := 6) (rest := [tv G.2.2.1 (vL (f (fun j => (xs (i + j)).toInt) S).2)]) (Y' := Y2) hx hb hml hown hts2 ok2 oi2 lk2 (by rw [cl2]; rfl) hla (Or.inr hG) (hwl 44 6 (by decide) rfl) hK hP hD hS (fun _ h => h) hl ⟨show d2 + 1 ≤ 14 by omega, show 8 + (Y2.2.2.1 + 11) + 32 * d2 ≤ 552 by omega⟩ ⟨Nat.le_refl _, Nat.le_refl _⟩ (Nat.le_of_ble_eq_true rfl) (by rw [hln]; exact ml2) (lwD_i c5) (h2 _ hzr σ1 S hM1 ho) (fun v σ2 H2 locs2 hp _ hP hD hS => ?_)
  obtain ⟨rfl, hk2, hM2⟩ := hp
  have hR2 : RC σ2 (f (fun j => (xs (i + j)).toInt) S).1 := RC_low (fun a ha => ⟨hk2.1 a ha, hk2.2 a ha⟩) hR1
  refine W.lcmp hx hb (lwD_i c6.1) ?_
  refine lv_if_eq (tgt := 1265) hx hb (lwD_i c6.2) (by omega) (fun _ => ?_) (fun q => absurd (lw_cmp0 _) q)
  exact hend _ (h3 _ S hzr ho) σ2 H2 locs2 ls hR2 hM2 hP hD hS hl
