/-- the rows of numbers that the system makes -/
abbrev tys3 (tc : Nat → ClassId) : List (ClassId × FieldType) := [(tc 0, .int), (tc 1, .long), (tc 2, .boolean)]
theorem z_newa {p : Program} {l : Launch} {e : Env} {R : Room} {s : State} {m : MethodId} {args : Array Value} {below : List Frame} {meth : Method} {c : Code} {H : Heap} {locs : List Loc} {cells slots : Nat} {Q : State → Prop} {pc : Nat} {ls : Array Slot} {rest : List Value} {cc : ByteArray} {D : va_G} {ws : va_W} {A : Nat → Prop} {H0 : Heap} {tc : Nat → ClassId}
    (hx : p.tables.exec = Jvm.exec) (hb : c.code = cc) {atype : ArrayType} (harr : (Cond.arrayClass (newarray.typeOf atype)).before args s = true) {ty : FieldType} (hty : newarray.typeOf atype = ty) (hK : va_K D vwCl (tys3 tc) s) (i : Nat) (hi : (tys3 tc)[i]? = some (tc i, ty)) (hra : ∀ cA, va_RA s cA ty → s.vm.findClass ("[" ++ ty.toString) = some cA) (hP : va_P D vwCl ws H) (hD : va_D A ws) (hS : va_S A H0 H locs) (hA : ∀ q, H0.size ≤ q → A q)
    {n : Int32} {N' : Nat} {a0 : vp_A} (ha : ∀ cA : ClassId, vp_cell cA a0 = arrV cA N' (fun _ => defaultValue ty)) (hn : ¬ n < 0) (hN : n.toNatClampNeg = N') (hbytes : N' * componentBytes ty ≤ 536870912) (hcells : cells + 1 ≤ R.cells) (hslots : slots + N' ≤ R.slots) (hdg : decode cc pc = .ok (.newarray atype, 2))
    (kk : ∀ (q : Nat) (H1 : Heap), va_P D vwCl (ws ++ [(q, .inl (tc i, a0))]) H1 → va_D A (ws ++ [(q, .inl (tc i, a0))]) → va_S A H0 H1 locs → W p l e R s m args below meth c H1 locs (cells + 1) (slots + N') Q (F0 m (pc + 2) ls (.ref q :: rest))) : W p l e R s m args below meth c H locs cells slots Q (F0 m pc ls (.int n :: rest)) := by
  refine va_newa hx hb harr hty hK hP hD hS hA ha hn hN hbytes hcells hslots hdg (fun q cA H1 hK2 hP2 hD2 hS2 => ?_)
  have e1 := hra cA (hK2.2 3 (cA, ty) rfl).2
  have e2 := hra (tc i) (hK.2 i _ hi).2
  have e3 : cA = tc i := Option.some.inj (e1.symm.trans e2)
  subst e3
  exact kk q H1 hP2 hD2 hS2
theorem dX0_init_0 : decode cX0_init 0 = .ok (.aload_n 0, 1) := by decide +kernel
theorem dX0_init_1 : decode cX0_init 1 = .ok (.invokespecial 3, 3) := by decide +kernel
theorem dX0_init_4 : decode cX0_init 4 = .ok (.aload_n 0, 1) := by decide +kernel
theorem dX0_init_5 : decode cX0_init 5 = .ok (.bipush 24, 2) := by decide +kernel
theorem dX0_init_7 : decode cX0_init 7 = .ok (.newarray .long, 2) := by decide +kernel
theorem dX0_init_9 : decode cX0_init 9 = .ok (.putfield 9, 3) := by decide +kernel
theorem dX0_init_12 : decode cX0_init 12 = .ok (.aload_n 0, 1) := by decide +kernel
theorem dX0_init_13 : decode cX0_init 13 = .ok (.bipush 24, 2) := by decide +kernel
theorem dX0_init_15 : decode cX0_init 15 = .ok (.newarray .long, 2) := by decide +kernel
theorem dX0_init_17 : decode cX0_init 17 = .ok (.putfield 15, 3) := by decide +kernel
theorem dX0_init_20 : decode cX0_init 20 = .ok (.return_, 1) := by decide +kernel
theorem dX2_init_0 : decode cX2_init 0 = .ok (.aload_n 0, 1) := by decide +kernel
theorem dX2_init_1 : decode cX2_init 1 = .ok (.invokespecial 3, 3) := by decide +kernel
theorem dX2_init_4 : decode cX2_init 4 = .ok (.aload_n 0, 1) := by decide +kernel
theorem dX2_init_5 : decode cX2_init 5 = .ok (.bipush 12, 2) := by decide +kernel
theorem dX2_init_7 : decode cX2_init 7 = .ok (.newarray .int, 2) := by decide +kernel
theorem dX2_init_9 : decode cX2_init 9 = .ok (.putfield 9, 3) := by decide +kernel
theorem dX2_init_12 : decode cX2_init 12 = .ok (.aload_n 0, 1) := by decide +kernel
theorem dX2_init_13 : decode cX2_init 13 = .ok (.bipush 12, 2) := by decide +kernel
theorem dX2_init_15 : decode cX2_init 15 = .ok (.newarray .int, 2) := by decide +kernel
theorem dX2_init_17 : decode cX2_init 17 = .ok (.putfield 15, 3) := by decide +kernel
theorem dX2_init_20 : decode cX2_init 20 = .ok (.aload_n 0, 1) := by decide +kernel
theorem dX2_init_21 : decode cX2_init 21 = .ok (.bipush 24, 2) := by decide +kernel
theorem dX2_init_23 : decode cX2_init 23 = .ok (.newarray .int, 2) := by decide +kernel
theorem dX2_init_25 : decode cX2_init 25 = .ok (.putfield 18, 3) := by decide +kernel
theorem dX2_init_28 : decode cX2_init 28 = .ok (.aload_n 0, 1) := by decide +kernel
theorem dX2_init_29 : decode cX2_init 29 = .ok (.bipush 9, 2) := by decide +kernel
theorem dX2_init_31 : decode cX2_init 31 = .ok (.newarray .int, 2) := by decide +kernel
theorem dX2_init_33 : decode cX2_init 33 = .ok (.putfield 21, 3) := by decide +kernel
theorem dX2_init_36 : decode cX2_init 36 = .ok (.aload_n 0, 1) := by decide +kernel
theorem dX2_init_37 : decode cX2_init 37 = .ok (.bipush 9, 2) := by decide +kernel
theorem dX2_init_39 : decode cX2_init 39 = .ok (.newarray .int, 2) := by decide +kernel
theorem dX2_init_41 : decode cX2_init 41 = .ok (.putfield 24, 3) := by decide +kernel
theorem dX2_init_44 : decode cX2_init 44 = .ok (.aload_n 0, 1) := by decide +kernel
theorem dX2_init_45 : decode cX2_init 45 = .ok (.bipush 9, 2) := by decide +kernel
theorem dX2_init_47 : decode cX2_init 47 = .ok (.newarray .int, 2) := by decide +kernel
theorem dX2_init_49 : decode cX2_init 49 = .ok (.putfield 27, 3) := by decide +kernel
theorem dX2_init_52 : decode cX2_init 52 = .ok (.aload_n 0, 1) := by decide +kernel
theorem dX2_init_53 : decode cX2_init 53 = .ok (.bipush 24, 2) := by decide +kernel
theorem dX2_init_55 : decode cX2_init 55 = .ok (.newarray .int, 2) := by decide +kernel
theorem dX2_init_57 : decode cX2_init 57 = .ok (.putfield 30, 3) := by decide +kernel
theorem dX2_init_60 : decode cX2_init 60 = .ok (.aload_n 0, 1) := by decide +kernel
theorem dX2_init_61 : decode cX2_init 61 = .ok (.bipush 24, 2) := by decide +kernel
theorem dX2_init_63 : decode cX2_init 63 = .ok (.newarray .int, 2) := by decide +kernel
theorem dX2_init_65 : decode cX2_init 65 = .ok (.putfield 33, 3) := by decide +kernel
theorem dX2_init_68 : decode cX2_init 68 = .ok (.return_, 1) := by decide +kernel
theorem dX3_init_0 : decode cX3_init 0 = .ok (.aload_n 0, 1) := by decide +kernel
theorem dX3_init_1 : decode cX3_init 1 = .ok (.invokespecial 3, 3) := by decide +kernel
theorem dX3_init_4 : decode cX3_init 4 = .ok (.aload_n 0, 1) := by decide +kernel
theorem dX3_init_5 : decode cX3_init 5 = .ok (.bipush 60, 2) := by decide +kernel
theorem dX3_init_7 : decode cX3_init 7 = .ok (.newarray .int, 2) := by decide +kernel
theorem dX3_init_9 : decode cX3_init 9 = .ok (.putfield 9, 3) := by decide +kernel
theorem dX3_init_12 : decode cX3_init 12 = .ok (.aload_n 0, 1) := by decide +kernel
theorem dX3_init_13 : decode cX3_init 13 = .ok (.iconst (-1), 1) := by decide +kernel
theorem dX3_init_14 : decode cX3_init 14 = .ok (.putfield 15, 3) := by decide +kernel
theorem dX3_init_17 : decode cX3_init 17 = .ok (.return_, 1) := by decide +kernel
theorem dX4_init_0 : decode cX4_init 0 = .ok (.aload_n 0, 1) := by decide +kernel
theorem dX4_init_1 : decode cX4_init 1 = .ok (.invokespecial 3, 3) := by decide +kernel
theorem dX4_init_4 : decode cX4_init 4 = .ok (.aload_n 0, 1) := by decide +kernel
theorem dX4_init_5 : decode cX4_init 5 = .ok (.bipush 8, 2) := by decide +kernel
theorem dX4_init_7 : decode cX4_init 7 = .ok (.newarray .int, 2) := by decide +kernel
theorem dX4_init_9 : decode cX4_init 9 = .ok (.putfield 9, 3) := by decide +kernel
theorem dX4_init_12 : decode cX4_init 12 = .ok (.aload_n 0, 1) := by decide +kernel
theorem dX4_init_13 : decode cX4_init 13 = .ok (.bipush 8, 2) := by decide +kernel
theorem dX4_init_15 : decode cX4_init 15 = .ok (.newarray .int, 2) := by decide +kernel
theorem dX4_init_17 : decode cX4_init 17 = .ok (.putfield 15, 3) := by decide +kernel
theorem dX4_init_20 : decode cX4_init 20 = .ok (.aload_n 0, 1) := by decide +kernel
theorem dX4_init_21 : decode cX4_init 21 = .ok (.bipush 8, 2) := by decide +kernel
theorem dX4_init_23 : decode cX4_init 23 = .ok (.newarray .int, 2) := by decide +kernel
theorem dX4_init_25 : decode cX4_init 25 = .ok (.putfield 18, 3) := by decide +kernel
theorem dX4_init_28 : decode cX4_init 28 = .ok (.return_, 1) := by decide +kernel
theorem dX5_init_0 : decode cX5_init 0 = .ok (.aload_n 0, 1) := by decide +kernel
theorem dX5_init_1 : decode cX5_init 1 = .ok (.invokespecial 3, 3) := by decide +kernel
theorem dX5_init_4 : decode cX5_init 4 = .ok (.aload_n 0, 1) := by decide +kernel
theorem dX5_init_5 : decode cX5_init 5 = .ok (.iload_n 1, 1) := by decide +kernel
theorem dX5_init_6 : decode cX5_init 6 = .ok (.putfield 9, 3) := by decide +kernel
theorem dX5_init_9 : decode cX5_init 9 = .ok (.aload_n 0, 1) := by decide +kernel
theorem dX5_init_10 : decode cX5_init 10 = .ok (.iconst 0, 1) := by decide +kernel
theorem dX5_init_11 : decode cX5_init 11 = .ok (.iload_n 2, 1) := by decide +kernel
theorem dX5_init_12 : decode cX5_init 12 = .ok (.invokestatic 15, 3) := by decide +kernel
theorem dX5_init_15 : decode cX5_init 15 = .ok (.newarray .int, 2) := by decide +kernel
theorem dX5_init_17 : decode cX5_init 17 = .ok (.putfield 21, 3) := by decide +kernel
theorem dX5_init_20 : decode cX5_init 20 = .ok (.return_, 1) := by decide +kernel
set_option maxHeartbeats 4000000 in
set_option maxRecDepth 100000 in
/-- X0_init -/
theorem c_init_X0 (l : Launch) (D : va_G) (tc : Nat → ClassId) (h0 sz : Nat) : Met l yX0_init (Cond.code yX0_init cX0_init 1 none :: z_tbl) ({ frames := 1, cells := 2, slots := 48, locals := 20 }) (va_Pc [.ref h0] (fun U => U.heap.size = sz ∧ va_P D vwCl [(h0, .inr (0, [.null, .null, .int 0, .long 0, .long 0]))] U.heap ∧ va_K D vwCl (tys3 tc) U ∧ va_D (fun _ => True) [(h0, .inr (0, [.null, .null, .int 0, .long 0, .long 0]))])) (va_Qv (fun _ : Unit => True) (fun _ t => ∃ q1 q2 : Nat, va_P D vwCl [(h0, .inr (0, [.ref q1, .ref q2, .int 0, .long 0, .long 0])), (q1, .inl (tc 1, 24, .inr (.inl (fun _ => 0)))), (q2, .inl (tc 1, 24, .inr (.inl (fun _ => 0))))] t.heap ∧ va_K D vwCl (tys3 tc) t ∧ va_D (va_A [(h0, .inr (0, [.null, .null, .int 0, .long 0, .long 0]))] sz) [(h0, .inr (0, [.ref q1, .ref q2, .int 0, .long 0, .long 0])), (q1, .inl (tc 1, 24, .inr (.inl (fun _ => 0)))), (q2, .inl (tc 1, 24, .inr (.inl (fun _ => 0))))]) (va_A [(h0, .inr (0, [.null, .null, .int 0, .long 0, .long 0]))] sz)) 2 48 (va_A [(h0, .inr (0, [.null, .null, .int 0, .long 0, .long 0]))] sz) := by
  refine Met.ofW (cc := cX0_init) (maxL := 1) (ret := none) (by decide) rfl ?_
  intro p e s m args below meth c s₁ B hml hv
  obtain ⟨rfl, hsz, hP, hK, hD0⟩ := hv
  have hx := B.exec
  have hb := B.bytes
  have hr := B.returns
  have hts := atoms_spec (ws := Cond.code yX0_init cX0_init 1 none :: z_tbl) B.pre
  have hz : ∀ w ∈ z_tbl, w.before _ s = true := fun w hw => hts w (List.mem_cons_of_mem _ hw)
  have hown : s.vm.findClass RX0 = some m.cls := findClass_of_methodNamed B.named
  have hlocks := B.notSynchronized
  have hin : meth.name = "<init>" := (name_of_methodNamed B.named B.method).1
  subst hsz
  have hD := hD0.self (sz := s.heap.size)
  generalize hAe : va_A [(h0, .inr (0, [.null, .null, .int 0, .long 0, .long 0]))] s.heap.size = A at hD ⊢
  have hA : ∀ q : Nat, s.heap.size ≤ q → A q := fun q h => by rw [← hAe]; exact Or.inr h
  have hS : va_S A s.heap s.heap [] := va_S.rf
  have hP : va_P D vwCl [(h0, .inr (0, [.null, .null, .int 0, .long 0, .long 0]))] s.heap := hP
  have hl := lv_entry ([.ref h0]) (n := 1) (Nat.le_of_ble_eq_true rfl)
  rw [lg_entry_eq]
  generalize (lg_sl ([.ref h0]) ++ List.replicate (1 - (lg_sl ([.ref h0])).length) Slot.unset).toArray = ls at hl ⊢
  have hl : lv_has ls 1 [(0, .ref h0)] := hl
  refine lv_aload_n hx hb dX0_init_0 rfl (lv_at hl 0 rfl) ?_
  refine W.objInit hx hb hown (hz _ (z_in (List.mem_of_getElem? (i := 160) (by decide +kernel)) rfl)) (hz _ (z_in (List.mem_of_getElem? (i := 93) (by decide +kernel)) rfl)) (hz _ (z_in (List.mem_of_getElem? (i := 94) (by decide +kernel)) rfl)) rfl (by rw [hml]; exact hl.1) rfl dX0_init_1 (Nat.le_of_ble_eq_true rfl) (Nat.le_of_ble_eq_true rfl) ?_
  refine W.eq (g2 := F0 m 4 ls []) rfl ?_
  refine lv_aload_n hx hb dX0_init_4 rfl (lv_at hl 0 rfl) ?_
  refine lv_bipush (v := 24) hx hb dX0_init_5 (by decide) ?_
  refine z_newa hx hb (atype := .long) (hz _ (z_in (List.mem_of_getElem? (i := 177) (by decide +kernel)) rfl)) (ty := .long) rfl hK 1 rfl (fun _ h => h) hP hD hS hA (n := 24) (N' := 24) (a0 := (24, .inr (.inl (fun _ => 0)))) (fun _ => rfl) (by decide) (by decide +kernel) (Nat.le_of_ble_eq_true rfl) (Nat.le_of_ble_eq_true rfl) (Nat.le_of_ble_eq_true rfl) dX0_init_7 (fun q1 H hP hD hS => ?_)
  have hP : va_P D vwCl [(h0, .inr (0, [.null, .null, .int 0, .long 0, .long 0])), (q1, .inl (tc 1, 24, .inr (.inl (fun _ => 0))))] H := hP
  have hD : va_D A [(h0, .inr (0, [.null, .null, .int 0, .long 0, .long 0])), (q1, .inl (tc 1, 24, .inr (.inl (fun _ => 0))))] := hD
  refine W.widen (k := 1) (n := 24) (by omega) (by omega) ?_
  refine va_putF (D := D) (ci := 0) (v := .ref q1) (ty := .array .long) (C := RX0) (T := TX0) (N := 5) hx hb hz z_ws0 tyX0 tyX0_ok nmX0 hown hK hP hD hS 0 rfl rfl 0 (by decide) (hz _ (z_in (List.mem_of_getElem? (i := 161) (by decide +kernel)) rfl)) (fun _ h9 => h9) rfl hin rfl (by decide +kernel) rfl rfl (Nat.le_of_ble_eq_true rfl) dX0_init_9 (fun H locs hP hD hS => ?_)
  have hP : va_P D vwCl [(h0, .inr (0, [.ref q1, .null, .int 0, .long 0, .long 0])), (q1, .inl (tc 1, 24, .inr (.inl (fun _ => 0))))] H := hP
  have hD : va_D A [(h0, .inr (0, [.ref q1, .null, .int 0, .long 0, .long 0])), (q1, .inl (tc 1, 24, .inr (.inl (fun _ => 0))))] := hD
  refine lv_aload_n hx hb dX0_init_12 rfl (lv_at hl 0 rfl) ?_
  refine lv_bipush (v := 24) hx hb dX0_init_13 (by decide) ?_
  refine z_newa hx hb (atype := .long) (hz _ (z_in (List.mem_of_getElem? (i := 177) (by decide +kernel)) rfl)) (ty := .long) rfl hK 1 rfl (fun _ h => h) hP hD hS hA (n := 24) (N' := 24) (a0 := (24, .inr (.inl (fun _ => 0)))) (fun _ => rfl) (by decide) (by decide +kernel) (Nat.le_of_ble_eq_true rfl) (Nat.le_of_ble_eq_true rfl) (Nat.le_of_ble_eq_true rfl) dX0_init_15 (fun q2 H hP hD hS => ?_)
  have hP : va_P D vwCl [(h0, .inr (0, [.ref q1, .null, .int 0, .long 0, .long 0])), (q1, .inl (tc 1, 24, .inr (.inl (fun _ => 0)))), (q2, .inl (tc 1, 24, .inr (.inl (fun _ => 0))))] H := hP
  have hD : va_D A [(h0, .inr (0, [.ref q1, .null, .int 0, .long 0, .long 0])), (q1, .inl (tc 1, 24, .inr (.inl (fun _ => 0)))), (q2, .inl (tc 1, 24, .inr (.inl (fun _ => 0))))] := hD
  refine W.widen (k := 2) (n := 48) (by omega) (by omega) ?_
  refine va_putF (D := D) (ci := 0) (v := .ref q2) (ty := .array .long) (C := RX0) (T := TX0) (N := 5) hx hb hz z_ws0 tyX0 tyX0_ok nmX0 hown hK hP hD hS 0 rfl rfl 1 (by decide) (hz _ (z_in (List.mem_of_getElem? (i := 162) (by decide +kernel)) rfl)) (fun _ h9 => h9) rfl hin rfl (by decide +kernel) rfl rfl (Nat.le_of_ble_eq_true rfl) dX0_init_17 (fun H locs hP hD hS => ?_)
  have hP : va_P D vwCl [(h0, .inr (0, [.ref q1, .ref q2, .int 0, .long 0, .long 0])), (q1, .inl (tc 1, 24, .inr (.inl (fun _ => 0)))), (q2, .inl (tc 1, 24, .inr (.inl (fun _ => 0))))] H := hP
  have hD : va_D A [(h0, .inr (0, [.ref q1, .ref q2, .int 0, .long 0, .long 0])), (q1, .inl (tc 1, 24, .inr (.inl (fun _ => 0)))), (q2, .inl (tc 1, 24, .inr (.inl (fun _ => 0))))] := hD
  refine W.widen (k := 2) (n := 48) (Nat.le_refl _) (Nat.le_refl _) ?_
  exact W.vret hx hb hr (fun t ht hW => ⟨⟨(), rfl, trivial, q1, q2, by rw [ht]; exact hP, va_K.moved hW.alike hK, hD⟩, hS.F ht⟩) hS.2.2 dX0_init_20
set_option maxHeartbeats 4000000 in
set_option maxRecDepth 100000 in
/-- X2_init -/
theorem c_init_X2 (l : Launch) (D : va_G) (tc : Nat → ClassId) (h0 sz : Nat) : Met l yX2_init (Cond.code yX2_init cX2_init 1 none :: z_tbl) ({ frames := 1, cells := 8, slots := 123, locals := 20 }) (va_Pc [.ref h0] (fun U => U.heap.size = sz ∧ va_P D vwCl [(h0, .inr (1, [.int 0, .null, .null, .long 0, .null, .int 0, .null, .null, .null, .null, .null]))] U.heap ∧ va_K D vwCl (tys3 tc) U ∧ va_D (fun _ => True) [(h0, .inr (1, [.int 0, .null, .null, .long 0, .null, .int 0, .null, .null, .null, .null, .null]))])) (va_Qv (fun _ : Unit => True) (fun _ t => ∃ q1 q2 q3 q4 q5 q6 q7 q8 : Nat, va_P D vwCl [(h0, .inr (1, [.int 0, .ref q1, .ref q2, .long 0, .ref q3, .int 0, .ref q4, .ref q5, .ref q6, .ref q7, .ref q8])), (q1, .inl (tc 0, 12, .inl (fun _ => 0))), (q2, .inl (tc 0, 12, .inl (fun _ => 0))), (q3, .inl (tc 0, 24, .inl (fun _ => 0))), (q4, .inl (tc 0, 9, .inl (fun _ => 0))), (q5, .inl (tc 0, 9, .inl (fun _ => 0))), (q6, .inl (tc 0, 9, .inl (fun _ => 0))), (q7, .inl (tc 0, 24, .inl (fun _ => 0))), (q8, .inl (tc 0, 24, .inl (fun _ => 0)))] t.heap ∧ va_K D vwCl (tys3 tc) t ∧ va_D (va_A [(h0, .inr (1, [.int 0, .null, .null, .long 0, .null, .int 0, .null, .null, .null, .null, .null]))] sz) [(h0, .inr (1, [.int 0, .ref q1, .ref q2, .long 0, .ref q3, .int 0, .ref q4, .ref q5, .ref q6, .ref q7, .ref q8])), (q1, .inl (tc 0, 12, .inl (fun _ => 0))), (q2, .inl (tc 0, 12, .inl (fun _ => 0))), (q3, .inl (tc 0, 24, .inl (fun _ => 0))), (q4, .inl (tc 0, 9, .inl (fun _ => 0))), (q5, .inl (tc 0, 9, .inl (fun _ => 0))), (q6, .inl (tc 0, 9, .inl (fun _ => 0))), (q7, .inl (tc 0, 24, .inl (fun _ => 0))), (q8, .inl (tc 0, 24, .inl (fun _ => 0)))]) (va_A [(h0, .inr (1, [.int 0, .null, .null, .long 0, .null, .int 0, .null, .null, .null, .null, .null]))] sz)) 8 123 (va_A [(h0, .inr (1, [.int 0, .null, .null, .long 0, .null, .int 0, .null, .null, .null, .null, .null]))] sz) := by
  refine Met.ofW (cc := cX2_init) (maxL := 1) (ret := none) (by decide) rfl ?_
  intro p e s m args below meth c s₁ B hml hv
  obtain ⟨rfl, hsz, hP, hK, hD0⟩ := hv
  have hx := B.exec
  have hb := B.bytes
  have hr := B.returns
  have hts := atoms_spec (ws := Cond.code yX2_init cX2_init 1 none :: z_tbl) B.pre
  have hz : ∀ w ∈ z_tbl, w.before _ s = true := fun w hw => hts w (List.mem_cons_of_mem _ hw)
  have hown : s.vm.findClass RX2 = some m.cls := findClass_of_methodNamed B.named
  have hlocks := B.notSynchronized
  have hin : meth.name = "<init>" := (name_of_methodNamed B.named B.method).1
  subst hsz
  have hD := hD0.self (sz := s.heap.size)
  generalize hAe : va_A [(h0, .inr (1, [.int 0, .null, .null, .long 0, .null, .int 0, .null, .null, .null, .null, .null]))] s.heap.size = A at hD ⊢
  have hA : ∀ q : Nat, s.heap.size ≤ q → A q := fun q h => by rw [← hAe]; exact Or.inr h
  have hS : va_S A s.heap s.heap [] := va_S.rf
  have hP : va_P D vwCl [(h0, .inr (1, [.int 0, .null, .null, .long 0, .null, .int 0, .null, .null, .null, .null, .null]))] s.heap := hP
  have hl := lv_entry ([.ref h0]) (n := 1) (Nat.le_of_ble_eq_true rfl)
  rw [lg_entry_eq]
  generalize (lg_sl ([.ref h0]) ++ List.replicate (1 - (lg_sl ([.ref h0])).length) Slot.unset).toArray = ls at hl ⊢
  have hl : lv_has ls 1 [(0, .ref h0)] := hl
  refine lv_aload_n hx hb dX2_init_0 rfl (lv_at hl 0 rfl) ?_
  refine W.objInit hx hb hown (hz _ (z_in (List.mem_of_getElem? (i := 120) (by decide +kernel)) rfl)) (hz _ (z_in (List.mem_of_getElem? (i := 93) (by decide +kernel)) rfl)) (hz _ (z_in (List.mem_of_getElem? (i := 94) (by decide +kernel)) rfl)) rfl (by rw [hml]; exact hl.1) rfl dX2_init_1 (Nat.le_of_ble_eq_true rfl) (Nat.le_of_ble_eq_true rfl) ?_
  refine W.eq (g2 := F0 m 4 ls []) rfl ?_
  refine lv_aload_n hx hb dX2_init_4 rfl (lv_at hl 0 rfl) ?_
  refine lv_bipush (v := 12) hx hb dX2_init_5 (by decide) ?_
  refine z_newa hx hb (atype := .int) (hz _ (z_in (List.mem_of_getElem? (i := 114) (by decide +kernel)) rfl)) (ty := .int) rfl hK 0 rfl (fun _ h => h) hP hD hS hA (n := 12) (N' := 12) (a0 := (12, .inl (fun _ => 0))) (fun _ => rfl) (by decide) (by decide +kernel) (Nat.le_of_ble_eq_true rfl) (Nat.le_of_ble_eq_true rfl) (Nat.le_of_ble_eq_true rfl) dX2_init_7 (fun q1 H hP hD hS => ?_)
  have hP : va_P D vwCl [(h0, .inr (1, [.int 0, .null, .null, .long 0, .null, .int 0, .null, .null, .null, .null, .null])), (q1, .inl (tc 0, 12, .inl (fun _ => 0)))] H := hP
  have hD : va_D A [(h0, .inr (1, [.int 0, .null, .null, .long 0, .null, .int 0, .null, .null, .null, .null, .null])), (q1, .inl (tc 0, 12, .inl (fun _ => 0)))] := hD
  refine W.widen (k := 1) (n := 12) (by omega) (by omega) ?_
  refine va_putF (D := D) (ci := 1) (v := .ref q1) (ty := .array .int) (C := RX2) (T := TX2) (N := 11) hx hb hz z_ws2 tyX2 tyX2_ok nmX2 hown hK hP hD hS 0 rfl rfl 1 (by decide) (hz _ (z_in (List.mem_of_getElem? (i := 122) (by decide +kernel)) rfl)) (fun _ h9 => h9) rfl hin rfl (by decide +kernel) rfl rfl (Nat.le_of_ble_eq_true rfl) dX2_init_9 (fun H locs hP hD hS => ?_)
  have hP : va_P D vwCl [(h0, .inr (1, [.int 0, .ref q1, .null, .long 0, .null, .int 0, .null, .null, .null, .null, .null])), (q1, .inl (tc 0, 12, .inl (fun _ => 0)))] H := hP
  have hD : va_D A [(h0, .inr (1, [.int 0, .ref q1, .null, .long 0, .null, .int 0, .null, .null, .null, .null, .null])), (q1, .inl (tc 0, 12, .inl (fun _ => 0)))] := hD
  refine lv_aload_n hx hb dX2_init_12 rfl (lv_at hl 0 rfl) ?_
  refine lv_bipush (v := 12) hx hb dX2_init_13 (by decide) ?_
  refine z_newa hx hb (atype := .int) (hz _ (z_in (List.mem_of_getElem? (i := 114) (by decide +kernel)) rfl)) (ty := .int) rfl hK 0 rfl (fun _ h => h) hP hD hS hA (n := 12) (N' := 12) (a0 := (12, .inl (fun _ => 0))) (fun _ => rfl) (by decide) (by decide +kernel) (Nat.le_of_ble_eq_true rfl) (Nat.le_of_ble_eq_true rfl) (Nat.le_of_ble_eq_true rfl) dX2_init_15 (fun q2 H hP hD hS => ?_)
  have hP : va_P D vwCl [(h0, .inr (1, [.int 0, .ref q1, .null, .long 0, .null, .int 0, .null, .null, .null, .null, .null])), (q1, .inl (tc 0, 12, .inl (fun _ => 0))), (q2, .inl (tc 0, 12, .inl (fun _ => 0)))] H := hP
  have hD : va_D A [(h0, .inr (1, [.int 0, .ref q1, .null, .long 0, .null, .int 0, .null, .null, .null, .null, .null])), (q1, .inl (tc 0, 12, .inl (fun _ => 0))), (q2, .inl (tc 0, 12, .inl (fun _ => 0)))] := hD
  refine W.widen (k := 2) (n := 24) (by omega) (by omega) ?_
  refine va_putF (D := D) (ci := 1) (v := .ref q2) (ty := .array .int) (C := RX2) (T := TX2) (N := 11) hx hb hz z_ws2 tyX2 tyX2_ok nmX2 hown hK hP hD hS 0 rfl rfl 2 (by decide) (hz _ (z_in (List.mem_of_getElem? (i := 123) (by decide +kernel)) rfl)) (fun _ h9 => h9) rfl hin rfl (by decide +kernel) rfl rfl (Nat.le_of_ble_eq_true rfl) dX2_init_17 (fun H locs hP hD hS => ?_)
  have hP : va_P D vwCl [(h0, .inr (1, [.int 0, .ref q1, .ref q2, .long 0, .null, .int 0, .null, .null, .null, .null, .null])), (q1, .inl (tc 0, 12, .inl (fun _ => 0))), (q2, .inl (tc 0, 12, .inl (fun _ => 0)))] H := hP
  have hD : va_D A [(h0, .inr (1, [.int 0, .ref q1, .ref q2, .long 0, .null, .int 0, .null, .null, .null, .null, .null])), (q1, .inl (tc 0, 12, .inl (fun _ => 0))), (q2, .inl (tc 0, 12, .inl (fun _ => 0)))] := hD
  refine lv_aload_n hx hb dX2_init_20 rfl (lv_at hl 0 rfl) ?_
  refine lv_bipush (v := 24) hx hb dX2_init_21 (by decide) ?_
  refine z_newa hx hb (atype := .int) (hz _ (z_in (List.mem_of_getElem? (i := 114) (by decide +kernel)) rfl)) (ty := .int) rfl hK 0 rfl (fun _ h => h) hP hD hS hA (n := 24) (N' := 24) (a0 := (24, .inl (fun _ => 0))) (fun _ => rfl) (by decide) (by decide +kernel) (Nat.le_of_ble_eq_true rfl) (Nat.le_of_ble_eq_true rfl) (Nat.le_of_ble_eq_true rfl) dX2_init_23 (fun q3 H hP hD hS => ?_)
  have hP : va_P D vwCl [(h0, .inr (1, [.int 0, .ref q1, .ref q2, .long 0, .null, .int 0, .null, .null, .null, .null, .null])), (q1, .inl (tc 0, 12, .inl (fun _ => 0))), (q2, .inl (tc 0, 12, .inl (fun _ => 0))), (q3, .inl (tc 0, 24, .inl (fun _ => 0)))] H := hP
  have hD : va_D A [(h0, .inr (1, [.int 0, .ref q1, .ref q2, .long 0, .null, .int 0, .null, .null, .null, .null, .null])), (q1, .inl (tc 0, 12, .inl (fun _ => 0))), (q2, .inl (tc 0, 12, .inl (fun _ => 0))), (q3, .inl (tc 0, 24, .inl (fun _ => 0)))] := hD
  refine W.widen (k := 3) (n := 48) (by omega) (by omega) ?_
  refine va_putF (D := D) (ci := 1) (v := .ref q3) (ty := .array .int) (C := RX2) (T := TX2) (N := 11) hx hb hz z_ws2 tyX2 tyX2_ok nmX2 hown hK hP hD hS 0 rfl rfl 4 (by decide) (hz _ (z_in (List.mem_of_getElem? (i := 125) (by decide +kernel)) rfl)) (fun _ h9 => h9) rfl hin rfl (by decide +kernel) rfl rfl (Nat.le_of_ble_eq_true rfl) dX2_init_25 (fun H locs hP hD hS => ?_)
  have hP : va_P D vwCl [(h0, .inr (1, [.int 0, .ref q1, .ref q2, .long 0, .ref q3, .int 0, .null, .null, .null, .null, .null])), (q1, .inl (tc 0, 12, .inl (fun _ => 0))), (q2, .inl (tc 0, 12, .inl (fun _ => 0))), (q3, .inl (tc 0, 24, .inl (fun _ => 0)))] H := hP
  have hD : va_D A [(h0, .inr (1, [.int 0, .ref q1, .ref q2, .long 0, .ref q3, .int 0, .null, .null, .null, .null, .null])), (q1, .inl (tc 0, 12, .inl (fun _ => 0))), (q2, .inl (tc 0, 12, .inl (fun _ => 0))), (q3, .inl (tc 0, 24, .inl (fun _ => 0)))] := hD
  refine lv_aload_n hx hb dX2_init_28 rfl (lv_at hl 0 rfl) ?_
  refine lv_bipush (v := 9) hx hb dX2_init_29 (by decide) ?_
  refine z_newa hx hb (atype := .int) (hz _ (z_in (List.mem_of_getElem? (i := 114) (by decide +kernel)) rfl)) (ty := .int) rfl hK 0 rfl (fun _ h => h) hP hD hS hA (n := 9) (N' := 9) (a0 := (9, .inl (fun _ => 0))) (fun _ => rfl) (by decide) (by decide +kernel) (Nat.le_of_ble_eq_true rfl) (Nat.le_of_ble_eq_true rfl) (Nat.le_of_ble_eq_true rfl) dX2_init_31 (fun q4 H hP hD hS => ?_)
  have hP : va_P D vwCl [(h0, .inr (1, [.int 0, .ref q1, .ref q2, .long 0, .ref q3, .int 0, .null, .null, .null, .null, .null])), (q1, .inl (tc 0, 12, .inl (fun _ => 0))), (q2, .inl (tc 0, 12, .inl (fun _ => 0))), (q3, .inl (tc 0, 24, .inl (fun _ => 0))), (q4, .inl (tc 0, 9, .inl (fun _ => 0)))] H := hP
  have hD : va_D A [(h0, .inr (1, [.int 0, .ref q1, .ref q2, .long 0, .ref q3, .int 0, .null, .null, .null, .null, .null])), (q1, .inl (tc 0, 12, .inl (fun _ => 0))), (q2, .inl (tc 0, 12, .inl (fun _ => 0))), (q3, .inl (tc 0, 24, .inl (fun _ => 0))), (q4, .inl (tc 0, 9, .inl (fun _ => 0)))] := hD
  refine W.widen (k := 4) (n := 57) (by omega) (by omega) ?_
  refine va_putF (D := D) (ci := 1) (v := .ref q4) (ty := .array .int) (C := RX2) (T := TX2) (N := 11) hx hb hz z_ws2 tyX2 tyX2_ok nmX2 hown hK hP hD hS 0 rfl rfl 6 (by decide) (hz _ (z_in (List.mem_of_getElem? (i := 127) (by decide +kernel)) rfl)) (fun _ h9 => h9) rfl hin rfl (by decide +kernel) rfl rfl (Nat.le_of_ble_eq_true rfl) dX2_init_33 (fun H locs hP hD hS => ?_)
  have hP : va_P D vwCl [(h0, .inr (1, [.int 0, .ref q1, .ref q2, .long 0, .ref q3, .int 0, .ref q4, .null, .null, .null, .null])), (q1, .inl (tc 0, 12, .inl (fun _ => 0))), (q2, .inl (tc 0, 12, .inl (fun _ => 0))), (q3, .inl (tc 0, 24, .inl (fun _ => 0))), (q4, .inl (tc 0, 9, .inl (fun _ => 0)))] H := hP
  have hD : va_D A [(h0, .inr (1, [.int 0, .ref q1, .ref q2, .long 0, .ref q3, .int 0, .ref q4, .null, .null, .null, .null])), (q1, .inl (tc 0, 12, .inl (fun _ => 0))), (q2, .inl (tc 0, 12, .inl (fun _ => 0))), (q3, .inl (tc 0, 24, .inl (fun _ => 0))), (q4, .inl (tc 0, 9, .inl (fun _ => 0)))] := hD
  refine lv_aload_n hx hb dX2_init_36 rfl (lv_at hl 0 rfl) ?_
  refine lv_bipush (v := 9) hx hb dX2_init_37 (by decide) ?_
  refine z_newa hx hb (atype := .int) (hz _ (z_in (List.mem_of_getElem? (i := 114) (by decide +kernel)) rfl)) (ty := .int) rfl hK 0 rfl (fun _ h => h) hP hD hS hA (n := 9) (N' := 9) (a0 := (9, .inl (fun _ => 0))) (fun _ => rfl) (by decide) (by decide +kernel) (Nat.le_of_ble_eq_true rfl) (Nat.le_of_ble_eq_true rfl) (Nat.le_of_ble_eq_true rfl) dX2_init_39 (fun q5 H hP hD hS => ?_)
  have hP : va_P D vwCl [(h0, .inr (1, [.int 0, .ref q1, .ref q2, .long 0, .ref q3, .int 0, .ref q4, .null, .null, .null, .null])), (q1, .inl (tc 0, 12, .inl (fun _ => 0))), (q2, .inl (tc 0, 12, .inl (fun _ => 0))), (q3, .inl (tc 0, 24, .inl (fun _ => 0))), (q4, .inl (tc 0, 9, .inl (fun _ => 0))), (q5, .inl (tc 0, 9, .inl (fun _ => 0)))] H := hP
  have hD : va_D A [(h0, .inr (1, [.int 0, .ref q1, .ref q2, .long 0, .ref q3, .int 0, .ref q4, .null, .null, .null, .null])), (q1, .inl (tc 0, 12, .inl (fun _ => 0))), (q2, .inl (tc 0, 12, .inl (fun _ => 0))), (q3, .inl (tc 0, 24, .inl (fun _ => 0))), (q4, .inl (tc 0, 9, .inl (fun _ => 0))), (q5, .inl (tc 0, 9, .inl (fun _ => 0)))] := hD
  refine W.widen (k := 5) (n := 66) (by omega) (by omega) ?_
  refine va_putF (D := D) (ci := 1) (v := .ref q5) (ty := .array .int) (C := RX2) (T := TX2) (N := 11) hx hb hz z_ws2 tyX2 tyX2_ok nmX2 hown hK hP hD hS 0 rfl rfl 7 (by decide) (hz _ (z_in (List.mem_of_getElem? (i := 128) (by decide +kernel)) rfl)) (fun _ h9 => h9) rfl hin rfl (by decide +kernel) rfl rfl (Nat.le_of_ble_eq_true rfl) dX2_init_41 (fun H locs hP hD hS => ?_)
  have hP : va_P D vwCl [(h0, .inr (1, [.int 0, .ref q1, .ref q2, .long 0, .ref q3, .int 0, .ref q4, .ref q5, .null, .null, .null])), (q1, .inl (tc 0, 12, .inl (fun _ => 0))), (q2, .inl (tc 0, 12, .inl (fun _ => 0))), (q3, .inl (tc 0, 24, .inl (fun _ => 0))), (q4, .inl (tc 0, 9, .inl (fun _ => 0))), (q5, .inl (tc 0, 9, .inl (fun _ => 0)))] H := hP
  have hD : va_D A [(h0, .inr (1, [.int 0, .ref q1, .ref q2, .long 0, .ref q3, .int 0, .ref q4, .ref q5, .null, .null, .null])), (q1, .inl (tc 0, 12, .inl (fun _ => 0))), (q2, .inl (tc 0, 12, .inl (fun _ => 0))), (q3, .inl (tc 0, 24, .inl (fun _ => 0))), (q4, .inl (tc 0, 9, .inl (fun _ => 0))), (q5, .inl (tc 0, 9, .inl (fun _ => 0)))] := hD
  refine lv_aload_n hx hb dX2_init_44 rfl (lv_at hl 0 rfl) ?_
  refine lv_bipush (v := 9) hx hb dX2_init_45 (by decide) ?_
  refine z_newa hx hb (atype := .int) (hz _ (z_in (List.mem_of_getElem? (i := 114) (by decide +kernel)) rfl)) (ty := .int) rfl hK 0 rfl (fun _ h => h) hP hD hS hA (n := 9) (N' := 9) (a0 := (9, .inl (fun _ => 0))) (fun _ => rfl) (by decide) (by decide +kernel) (Nat.le_of_ble_eq_true rfl) (Nat.le_of_ble_eq_true rfl) (Nat.le_of_ble_eq_true rfl) dX2_init_47 (fun q6 H hP hD hS => ?_)
  have hP : va_P D vwCl [(h0, .inr (1, [.int 0, .ref q1, .ref q2, .long 0, .ref q3, .int 0, .ref q4, .ref q5, .null, .null, .null])), (q1, .inl (tc 0, 12, .inl (fun _ => 0))), (q2, .inl (tc 0, 12, .inl (fun _ => 0))), (q3, .inl (tc 0, 24, .inl (fun _ => 0))), (q4, .inl (tc 0, 9, .inl (fun _ => 0))), (q5, .inl (tc 0, 9, .inl (fun _ => 0))), (q6, .inl (tc 0, 9, .inl (fun _ => 0)))] H := hP
  have hD : va_D A [(h0, .inr (1, [.int 0, .ref q1, .ref q2, .long 0, .ref q3, .int 0, .ref q4, .ref q5, .null, .null, .null])), (q1, .inl (tc 0, 12, .inl (fun _ => 0))), (q2, .inl (tc 0, 12, .inl (fun _ => 0))), (q3, .inl (tc 0, 24, .inl (fun _ => 0))), (q4, .inl (tc 0, 9, .inl (fun _ => 0))), (q5, .inl (tc 0, 9, .inl (fun _ => 0))), (q6, .inl (tc 0, 9, .inl (fun _ => 0)))] := hD
  refine W.widen (k := 6) (n := 75) (by omega) (by omega) ?_
  refine va_putF (D := D) (ci := 1) (v := .ref q6) (ty := .array .int) (C := RX2) (T := TX2) (N := 11) hx hb hz z_ws2 tyX2 tyX2_ok nmX2 hown hK hP hD hS 0 rfl rfl 8 (by decide) (hz _ (z_in (List.mem_of_getElem? (i := 129) (by decide +kernel)) rfl)) (fun _ h9 => h9) rfl hin rfl (by decide +kernel) rfl rfl (Nat.le_of_ble_eq_true rfl) dX2_init_49 (fun H locs hP hD hS => ?_)
  have hP : va_P D vwCl [(h0, .inr (1, [.int 0, .ref q1, .ref q2, .long 0, .ref q3, .int 0, .ref q4, .ref q5, .ref q6, .null, .null])), (q1, .inl (tc 0, 12, .inl (fun _ => 0))), (q2, .inl (tc 0, 12, .inl (fun _ => 0))), (q3, .inl (tc 0, 24, .inl (fun _ => 0))), (q4, .inl (tc 0, 9, .inl (fun _ => 0))), (q5, .inl (tc 0, 9, .inl (fun _ => 0))), (q6, .inl (tc 0, 9, .inl (fun _ => 0)))] H := hP
  have hD : va_D A [(h0, .inr (1, [.int 0, .ref q1, .ref q2, .long 0, .ref q3, .int 0, .ref q4, .ref q5, .ref q6, .null, .null])), (q1, .inl (tc 0, 12, .inl (fun _ => 0))), (q2, .inl (tc 0, 12, .inl (fun _ => 0))), (q3, .inl (tc 0, 24, .inl (fun _ => 0))), (q4, .inl (tc 0, 9, .inl (fun _ => 0))), (q5, .inl (tc 0, 9, .inl (fun _ => 0))), (q6, .inl (tc 0, 9, .inl (fun _ => 0)))] := hD
  refine lv_aload_n hx hb dX2_init_52 rfl (lv_at hl 0 rfl) ?_
  refine lv_bipush (v := 24) hx hb dX2_init_53 (by decide) ?_
  refine z_newa hx hb (atype := .int) (hz _ (z_in (List.mem_of_getElem? (i := 114) (by decide +kernel)) rfl)) (ty := .int) rfl hK 0 rfl (fun _ h => h) hP hD hS hA (n := 24) (N' := 24) (a0 := (24, .inl (fun _ => 0))) (fun _ => rfl) (by decide) (by decide +kernel) (Nat.le_of_ble_eq_true rfl) (Nat.le_of_ble_eq_true rfl) (Nat.le_of_ble_eq_true rfl) dX2_init_55 (fun q7 H hP hD hS => ?_)
  have hP : va_P D vwCl [(h0, .inr (1, [.int 0, .ref q1, .ref q2, .long 0, .ref q3, .int 0, .ref q4, .ref q5, .ref q6, .null, .null])), (q1, .inl (tc 0, 12, .inl (fun _ => 0))), (q2, .inl (tc 0, 12, .inl (fun _ => 0))), (q3, .inl (tc 0, 24, .inl (fun _ => 0))), (q4, .inl (tc 0, 9, .inl (fun _ => 0))), (q5, .inl (tc 0, 9, .inl (fun _ => 0))), (q6, .inl (tc 0, 9, .inl (fun _ => 0))), (q7, .inl (tc 0, 24, .inl (fun _ => 0)))] H := hP
  have hD : va_D A [(h0, .inr (1, [.int 0, .ref q1, .ref q2, .long 0, .ref q3, .int 0, .ref q4, .ref q5, .ref q6, .null, .null])), (q1, .inl (tc 0, 12, .inl (fun _ => 0))), (q2, .inl (tc 0, 12, .inl (fun _ => 0))), (q3, .inl (tc 0, 24, .inl (fun _ => 0))), (q4, .inl (tc 0, 9, .inl (fun _ => 0))), (q5, .inl (tc 0, 9, .inl (fun _ => 0))), (q6, .inl (tc 0, 9, .inl (fun _ => 0))), (q7, .inl (tc 0, 24, .inl (fun _ => 0)))] := hD
  refine W.widen (k := 7) (n := 99) (by omega) (by omega) ?_
  refine va_putF (D := D) (ci := 1) (v := .ref q7) (ty := .array .int) (C := RX2) (T := TX2) (N := 11) hx hb hz z_ws2 tyX2 tyX2_ok nmX2 hown hK hP hD hS 0 rfl rfl 9 (by decide) (hz _ (z_in (List.mem_of_getElem? (i := 130) (by decide +kernel)) rfl)) (fun _ h9 => h9) rfl hin rfl (by decide +kernel) rfl rfl (Nat.le_of_ble_eq_true rfl) dX2_init_57 (fun H locs hP hD hS => ?_)
  have hP : va_P D vwCl [(h0, .inr (1, [.int 0, .ref q1, .ref q2, .long 0, .ref q3, .int 0, .ref q4, .ref q5, .ref q6, .ref q7, .null])), (q1, .inl (tc 0, 12, .inl (fun _ => 0))), (q2, .inl (tc 0, 12, .inl (fun _ => 0))), (q3, .inl (tc 0, 24, .inl (fun _ => 0))), (q4, .inl (tc 0, 9, .inl (fun _ => 0))), (q5, .inl (tc 0, 9, .inl (fun _ => 0))), (q6, .inl (tc 0, 9, .inl (fun _ => 0))), (q7, .inl (tc 0, 24, .inl (fun _ => 0)))] H := hP
  have hD : va_D A [(h0, .inr (1, [.int 0, .ref q1, .ref q2, .long 0, .ref q3, .int 0, .ref q4, .ref q5, .ref q6, .ref q7, .null])), (q1, .inl (tc 0, 12, .inl (fun _ => 0))), (q2, .inl (tc 0, 12, .inl (fun _ => 0))), (q3, .inl (tc 0, 24, .inl (fun _ => 0))), (q4, .inl (tc 0, 9, .inl (fun _ => 0))), (q5, .inl (tc 0, 9, .inl (fun _ => 0))), (q6, .inl (tc 0, 9, .inl (fun _ => 0))), (q7, .inl (tc 0, 24, .inl (fun _ => 0)))] := hD
  refine lv_aload_n hx hb dX2_init_60 rfl (lv_at hl 0 rfl) ?_
  refine lv_bipush (v := 24) hx hb dX2_init_61 (by decide) ?_
  refine z_newa hx hb (atype := .int) (hz _ (z_in (List.mem_of_getElem? (i := 114) (by decide +kernel)) rfl)) (ty := .int) rfl hK 0 rfl (fun _ h => h) hP hD hS hA (n := 24) (N' := 24) (a0 := (24, .inl (fun _ => 0))) (fun _ => rfl) (by decide) (by decide +kernel) (Nat.le_of_ble_eq_true rfl) (Nat.le_of_ble_eq_true rfl) (Nat.le_of_ble_eq_true rfl) dX2_init_63 (fun q8 H hP hD hS => ?_)
  have hP : va_P D vwCl [(h0, .inr (1, [.int 0, .ref q1, .ref q2, .long 0, .ref q3, .int 0, .ref q4, .ref q5, .ref q6, .ref q7, .null])), (q1, .inl (tc 0, 12, .inl (fun _ => 0))), (q2, .inl (tc 0, 12, .inl (fun _ => 0))), (q3, .inl (tc 0, 24, .inl (fun _ => 0))), (q4, .inl (tc 0, 9, .inl (fun _ => 0))), (q5, .inl (tc 0, 9, .inl (fun _ => 0))), (q6, .inl (tc 0, 9, .inl (fun _ => 0))), (q7, .inl (tc 0, 24, .inl (fun _ => 0))), (q8, .inl (tc 0, 24, .inl (fun _ => 0)))] H := hP
  have hD : va_D A [(h0, .inr (1, [.int 0, .ref q1, .ref q2, .long 0, .ref q3, .int 0, .ref q4, .ref q5, .ref q6, .ref q7, .null])), (q1, .inl (tc 0, 12, .inl (fun _ => 0))), (q2, .inl (tc 0, 12, .inl (fun _ => 0))), (q3, .inl (tc 0, 24, .inl (fun _ => 0))), (q4, .inl (tc 0, 9, .inl (fun _ => 0))), (q5, .inl (tc 0, 9, .inl (fun _ => 0))), (q6, .inl (tc 0, 9, .inl (fun _ => 0))), (q7, .inl (tc 0, 24, .inl (fun _ => 0))), (q8, .inl (tc 0, 24, .inl (fun _ => 0)))] := hD
  refine W.widen (k := 8) (n := 123) (by omega) (by omega) ?_
  refine va_putF (D := D) (ci := 1) (v := .ref q8) (ty := .array .int) (C := RX2) (T := TX2) (N := 11) hx hb hz z_ws2 tyX2 tyX2_ok nmX2 hown hK hP hD hS 0 rfl rfl 10 (by decide) (hz _ (z_in (List.mem_of_getElem? (i := 131) (by decide +kernel)) rfl)) (fun _ h9 => h9) rfl hin rfl (by decide +kernel) rfl rfl (Nat.le_of_ble_eq_true rfl) dX2_init_65 (fun H locs hP hD hS => ?_)
  have hP : va_P D vwCl [(h0, .inr (1, [.int 0, .ref q1, .ref q2, .long 0, .ref q3, .int 0, .ref q4, .ref q5, .ref q6, .ref q7, .ref q8])), (q1, .inl (tc 0, 12, .inl (fun _ => 0))), (q2, .inl (tc 0, 12, .inl (fun _ => 0))), (q3, .inl (tc 0, 24, .inl (fun _ => 0))), (q4, .inl (tc 0, 9, .inl (fun _ => 0))), (q5, .inl (tc 0, 9, .inl (fun _ => 0))), (q6, .inl (tc 0, 9, .inl (fun _ => 0))), (q7, .inl (tc 0, 24, .inl (fun _ => 0))), (q8, .inl (tc 0, 24, .inl (fun _ => 0)))] H := hP
  have hD : va_D A [(h0, .inr (1, [.int 0, .ref q1, .ref q2, .long 0, .ref q3, .int 0, .ref q4, .ref q5, .ref q6, .ref q7, .ref q8])), (q1, .inl (tc 0, 12, .inl (fun _ => 0))), (q2, .inl (tc 0, 12, .inl (fun _ => 0))), (q3, .inl (tc 0, 24, .inl (fun _ => 0))), (q4, .inl (tc 0, 9, .inl (fun _ => 0))), (q5, .inl (tc 0, 9, .inl (fun _ => 0))), (q6, .inl (tc 0, 9, .inl (fun _ => 0))), (q7, .inl (tc 0, 24, .inl (fun _ => 0))), (q8, .inl (tc 0, 24, .inl (fun _ => 0)))] := hD
  refine W.widen (k := 8) (n := 123) (Nat.le_refl _) (Nat.le_refl _) ?_
  exact W.vret hx hb hr (fun t ht hW => ⟨⟨(), rfl, trivial, q1, q2, q3, q4, q5, q6, q7, q8, by rw [ht]; exact hP, va_K.moved hW.alike hK, hD⟩, hS.F ht⟩) hS.2.2 dX2_init_68
set_option maxHeartbeats 4000000 in
set_option maxRecDepth 100000 in
/-- X3_init -/
theorem c_init_X3 (l : Launch) (D : va_G) (tc : Nat → ClassId) (h0 sz : Nat) : Met l yX3_init (Cond.code yX3_init cX3_init 1 none :: z_tbl) ({ frames := 1, cells := 1, slots := 60, locals := 20 }) (va_Pc [.ref h0] (fun U => U.heap.size = sz ∧ va_P D vwCl [(h0, .inr (2, [.null, .int 0, .int 0]))] U.heap ∧ va_K D vwCl (tys3 tc) U ∧ va_D (fun _ => True) [(h0, .inr (2, [.null, .int 0, .int 0]))])) (va_Qv (fun _ : Unit => True) (fun _ t => ∃ q1 : Nat, va_P D vwCl [(h0, .inr (2, [.ref q1, .int (-1), .int 0])), (q1, .inl (tc 0, 60, .inl (fun _ => 0)))] t.heap ∧ va_K D vwCl (tys3 tc) t ∧ va_D (va_A [(h0, .inr (2, [.null, .int 0, .int 0]))] sz) [(h0, .inr (2, [.ref q1, .int (-1), .int 0])), (q1, .inl (tc 0, 60, .inl (fun _ => 0)))]) (va_A [(h0, .inr (2, [.null, .int 0, .int 0]))] sz)) 1 60 (va_A [(h0, .inr (2, [.null, .int 0, .int 0]))] sz) := by
  refine Met.ofW (cc := cX3_init) (maxL := 1) (ret := none) (by decide) rfl ?_
  intro p e s m args below meth c s₁ B hml hv
  obtain ⟨rfl, hsz, hP, hK, hD0⟩ := hv
  have hx := B.exec
  have hb := B.bytes
  have hr := B.returns
  have hts := atoms_spec (ws := Cond.code yX3_init cX3_init 1 none :: z_tbl) B.pre
  have hz : ∀ w ∈ z_tbl, w.before _ s = true := fun w hw => hts w (List.mem_cons_of_mem _ hw)
  have hown : s.vm.findClass RX3 = some m.cls := findClass_of_methodNamed B.named
  have hlocks := B.notSynchronized
  have hin : meth.name = "<init>" := (name_of_methodNamed B.named B.method).1
  subst hsz
  have hD := hD0.self (sz := s.heap.size)
  generalize hAe : va_A [(h0, .inr (2, [.null, .int 0, .int 0]))] s.heap.size = A at hD ⊢
  have hA : ∀ q : Nat, s.heap.size ≤ q → A q := fun q h => by rw [← hAe]; exact Or.inr h
  have hS : va_S A s.heap s.heap [] := va_S.rf
  have hP : va_P D vwCl [(h0, .inr (2, [.null, .int 0, .int 0]))] s.heap := hP
  have hl := lv_entry ([.ref h0]) (n := 1) (Nat.le_of_ble_eq_true rfl)
  rw [lg_entry_eq]
  generalize (lg_sl ([.ref h0]) ++ List.replicate (1 - (lg_sl ([.ref h0])).length) Slot.unset).toArray = ls at hl ⊢
  have hl : lv_has ls 1 [(0, .ref h0)] := hl
  refine lv_aload_n hx hb dX3_init_0 rfl (lv_at hl 0 rfl) ?_
  refine W.objInit hx hb hown (hz _ (z_in (List.mem_of_getElem? (i := 203) (by decide +kernel)) rfl)) (hz _ (z_in (List.mem_of_getElem? (i := 93) (by decide +kernel)) rfl)) (hz _ (z_in (List.mem_of_getElem? (i := 94) (by decide +kernel)) rfl)) rfl (by rw [hml]; exact hl.1) rfl dX3_init_1 (Nat.le_of_ble_eq_true rfl) (Nat.le_of_ble_eq_true rfl) ?_
  refine W.eq (g2 := F0 m 4 ls []) rfl ?_
  refine lv_aload_n hx hb dX3_init_4 rfl (lv_at hl 0 rfl) ?_
  refine lv_bipush (v := 60) hx hb dX3_init_5 (by decide) ?_
  refine z_newa hx hb (atype := .int) (hz _ (z_in (List.mem_of_getElem? (i := 114) (by decide +kernel)) rfl)) (ty := .int) rfl hK 0 rfl (fun _ h => h) hP hD hS hA (n := 60) (N' := 60) (a0 := (60, .inl (fun _ => 0))) (fun _ => rfl) (by decide) (by decide +kernel) (Nat.le_of_ble_eq_true rfl) (Nat.le_of_ble_eq_true rfl) (Nat.le_of_ble_eq_true rfl) dX3_init_7 (fun q1 H hP hD hS => ?_)
  have hP : va_P D vwCl [(h0, .inr (2, [.null, .int 0, .int 0])), (q1, .inl (tc 0, 60, .inl (fun _ => 0)))] H := hP
  have hD : va_D A [(h0, .inr (2, [.null, .int 0, .int 0])), (q1, .inl (tc 0, 60, .inl (fun _ => 0)))] := hD
  refine W.widen (k := 1) (n := 60) (by omega) (by omega) ?_
  refine va_putF (D := D) (ci := 2) (v := .ref q1) (ty := .array .int) (C := RX3) (T := TX3) (N := 3) hx hb hz z_ws3 tyX3 tyX3_ok nmX3 hown hK hP hD hS 0 rfl rfl 0 (by decide) (hz _ (z_in (List.mem_of_getElem? (i := 204) (by decide +kernel)) rfl)) (fun _ h9 => h9) rfl hin rfl (by decide +kernel) rfl rfl (Nat.le_of_ble_eq_true rfl) dX3_init_9 (fun H locs hP hD hS => ?_)
  have hP : va_P D vwCl [(h0, .inr (2, [.ref q1, .int 0, .int 0])), (q1, .inl (tc 0, 60, .inl (fun _ => 0)))] H := hP
  have hD : va_D A [(h0, .inr (2, [.ref q1, .int 0, .int 0])), (q1, .inl (tc 0, 60, .inl (fun _ => 0)))] := hD
  refine lv_aload_n hx hb dX3_init_12 rfl (lv_at hl 0 rfl) ?_
  refine lv_iconst (v := -1) hx hb dX3_init_13 (by decide) ?_
  refine va_put (D := D) (ci := 2) (v := .int (-1)) (ty := .int) (C := RX3) (T := TX3) (N := 3) hx hb hz z_ws3 tyX3 tyX3_ok nmX3 hown hK hP hD hS 0 rfl rfl 1 (by decide) (hz _ (z_in (List.mem_of_getElem? (i := 205) (by decide +kernel)) rfl)) (fun _ h9 => h9) rfl (by decide +kernel) rfl rfl (Nat.le_of_ble_eq_true rfl) dX3_init_14 (fun H locs hP hD hS => ?_)
  have hP : va_P D vwCl [(h0, .inr (2, [.ref q1, .int (-1), .int 0])), (q1, .inl (tc 0, 60, .inl (fun _ => 0)))] H := hP
  have hD : va_D A [(h0, .inr (2, [.ref q1, .int (-1), .int 0])), (q1, .inl (tc 0, 60, .inl (fun _ => 0)))] := hD
  refine W.widen (k := 1) (n := 60) (Nat.le_refl _) (Nat.le_refl _) ?_
  exact W.vret hx hb hr (fun t ht hW => ⟨⟨(), rfl, trivial, q1, by rw [ht]; exact hP, va_K.moved hW.alike hK, hD⟩, hS.F ht⟩) hS.2.2 dX3_init_17
set_option maxHeartbeats 4000000 in
set_option maxRecDepth 100000 in
/-- X4_init -/
theorem c_init_X4 (l : Launch) (D : va_G) (tc : Nat → ClassId) (h0 sz : Nat) : Met l yX4_init (Cond.code yX4_init cX4_init 1 none :: z_tbl) ({ frames := 1, cells := 3, slots := 24, locals := 20 }) (va_Pc [.ref h0] (fun U => U.heap.size = sz ∧ va_P D vwCl [(h0, .inr (3, [.null, .null, .null, .int 0]))] U.heap ∧ va_K D vwCl (tys3 tc) U ∧ va_D (fun _ => True) [(h0, .inr (3, [.null, .null, .null, .int 0]))])) (va_Qv (fun _ : Unit => True) (fun _ t => ∃ q1 q2 q3 : Nat, va_P D vwCl [(h0, .inr (3, [.ref q1, .ref q2, .ref q3, .int 0])), (q1, .inl (tc 0, 8, .inl (fun _ => 0))), (q2, .inl (tc 0, 8, .inl (fun _ => 0))), (q3, .inl (tc 0, 8, .inl (fun _ => 0)))] t.heap ∧ va_K D vwCl (tys3 tc) t ∧ va_D (va_A [(h0, .inr (3, [.null, .null, .null, .int 0]))] sz) [(h0, .inr (3, [.ref q1, .ref q2, .ref q3, .int 0])), (q1, .inl (tc 0, 8, .inl (fun _ => 0))), (q2, .inl (tc 0, 8, .inl (fun _ => 0))), (q3, .inl (tc 0, 8, .inl (fun _ => 0)))]) (va_A [(h0, .inr (3, [.null, .null, .null, .int 0]))] sz)) 3 24 (va_A [(h0, .inr (3, [.null, .null, .null, .int 0]))] sz) := by
  refine Met.ofW (cc := cX4_init) (maxL := 1) (ret := none) (by decide) rfl ?_
  intro p e s m args below meth c s₁ B hml hv
  obtain ⟨rfl, hsz, hP, hK, hD0⟩ := hv
  have hx := B.exec
  have hb := B.bytes
  have hr := B.returns
  have hts := atoms_spec (ws := Cond.code yX4_init cX4_init 1 none :: z_tbl) B.pre
  have hz : ∀ w ∈ z_tbl, w.before _ s = true := fun w hw => hts w (List.mem_cons_of_mem _ hw)
  have hown : s.vm.findClass RX4 = some m.cls := findClass_of_methodNamed B.named
  have hlocks := B.notSynchronized
  have hin : meth.name = "<init>" := (name_of_methodNamed B.named B.method).1
  subst hsz
  have hD := hD0.self (sz := s.heap.size)
  generalize hAe : va_A [(h0, .inr (3, [.null, .null, .null, .int 0]))] s.heap.size = A at hD ⊢
  have hA : ∀ q : Nat, s.heap.size ≤ q → A q := fun q h => by rw [← hAe]; exact Or.inr h
  have hS : va_S A s.heap s.heap [] := va_S.rf
  have hP : va_P D vwCl [(h0, .inr (3, [.null, .null, .null, .int 0]))] s.heap := hP
  have hl := lv_entry ([.ref h0]) (n := 1) (Nat.le_of_ble_eq_true rfl)
  rw [lg_entry_eq]
  generalize (lg_sl ([.ref h0]) ++ List.replicate (1 - (lg_sl ([.ref h0])).length) Slot.unset).toArray = ls at hl ⊢
  have hl : lv_has ls 1 [(0, .ref h0)] := hl
  refine lv_aload_n hx hb dX4_init_0 rfl (lv_at hl 0 rfl) ?_
  refine W.objInit hx hb hown (hz _ (z_in (List.mem_of_getElem? (i := 183) (by decide +kernel)) rfl)) (hz _ (z_in (List.mem_of_getElem? (i := 93) (by decide +kernel)) rfl)) (hz _ (z_in (List.mem_of_getElem? (i := 94) (by decide +kernel)) rfl)) rfl (by rw [hml]; exact hl.1) rfl dX4_init_1 (Nat.le_of_ble_eq_true rfl) (Nat.le_of_ble_eq_true rfl) ?_
  refine W.eq (g2 := F0 m 4 ls []) rfl ?_
  refine lv_aload_n hx hb dX4_init_4 rfl (lv_at hl 0 rfl) ?_
  refine lv_bipush (v := 8) hx hb dX4_init_5 (by decide) ?_
  refine z_newa hx hb (atype := .int) (hz _ (z_in (List.mem_of_getElem? (i := 114) (by decide +kernel)) rfl)) (ty := .int) rfl hK 0 rfl (fun _ h => h) hP hD hS hA (n := 8) (N' := 8) (a0 := (8, .inl (fun _ => 0))) (fun _ => rfl) (by decide) (by decide +kernel) (Nat.le_of_ble_eq_true rfl) (Nat.le_of_ble_eq_true rfl) (Nat.le_of_ble_eq_true rfl) dX4_init_7 (fun q1 H hP hD hS => ?_)
  have hP : va_P D vwCl [(h0, .inr (3, [.null, .null, .null, .int 0])), (q1, .inl (tc 0, 8, .inl (fun _ => 0)))] H := hP
  have hD : va_D A [(h0, .inr (3, [.null, .null, .null, .int 0])), (q1, .inl (tc 0, 8, .inl (fun _ => 0)))] := hD
  refine W.widen (k := 1) (n := 8) (by omega) (by omega) ?_
  refine va_putF (D := D) (ci := 3) (v := .ref q1) (ty := .array .int) (C := RX4) (T := TX4) (N := 4) hx hb hz z_ws4 tyX4 tyX4_ok nmX4 hown hK hP hD hS 0 rfl rfl 0 (by decide) (hz _ (z_in (List.mem_of_getElem? (i := 184) (by decide +kernel)) rfl)) (fun _ h9 => h9) rfl hin rfl (by decide +kernel) rfl rfl (Nat.le_of_ble_eq_true rfl) dX4_init_9 (fun H locs hP hD hS => ?_)
  have hP : va_P D vwCl [(h0, .inr (3, [.ref q1, .null, .null, .int 0])), (q1, .inl (tc 0, 8, .inl (fun _ => 0)))] H := hP
  have hD : va_D A [(h0, .inr (3, [.ref q1, .null, .null, .int 0])), (q1, .inl (tc 0, 8, .inl (fun _ => 0)))] := hD
  refine lv_aload_n hx hb dX4_init_12 rfl (lv_at hl 0 rfl) ?_
  refine lv_bipush (v := 8) hx hb dX4_init_13 (by decide) ?_
  refine z_newa hx hb (atype := .int) (hz _ (z_in (List.mem_of_getElem? (i := 114) (by decide +kernel)) rfl)) (ty := .int) rfl hK 0 rfl (fun _ h => h) hP hD hS hA (n := 8) (N' := 8) (a0 := (8, .inl (fun _ => 0))) (fun _ => rfl) (by decide) (by decide +kernel) (Nat.le_of_ble_eq_true rfl) (Nat.le_of_ble_eq_true rfl) (Nat.le_of_ble_eq_true rfl) dX4_init_15 (fun q2 H hP hD hS => ?_)
  have hP : va_P D vwCl [(h0, .inr (3, [.ref q1, .null, .null, .int 0])), (q1, .inl (tc 0, 8, .inl (fun _ => 0))), (q2, .inl (tc 0, 8, .inl (fun _ => 0)))] H := hP
  have hD : va_D A [(h0, .inr (3, [.ref q1, .null, .null, .int 0])), (q1, .inl (tc 0, 8, .inl (fun _ => 0))), (q2, .inl (tc 0, 8, .inl (fun _ => 0)))] := hD
  refine W.widen (k := 2) (n := 16) (by omega) (by omega) ?_
  refine va_putF (D := D) (ci := 3) (v := .ref q2) (ty := .array .int) (C := RX4) (T := TX4) (N := 4) hx hb hz z_ws4 tyX4 tyX4_ok nmX4 hown hK hP hD hS 0 rfl rfl 1 (by decide) (hz _ (z_in (List.mem_of_getElem? (i := 185) (by decide +kernel)) rfl)) (fun _ h9 => h9) rfl hin rfl (by decide +kernel) rfl rfl (Nat.le_of_ble_eq_true rfl) dX4_init_17 (fun H locs hP hD hS => ?_)
  have hP : va_P D vwCl [(h0, .inr (3, [.ref q1, .ref q2, .null, .int 0])), (q1, .inl (tc 0, 8, .inl (fun _ => 0))), (q2, .inl (tc 0, 8, .inl (fun _ => 0)))] H := hP
  have hD : va_D A [(h0, .inr (3, [.ref q1, .ref q2, .null, .int 0])), (q1, .inl (tc 0, 8, .inl (fun _ => 0))), (q2, .inl (tc 0, 8, .inl (fun _ => 0)))] := hD
  refine lv_aload_n hx hb dX4_init_20 rfl (lv_at hl 0 rfl) ?_
  refine lv_bipush (v := 8) hx hb dX4_init_21 (by decide) ?_
  refine z_newa hx hb (atype := .int) (hz _ (z_in (List.mem_of_getElem? (i := 114) (by decide +kernel)) rfl)) (ty := .int) rfl hK 0 rfl (fun _ h => h) hP hD hS hA (n := 8) (N' := 8) (a0 := (8, .inl (fun _ => 0))) (fun _ => rfl) (by decide) (by decide +kernel) (Nat.le_of_ble_eq_true rfl) (Nat.le_of_ble_eq_true rfl) (Nat.le_of_ble_eq_true rfl) dX4_init_23 (fun q3 H hP hD hS => ?_)
  have hP : va_P D vwCl [(h0, .inr (3, [.ref q1, .ref q2, .null, .int 0])), (q1, .inl (tc 0, 8, .inl (fun _ => 0))), (q2, .inl (tc 0, 8, .inl (fun _ => 0))), (q3, .inl (tc 0, 8, .inl (fun _ => 0)))] H := hP
  have hD : va_D A [(h0, .inr (3, [.ref q1, .ref q2, .null, .int 0])), (q1, .inl (tc 0, 8, .inl (fun _ => 0))), (q2, .inl (tc 0, 8, .inl (fun _ => 0))), (q3, .inl (tc 0, 8, .inl (fun _ => 0)))] := hD
  refine W.widen (k := 3) (n := 24) (by omega) (by omega) ?_
  refine va_putF (D := D) (ci := 3) (v := .ref q3) (ty := .array .int) (C := RX4) (T := TX4) (N := 4) hx hb hz z_ws4 tyX4 tyX4_ok nmX4 hown hK hP hD hS 0 rfl rfl 2 (by decide) (hz _ (z_in (List.mem_of_getElem? (i := 186) (by decide +kernel)) rfl)) (fun _ h9 => h9) rfl hin rfl (by decide +kernel) rfl rfl (Nat.le_of_ble_eq_true rfl) dX4_init_25 (fun H locs hP hD hS => ?_)
  have hP : va_P D vwCl [(h0, .inr (3, [.ref q1, .ref q2, .ref q3, .int 0])), (q1, .inl (tc 0, 8, .inl (fun _ => 0))), (q2, .inl (tc 0, 8, .inl (fun _ => 0))), (q3, .inl (tc 0, 8, .inl (fun _ => 0)))] H := hP
  have hD : va_D A [(h0, .inr (3, [.ref q1, .ref q2, .ref q3, .int 0])), (q1, .inl (tc 0, 8, .inl (fun _ => 0))), (q2, .inl (tc 0, 8, .inl (fun _ => 0))), (q3, .inl (tc 0, 8, .inl (fun _ => 0)))] := hD
  refine W.widen (k := 3) (n := 24) (Nat.le_refl _) (Nat.le_refl _) ?_
  exact W.vret hx hb hr (fun t ht hW => ⟨⟨(), rfl, trivial, q1, q2, q3, by rw [ht]; exact hP, va_K.moved hW.alike hK, hD⟩, hS.F ht⟩) hS.2.2 dX4_init_28
set_option maxHeartbeats 4000000 in
set_option maxRecDepth 100000 in
/-- X5_init -/
theorem c_init_X5a (l : Launch) (D : va_G) (tc : Nat → ClassId) (h0 sz : Nat) : Met l yX5_init (Cond.code yX5_init cX5_init 3 none :: z_tbl) ({ frames := 1, cells := 1, slots := 47, locals := 20 }) (va_Pc [.ref h0, .int 1, .int 47] (fun U => U.heap.size = sz ∧ va_P D vwCl [(h0, .inr (4, [.int 0, .null, .int 0]))] U.heap ∧ va_K D vwCl (tys3 tc) U ∧ va_D (fun _ => True) [(h0, .inr (4, [.int 0, .null, .int 0]))])) (va_Qv (fun _ : Unit => True) (fun _ t => ∃ q1 : Nat, va_P D vwCl [(h0, .inr (4, [.int 1, .ref q1, .int 0])), (q1, .inl (tc 0, 47, .inl (fun _ => 0)))] t.heap ∧ va_K D vwCl (tys3 tc) t ∧ va_D (va_A [(h0, .inr (4, [.int 0, .null, .int 0]))] sz) [(h0, .inr (4, [.int 1, .ref q1, .int 0])), (q1, .inl (tc 0, 47, .inl (fun _ => 0)))]) (va_A [(h0, .inr (4, [.int 0, .null, .int 0]))] sz)) 1 47 (va_A [(h0, .inr (4, [.int 0, .null, .int 0]))] sz) := by
  refine Met.ofW (cc := cX5_init) (maxL := 3) (ret := none) (by decide) rfl ?_
  intro p e s m args below meth c s₁ B hml hv
  obtain ⟨rfl, hsz, hP, hK, hD0⟩ := hv
  have hx := B.exec
  have hb := B.bytes
  have hr := B.returns
  have hts := atoms_spec (ws := Cond.code yX5_init cX5_init 3 none :: z_tbl) B.pre
  have hz : ∀ w ∈ z_tbl, w.before _ s = true := fun w hw => hts w (List.mem_cons_of_mem _ hw)
  have hown : s.vm.findClass RX5 = some m.cls := findClass_of_methodNamed B.named
  have hlocks := B.notSynchronized
  have hin : meth.name = "<init>" := (name_of_methodNamed B.named B.method).1
  subst hsz
  have hD := hD0.self (sz := s.heap.size)
  generalize hAe : va_A [(h0, .inr (4, [.int 0, .null, .int 0]))] s.heap.size = A at hD ⊢
  have hA : ∀ q : Nat, s.heap.size ≤ q → A q := fun q h => by rw [← hAe]; exact Or.inr h
  have hS : va_S A s.heap s.heap [] := va_S.rf
  have hP : va_P D vwCl [(h0, .inr (4, [.int 0, .null, .int 0]))] s.heap := hP
  have hl := lv_entry ([.ref h0, .int 1, .int 47]) (n := 3) (Nat.le_of_ble_eq_true rfl)
  rw [lg_entry_eq]
  generalize (lg_sl ([.ref h0, .int 1, .int 47]) ++ List.replicate (3 - (lg_sl ([.ref h0, .int 1, .int 47])).length) Slot.unset).toArray = ls at hl ⊢
  have hl : lv_has ls 3 [(0, .ref h0), (1, .int 1), (2, .int 47)] := hl
  refine lv_aload_n hx hb dX5_init_0 rfl (lv_at hl 0 rfl) ?_
  refine W.objInit hx hb hown (hz _ (z_in (List.mem_of_getElem? (i := 100) (by decide +kernel)) rfl)) (hz _ (z_in (List.mem_of_getElem? (i := 93) (by decide +kernel)) rfl)) (hz _ (z_in (List.mem_of_getElem? (i := 94) (by decide +kernel)) rfl)) rfl (by rw [hml]; exact hl.1) rfl dX5_init_1 (Nat.le_of_ble_eq_true rfl) (Nat.le_of_ble_eq_true rfl) ?_
  refine W.eq (g2 := F0 m 4 ls []) rfl ?_
  refine lv_aload_n hx hb dX5_init_4 rfl (lv_at hl 0 rfl) ?_
  refine lv_iload_n hx hb dX5_init_5 rfl (lv_at hl 1 rfl) ?_
  refine va_putF (D := D) (ci := 4) (v := .int 1) (ty := .boolean) (C := RX5) (T := TX5) (N := 3) hx hb hz z_ws5 tyX5 tyX5_ok nmX5 hown hK hP hD hS 0 rfl rfl 0 (by decide) (hz _ (z_in (List.mem_of_getElem? (i := 104) (by decide +kernel)) rfl)) (fun _ h9 => h9) rfl hin rfl (by decide +kernel) rfl rfl (Nat.le_of_ble_eq_true rfl) dX5_init_6 (fun H locs hP hD hS => ?_)
  have hP : va_P D vwCl [(h0, .inr (4, [.int 1, .null, .int 0]))] H := hP
  have hD : va_D A [(h0, .inr (4, [.int 1, .null, .int 0]))] := hD
  refine lv_aload_n hx hb dX5_init_9 rfl (lv_at hl 0 rfl) ?_
  refine lv_iconst (v := 0) hx hb dX5_init_10 (by decide) ?_
  refine lv_iload_n hx hb dX5_init_11 rfl (lv_at hl 2 rfl) ?_
  refine va_mmax hx hb (hml.trans hl.1.symm) hown (hz _ (z_in (List.mem_of_getElem? (i := 101) (by decide +kernel)) rfl)) (hz _ z_mmax.1) (hz _ z_mini) (hz _ z_mmax.2) (Nat.le_of_ble_eq_true rfl) (Nat.le_of_ble_eq_true rfl) (Nat.le_of_ble_eq_true rfl) (Nat.le_of_ble_eq_true rfl) dX5_init_12 ?_
  rw [show (if (0 : Int32) < 47 then (47 : Int32) else 0) = 47 from by decide]
  refine z_newa hx hb (atype := .int) (hz _ (z_in (List.mem_of_getElem? (i := 114) (by decide +kernel)) rfl)) (ty := .int) rfl hK 0 rfl (fun _ h => h) hP hD hS hA (n := 47) (N' := 47) (a0 := (47, .inl (fun _ => 0))) (fun _ => rfl) (by decide) (by decide +kernel) (Nat.le_of_ble_eq_true rfl) (Nat.le_of_ble_eq_true rfl) (Nat.le_of_ble_eq_true rfl) dX5_init_15 (fun q1 H hP hD hS => ?_)
  have hP : va_P D vwCl [(h0, .inr (4, [.int 1, .null, .int 0])), (q1, .inl (tc 0, 47, .inl (fun _ => 0)))] H := hP
  have hD : va_D A [(h0, .inr (4, [.int 1, .null, .int 0])), (q1, .inl (tc 0, 47, .inl (fun _ => 0)))] := hD
  refine W.widen (k := 1) (n := 47) (by omega) (by omega) ?_
  refine va_putF (D := D) (ci := 4) (v := .ref q1) (ty := .array .int) (C := RX5) (T := TX5) (N := 3) hx hb hz z_ws5 tyX5 tyX5_ok nmX5 hown hK hP hD hS 0 rfl rfl 1 (by decide) (hz _ (z_in (List.mem_of_getElem? (i := 105) (by decide +kernel)) rfl)) (fun _ h9 => h9) rfl hin rfl (by decide +kernel) rfl rfl (Nat.le_of_ble_eq_true rfl) dX5_init_17 (fun H locs hP hD hS => ?_)
  have hP : va_P D vwCl [(h0, .inr (4, [.int 1, .ref q1, .int 0])), (q1, .inl (tc 0, 47, .inl (fun _ => 0)))] H := hP
  have hD : va_D A [(h0, .inr (4, [.int 1, .ref q1, .int 0])), (q1, .inl (tc 0, 47, .inl (fun _ => 0)))] := hD
  refine W.widen (k := 1) (n := 47) (Nat.le_refl _) (Nat.le_refl _) ?_
  exact W.vret hx hb hr (fun t ht hW => ⟨⟨(), rfl, trivial, q1, by rw [ht]; exact hP, va_K.moved hW.alike hK, hD⟩, hS.F ht⟩) hS.2.2 dX5_init_20
set_option maxHeartbeats 4000000 in
set_option maxRecDepth 100000 in
/-- X5_init -/
theorem c_init_X5b (l : Launch) (D : va_G) (tc : Nat → ClassId) (h0 sz : Nat) : Met l yX5_init (Cond.code yX5_init cX5_init 3 none :: z_tbl) ({ frames := 1, cells := 1, slots := 24, locals := 20 }) (va_Pc [.ref h0, .int 0, .int 24] (fun U => U.heap.size = sz ∧ va_P D vwCl [(h0, .inr (4, [.int 0, .null, .int 0]))] U.heap ∧ va_K D vwCl (tys3 tc) U ∧ va_D (fun _ => True) [(h0, .inr (4, [.int 0, .null, .int 0]))])) (va_Qv (fun _ : Unit => True) (fun _ t => ∃ q1 : Nat, va_P D vwCl [(h0, .inr (4, [.int 0, .ref q1, .int 0])), (q1, .inl (tc 0, 24, .inl (fun _ => 0)))] t.heap ∧ va_K D vwCl (tys3 tc) t ∧ va_D (va_A [(h0, .inr (4, [.int 0, .null, .int 0]))] sz) [(h0, .inr (4, [.int 0, .ref q1, .int 0])), (q1, .inl (tc 0, 24, .inl (fun _ => 0)))]) (va_A [(h0, .inr (4, [.int 0, .null, .int 0]))] sz)) 1 24 (va_A [(h0, .inr (4, [.int 0, .null, .int 0]))] sz) := by
  refine Met.ofW (cc := cX5_init) (maxL := 3) (ret := none) (by decide) rfl ?_
  intro p e s m args below meth c s₁ B hml hv
  obtain ⟨rfl, hsz, hP, hK, hD0⟩ := hv
  have hx := B.exec
  have hb := B.bytes
  have hr := B.returns
  have hts := atoms_spec (ws := Cond.code yX5_init cX5_init 3 none :: z_tbl) B.pre
  have hz : ∀ w ∈ z_tbl, w.before _ s = true := fun w hw => hts w (List.mem_cons_of_mem _ hw)
  have hown : s.vm.findClass RX5 = some m.cls := findClass_of_methodNamed B.named
  have hlocks := B.notSynchronized
  have hin : meth.name = "<init>" := (name_of_methodNamed B.named B.method).1
  subst hsz
  have hD := hD0.self (sz := s.heap.size)
  generalize hAe : va_A [(h0, .inr (4, [.int 0, .null, .int 0]))] s.heap.size = A at hD ⊢
  have hA : ∀ q : Nat, s.heap.size ≤ q → A q := fun q h => by rw [← hAe]; exact Or.inr h
  have hS : va_S A s.heap s.heap [] := va_S.rf
  have hP : va_P D vwCl [(h0, .inr (4, [.int 0, .null, .int 0]))] s.heap := hP
  have hl := lv_entry ([.ref h0, .int 0, .int 24]) (n := 3) (Nat.le_of_ble_eq_true rfl)
  rw [lg_entry_eq]
  generalize (lg_sl ([.ref h0, .int 0, .int 24]) ++ List.replicate (3 - (lg_sl ([.ref h0, .int 0, .int 24])).length) Slot.unset).toArray = ls at hl ⊢
  have hl : lv_has ls 3 [(0, .ref h0), (1, .int 0), (2, .int 24)] := hl
  refine lv_aload_n hx hb dX5_init_0 rfl (lv_at hl 0 rfl) ?_
  refine W.objInit hx hb hown (hz _ (z_in (List.mem_of_getElem? (i := 100) (by decide +kernel)) rfl)) (hz _ (z_in (List.mem_of_getElem? (i := 93) (by decide +kernel)) rfl)) (hz _ (z_in (List.mem_of_getElem? (i := 94) (by decide +kernel)) rfl)) rfl (by rw [hml]; exact hl.1) rfl dX5_init_1 (Nat.le_of_ble_eq_true rfl) (Nat.le_of_ble_eq_true rfl) ?_
  refine W.eq (g2 := F0 m 4 ls []) rfl ?_
  refine lv_aload_n hx hb dX5_init_4 rfl (lv_at hl 0 rfl) ?_
  refine lv_iload_n hx hb dX5_init_5 rfl (lv_at hl 1 rfl) ?_
  refine va_putF (D := D) (ci := 4) (v := .int 0) (ty := .boolean) (C := RX5) (T := TX5) (N := 3) hx hb hz z_ws5 tyX5 tyX5_ok nmX5 hown hK hP hD hS 0 rfl rfl 0 (by decide) (hz _ (z_in (List.mem_of_getElem? (i := 104) (by decide +kernel)) rfl)) (fun _ h9 => h9) rfl hin rfl (by decide +kernel) rfl rfl (Nat.le_of_ble_eq_true rfl) dX5_init_6 (fun H locs hP hD hS => ?_)
  have hP : va_P D vwCl [(h0, .inr (4, [.int 0, .null, .int 0]))] H := hP
  have hD : va_D A [(h0, .inr (4, [.int 0, .null, .int 0]))] := hD
  refine lv_aload_n hx hb dX5_init_9 rfl (lv_at hl 0 rfl) ?_
  refine lv_iconst (v := 0) hx hb dX5_init_10 (by decide) ?_
  refine lv_iload_n hx hb dX5_init_11 rfl (lv_at hl 2 rfl) ?_
  refine va_mmax hx hb (hml.trans hl.1.symm) hown (hz _ (z_in (List.mem_of_getElem? (i := 101) (by decide +kernel)) rfl)) (hz _ z_mmax.1) (hz _ z_mini) (hz _ z_mmax.2) (Nat.le_of_ble_eq_true rfl) (Nat.le_of_ble_eq_true rfl) (Nat.le_of_ble_eq_true rfl) (Nat.le_of_ble_eq_true rfl) dX5_init_12 ?_
  rw [show (if (0 : Int32) < 24 then (24 : Int32) else 0) = 24 from by decide]
  refine z_newa hx hb (atype := .int) (hz _ (z_in (List.mem_of_getElem? (i := 114) (by decide +kernel)) rfl)) (ty := .int) rfl hK 0 rfl (fun _ h => h) hP hD hS hA (n := 24) (N' := 24) (a0 := (24, .inl (fun _ => 0))) (fun _ => rfl) (by decide) (by decide +kernel) (Nat.le_of_ble_eq_true rfl) (Nat.le_of_ble_eq_true rfl) (Nat.le_of_ble_eq_true rfl) dX5_init_15 (fun q1 H hP hD hS => ?_)
  have hP : va_P D vwCl [(h0, .inr (4, [.int 0, .null, .int 0])), (q1, .inl (tc 0, 24, .inl (fun _ => 0)))] H := hP
  have hD : va_D A [(h0, .inr (4, [.int 0, .null, .int 0])), (q1, .inl (tc 0, 24, .inl (fun _ => 0)))] := hD
  refine W.widen (k := 1) (n := 24) (by omega) (by omega) ?_
  refine va_putF (D := D) (ci := 4) (v := .ref q1) (ty := .array .int) (C := RX5) (T := TX5) (N := 3) hx hb hz z_ws5 tyX5 tyX5_ok nmX5 hown hK hP hD hS 0 rfl rfl 1 (by decide) (hz _ (z_in (List.mem_of_getElem? (i := 105) (by decide +kernel)) rfl)) (fun _ h9 => h9) rfl hin rfl (by decide +kernel) rfl rfl (Nat.le_of_ble_eq_true rfl) dX5_init_17 (fun H locs hP hD hS => ?_)
  have hP : va_P D vwCl [(h0, .inr (4, [.int 0, .ref q1, .int 0])), (q1, .inl (tc 0, 24, .inl (fun _ => 0)))] H := hP
  have hD : va_D A [(h0, .inr (4, [.int 0, .ref q1, .int 0])), (q1, .inl (tc 0, 24, .inl (fun _ => 0)))] := hD
  refine W.widen (k := 1) (n := 24) (Nat.le_refl _) (Nat.le_refl _) ?_
  exact W.vret hx hb hr (fun t ht hW => ⟨⟨(), rfl, trivial, q1, by rw [ht]; exact hP, va_K.moved hW.alike hK, hD⟩, hS.F ht⟩) hS.2.2 dX5_init_20
