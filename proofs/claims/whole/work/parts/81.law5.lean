set_option maxHeartbeats 40000000 in
set_option maxRecDepth 100000 in
theorem lw_w75 {D : va_G} {tc : Nat → ClassId} {cA : ClassId} {σ : zSt} {ad : Nat → Nat} {q q1 q2 q3 q4 q5 q6 q7 q8 q9 q10 q11 q12 q13 q14 q15 q16 q17 q18 q19 q20 q21 q22 q23 q24 q25 q26 q27 q28 q29 q30 : Nat} {ad2 : Nat → Nat} {σ2 : zSt} (h2 : ad2 = fun k => bif Nat.blt k 44 then ad k else ([q, q1, q2, q3, q4, q5, q6, q7, q8, q9, q10, q11, q12, q13, q14, q15, q16, q17, q18, q19, q20, q21, q22, q23, q24, q25, q26, q27, q28, q29, q30] : List Nat).getD (k - 44) 0) (hs2 : σ2 = (fun k j => bif Nat.blt k 44 then σ.1 k j else 0, fun k j => bif Nat.blt k 44 then σ.2 k j else 0)) : zwl (D, 75, ad2, tcS tc cA) σ2 = List.set (((zwl (D, 44, ad, tcS tc cA) σ) : va_W) ++ ([(q, .inr (6, [.ref q1, .ref q2, .int 0, .ref q3, .ref q4, .ref q5, .int 0, .ref q6, .int 0, .ref q7, .ref q8, .ref q9, .int 0, .ref q10, .ref q11, .ref q12, .int 0, .int 0, .int 0, .int 0, .ref q13, .ref q14, .ref q15, .ref q16, .ref q17, .ref q18, .ref q19, .ref q20, .ref q21, .int 0, .ref q22, .ref q23, .ref q24, .ref q25, .ref q26, .ref q27, .ref q28, .ref q29, .ref q30, .int 0])), (q1, .inl (tcS tc cA 0, 2, .inl (fun _ => 0))), (q2, .inl (tcS tc cA 0, 94, .inl (fun _ => 0))), (q3, .inl (tcS tc cA 0, 13, .inl (fun _ => 0))), (q4, .inl (tcS tc cA 0, 13, .inl (fun _ => 0))), (q5, .inl (tcS tc cA 0, 13, .inl (fun _ => 0))), (q6, .inl (tcS tc cA 0, 24, .inl (fun _ => 0))), (q7, .inl (tcS tc cA 0, 9, .inl (fun _ => 0))), (q8, .inl (tcS tc cA 0, 9, .inl (fun _ => 0))), (q9, .inl (tcS tc cA 0, 9, .inl (fun _ => 0))), (q10, .inl (tcS tc cA 0, 9, .inl (fun _ => 0))), (q11, .inl (tcS tc cA 0, 9, .inl (fun _ => 0))), (q12, .inl (tcS tc cA 0, 9, .inl (fun _ => 0))), (q13, .inl (tcS tc cA 0, 13, .inl (fun _ => 0))), (q14, .inl (tcS tc cA 0, 12, .inl (fun _ => 0))), (q15, .inl (tcS tc cA 0, 12, .inl (fun _ => 0))), (q16, .inl (tcS tc cA 0, 12, .inl (fun _ => 0))), (q17, .inl (tcS tc cA 0, 288, .inl (fun _ => 0))), (q18, .inl (tcS tc cA 0, 288, .inl (fun _ => 0))), (q19, .inl (tcS tc cA 0, 288, .inl (fun _ => 0))), (q20, .inl (tcS tc cA 0, 24, .inl (fun _ => 0))), (q21, .inl (tcS tc cA 0, 2, .inl (fun _ => 0))), (q22, .inl (tcS tc cA 0, 8, .inl (fun _ => 0))), (q23, .inl (tcS tc cA 0, 8, .inl (fun _ => 0))), (q24, .inl (tcS tc cA 0, 8, .inl (fun _ => 0))), (q25, .inl (tcS tc cA 1, 240, .inr (.inl (fun _ => 0)))), (q26, .inl (tcS tc cA 2, 4, .inl (fun _ => 0))), (q27, .inl (tcS tc cA 0, 4, .inl (fun _ => 0))), (q28, .inl (tcS tc cA 0, 4, .inl (fun _ => 0))), (q29, .inl (tcS tc cA 0, 240, .inl (fun _ => 0))), (q30, .inl (tcS tc cA 0, 60, .inl (fun _ => 0)))] : va_W)) 33 (ad 33, .inl (tcS tc cA 3, 4, .inr (.inr (.inr (.inr (fun j => some ((fun k => bif Nat.blt k 44 then ad k else ([q, q1, q2, q3, q4, q5, q6, q7, q8, q9, q10, q11, q12, q13, q14, q15, q16, q17, q18, q19, q20, q21, q22, q23, q24, q25, q26, q27, q28, q29, q30] : List Nat).getD (k - 44) 0) (33 + 1 + 2 * j)))))))) := by
  sorry
set_option maxHeartbeats 40000000 in
set_option maxRecDepth 100000 in
/-- THE LAW, from its entry -/
theorem whole_start {p : Program} {e : Env} {s : State} {m : MethodId} {below : List Frame} {meth : Method} {c : Code} (l : Launch) (hflags : l.flags = flags0) {b L : Nat} {xs : Nat → Int32} (hL : L ≤ 3072) (C0 : lw_At p s m meth c b L xs) : W p l e room_1 s m #[Value.ref b] below meth c s.heap [] 0 0 (lw_Z below #[Value.ref b] s) (entryFrame m ([Value.ref b] : List Value).toArray 4) := by
  have C1 := C0
  obtain ⟨D, tc, hK, hZ⟩ := lw_K0 C0
  obtain ⟨hx, hb, hr, hml, hown, hts, hX, hbl, hlocks, hgv⟩ := C0
  have hz : ∀ w ∈ z_tbl, w.before #[Value.ref b] s = true := fun w hw => hts w (List.mem_filter.mp hw).1
  have hA : ∀ q : Nat, s.heap.size ≤ q → (fun q : Nat => s.heap.size ≤ q) q := fun _ h => h
  have hS : va_S (fun q : Nat => s.heap.size ≤ q) s.heap s.heap [] := va_S.rf
  have hP : va_P D vwCl [] s.heap := fun k q h => by simp at h
  have hD : va_D (fun q : Nat => s.heap.size ≤ q) [] := ⟨fun i j p q h => by simp at h, fun k q h => by simp at h⟩
  have hl := lv_entry ([.ref b]) (n := 4) (Nat.le_of_ble_eq_true rfl)
  rw [lg_entry_eq]
  generalize (lg_sl ([.ref b]) ++ List.replicate (4 - (lg_sl ([.ref b])).length) Slot.unset).toArray = ls at hl ⊢
  have hl : lv_has ls 4 [(0, .ref b)] := hl
  refine va_new (ci := 5) (fs := [.null, .null, .null, .null, .null, .null, .null, .null, .null, .null, .int 0, .int 0]) (C := RX6) (T := TX6) (N := 12) hx hb hz z_ws6 tyX6 tyX6_ok hown (hz _ (z_in (List.mem_of_getElem? (i := 87) (by decide +kernel)) rfl)) (hz _ (z_in (List.mem_of_getElem? (i := 88) (by decide +kernel)) rfl)) (hz _ (z_in (List.mem_of_getElem? (i := 76) (by decide +kernel)) rfl)) hK hP hD hS hA rfl (fun j hj => by rcases (show j = 0 ∨ j = 1 ∨ j = 2 ∨ j = 3 ∨ j = 4 ∨ j = 5 ∨ j = 6 ∨ j = 7 ∨ j = 8 ∨ j = 9 ∨ j = 10 ∨ j = 11 by omega) with rfl | rfl | rfl | rfl | rfl | rfl | rfl | rfl | rfl | rfl | rfl | rfl <;> rfl) (Nat.le_of_ble_eq_true rfl) (Nat.le_of_ble_eq_true rfl) dl_0 (fun q0 H hP hD hS => ?_)
  have hP : va_P D vwCl [(q0, .inr (5, [.null, .null, .null, .null, .null, .null, .null, .null, .null, .null, .int 0, .int 0]))] H := hP
  have hD : va_D (fun q : Nat => s.heap.size ≤ q) [(q0, .inr (5, [.null, .null, .null, .null, .null, .null, .null, .null, .null, .null, .int 0, .int 0]))] := hD
  refine W.widen (k := 1) (n := 12) (by omega) (by omega) ?_
  refine lv_dup hx hb dl_3 rfl ?_
  have hFc := va_free (wc := [(q0, .inr (5, [.null, .null, .null, .null, .null, .null, .null, .null, .null, .null, .int 0, .int 0]))]) hD hS hA [0] rfl
  refine va_callv (va_runI (As := []) (rest := [.ref q0]) ⟨hx, hb, hml, hown, hz⟩ (c_init_X6 l D tc q0 H.size) (cwI 0 hz (z_goodIn2 (z_in (List.mem_of_getElem? (i := 91) (by decide +kernel)) rfl)) rfl rfl rfl (hz _ (z_in (List.mem_of_getElem? (i := 76) (by decide +kernel)) rfl)) (hz _ (z_in (List.mem_of_getElem? (i := 89) (by decide +kernel)) rfl)) (hz _ (z_in (List.mem_of_getElem? (i := 90) (by decide +kernel)) rfl)) rfl (by decide +kernel) ⟨(Nat.le_of_ble_eq_true rfl), (Nat.le_of_ble_eq_true rfl)⟩) ⟨fun a U g mk q => by obtain ⟨q0, q1, qP, qK, qD, qZ⟩ := q; exact ⟨q0, q1, qP, va_K.moved (u := U) (U := U.calling g mk a) (Vm.Alike.refl U.vm) qK, qD, zNW.same (u := U) (U := U.calling g mk a) rfl qZ⟩, fun U hU hW => ⟨rfl, by rw [hU], by rw [hU]; exact hP, va_K.moved hW.alike hK, hD.weaken (fun _ _ _ _ => trivial), zNW.warm hW hZ⟩⟩ rfl rfl hl.1 rfl (lv_room (Nat.le_of_ble_eq_true rfl)) dl_4 ⟨(Nat.le_of_ble_eq_true rfl), (Nat.le_of_ble_eq_true rfl)⟩) hS (fun q _ h => hFc q h) hFc (fun u t H1 locs ht hvm hw hB hz1 hk1 hS => ?_)
  obtain ⟨ad, cA, σ, e0, hP1, hK1, hD1, hRC⟩ := hB
  rw [ht] at hP1
  have hK1 := va_K.moved hvm.symm hK1
  obtain ⟨hP, hD⟩ := va_join (wr := []) (w1 := (zwl (D, 44, ad, tcS tc cA) σ)) hP hD [0] [] rfl rfl (by decide) (by decide) hk1 hFc hP1 hD1
  generalize H1 = H at hP hS ⊢
  have hP : va_P D vwCl (zwl (D, 44, ad, tcS tc cA) σ) H := hP
  have hD : va_D (fun q : Nat => s.heap.size ≤ q) (zwl (D, 44, ad, tcS tc cA) σ) := hD
  refine W.widen (k := 44) (n := 1219) (by omega) (by omega) ?_
  refine lv_astore_n (lv' := [(1, .ref q0), (0, .ref b)]) hx hb dl_7 rfl hl (by decide) rfl (fun ls hl => ?_)
  refine va_new (ci := 6) (fs := [.null, .null, .int 0, .null, .null, .null, .int 0, .null, .int 0, .null, .null, .null, .int 0, .null, .null, .null, .int 0, .int 0, .int 0, .int 0, .null, .null, .null, .null, .null, .null, .null, .null, .null, .int 0, .null, .null, .null, .null, .null, .null, .null, .null, .null, .int 0]) (C := RX7) (T := TX7) (N := 40) hx hb hz z_ws7 tyX7 tyX7_ok hown (hz _ (z_in (List.mem_of_getElem? (i := 843) (by decide +kernel)) rfl)) (hz _ (z_in (List.mem_of_getElem? (i := 844) (by decide +kernel)) rfl)) (hz _ (z_in (List.mem_of_getElem? (i := 84) (by decide +kernel)) rfl)) hK1 hP hD hS hA rfl (fun j hj => by rcases (show j = 0 ∨ j = 1 ∨ j = 2 ∨ j = 3 ∨ j = 4 ∨ j = 5 ∨ j = 6 ∨ j = 7 ∨ j = 8 ∨ j = 9 ∨ j = 10 ∨ j = 11 ∨ j = 12 ∨ j = 13 ∨ j = 14 ∨ j = 15 ∨ j = 16 ∨ j = 17 ∨ j = 18 ∨ j = 19 ∨ j = 20 ∨ j = 21 ∨ j = 22 ∨ j = 23 ∨ j = 24 ∨ j = 25 ∨ j = 26 ∨ j = 27 ∨ j = 28 ∨ j = 29 ∨ j = 30 ∨ j = 31 ∨ j = 32 ∨ j = 33 ∨ j = 34 ∨ j = 35 ∨ j = 36 ∨ j = 37 ∨ j = 38 ∨ j = 39 by omega) with rfl | rfl | rfl | rfl | rfl | rfl | rfl | rfl | rfl | rfl | rfl | rfl | rfl | rfl | rfl | rfl | rfl | rfl | rfl | rfl | rfl | rfl | rfl | rfl | rfl | rfl | rfl | rfl | rfl | rfl | rfl | rfl | rfl | rfl | rfl | rfl | rfl | rfl | rfl | rfl <;> rfl) (Nat.le_of_ble_eq_true rfl) (Nat.le_of_ble_eq_true rfl) dl_8 (fun q H hP hD hS => ?_)
  refine W.widen (k := 45) (n := 1259) (by omega) (by omega) ?_
  refine lv_dup hx hb dl_11 rfl ?_
  have hlen : (zwl (D, 44, ad, tcS tc cA) σ).length = 44 := by unfold zwl; rw [List.length_map, List.length_range]
  have hPc := va_P_last hP
  have hDc := va_D_last hD
  have hKc : va_K D vwCl (tys3 (tcS tc cA)) s := hK1.sub [0, 1, 2] rfl
  have hFc := va_free (wc := [(q, .inr (6, [.null, .null, .int 0, .null, .null, .null, .int 0, .null, .int 0, .null, .null, .null, .int 0, .null, .null, .null, .int 0, .int 0, .int 0, .int 0, .null, .null, .null, .null, .null, .null, .null, .null, .null, .int 0, .null, .null, .null, .null, .null, .null, .null, .null, .null, .int 0]))]) hD hS hA [44] (va_cut hlen)
  refine va_callv (va_runI (As := []) (rest := [.ref q]) ⟨hx, hb, hml, hown, hz⟩ (c_init_X7 l D (tcS tc cA) q H.size) (cwI 0 hz (z_goodIn2 (z_in (List.mem_of_getElem? (i := 847) (by decide +kernel)) rfl)) rfl rfl rfl (hz _ (z_in (List.mem_of_getElem? (i := 84) (by decide +kernel)) rfl)) (hz _ (z_in (List.mem_of_getElem? (i := 845) (by decide +kernel)) rfl)) (hz _ (z_in (List.mem_of_getElem? (i := 846) (by decide +kernel)) rfl)) rfl (by decide +kernel) ⟨(Nat.le_of_ble_eq_true rfl), (Nat.le_of_ble_eq_true rfl)⟩) ⟨fun a U g mk q => by obtain ⟨q0, q1, qP, qK, qD⟩ := q; exact ⟨q0, q1, qP, va_K.moved (u := U) (U := U.calling g mk a) (Vm.Alike.refl U.vm) qK, qD⟩, fun U hU hW => ⟨rfl, by rw [hU], by rw [hU]; exact hPc, va_K.moved hW.alike hKc, hDc.weaken (fun _ _ _ _ => trivial)⟩⟩ rfl rfl hl.1 rfl (lv_room (Nat.le_of_ble_eq_true rfl)) dl_12 ⟨(Nat.le_of_ble_eq_true rfl), (Nat.le_of_ble_eq_true rfl)⟩) hS (fun q _ h => hFc q h) hFc (fun u t H1 locs ht hvm hw hB hz1 hk1 hS => ?_)
  obtain ⟨q1, q2, q3, q4, q5, q6, q7, q8, q9, q10, q11, q12, q13, q14, q15, q16, q17, q18, q19, q20, q21, q22, q23, q24, q25, q26, q27, q28, q29, q30, hP1, hK2, hD1⟩ := hB
  rw [ht] at hP1
  obtain ⟨hP, hD⟩ := va_join (wr := (zwl (D, 44, ad, tcS tc cA) σ)) (w1 := [(q, .inr (6, [.ref q1, .ref q2, .int 0, .ref q3, .ref q4, .ref q5, .int 0, .ref q6, .int 0, .ref q7, .ref q8, .ref q9, .int 0, .ref q10, .ref q11, .ref q12, .int 0, .int 0, .int 0, .int 0, .ref q13, .ref q14, .ref q15, .ref q16, .ref q17, .ref q18, .ref q19, .ref q20, .ref q21, .int 0, .ref q22, .ref q23, .ref q24, .ref q25, .ref q26, .ref q27, .ref q28, .ref q29, .ref q30, .int 0])), (q1, .inl (tcS tc cA 0, 2, .inl (fun _ => 0))), (q2, .inl (tcS tc cA 0, 94, .inl (fun _ => 0))), (q3, .inl (tcS tc cA 0, 13, .inl (fun _ => 0))), (q4, .inl (tcS tc cA 0, 13, .inl (fun _ => 0))), (q5, .inl (tcS tc cA 0, 13, .inl (fun _ => 0))), (q6, .inl (tcS tc cA 0, 24, .inl (fun _ => 0))), (q7, .inl (tcS tc cA 0, 9, .inl (fun _ => 0))), (q8, .inl (tcS tc cA 0, 9, .inl (fun _ => 0))), (q9, .inl (tcS tc cA 0, 9, .inl (fun _ => 0))), (q10, .inl (tcS tc cA 0, 9, .inl (fun _ => 0))), (q11, .inl (tcS tc cA 0, 9, .inl (fun _ => 0))), (q12, .inl (tcS tc cA 0, 9, .inl (fun _ => 0))), (q13, .inl (tcS tc cA 0, 13, .inl (fun _ => 0))), (q14, .inl (tcS tc cA 0, 12, .inl (fun _ => 0))), (q15, .inl (tcS tc cA 0, 12, .inl (fun _ => 0))), (q16, .inl (tcS tc cA 0, 12, .inl (fun _ => 0))), (q17, .inl (tcS tc cA 0, 288, .inl (fun _ => 0))), (q18, .inl (tcS tc cA 0, 288, .inl (fun _ => 0))), (q19, .inl (tcS tc cA 0, 288, .inl (fun _ => 0))), (q20, .inl (tcS tc cA 0, 24, .inl (fun _ => 0))), (q21, .inl (tcS tc cA 0, 2, .inl (fun _ => 0))), (q22, .inl (tcS tc cA 0, 8, .inl (fun _ => 0))), (q23, .inl (tcS tc cA 0, 8, .inl (fun _ => 0))), (q24, .inl (tcS tc cA 0, 8, .inl (fun _ => 0))), (q25, .inl (tcS tc cA 1, 240, .inr (.inl (fun _ => 0)))), (q26, .inl (tcS tc cA 2, 4, .inl (fun _ => 0))), (q27, .inl (tcS tc cA 0, 4, .inl (fun _ => 0))), (q28, .inl (tcS tc cA 0, 4, .inl (fun _ => 0))), (q29, .inl (tcS tc cA 0, 240, .inl (fun _ => 0))), (q30, .inl (tcS tc cA 0, 60, .inl (fun _ => 0)))]) hP hD [44] (List.range 44) (va_cut hlen) (va_rest hlen) (by decide) (by decide) hk1 hFc hP1 hD1
  generalize H1 = H at hP hS ⊢
  refine W.widen (k := 75) (n := 2987) (by omega) (by omega) ?_
  refine lv_astore_n (lv' := [(2, .ref q), (1, .ref q0), (0, .ref b)]) hx hb dl_15 rfl hl (by decide) rfl (fun ls hl => ?_)
  refine lv_iconst (v := nI 0) hx hb dl_16 (by decide) ?_
  refine lv_istore_n (lv' := [(3, .int (nI 0)), (2, .ref q), (1, .ref q0), (0, .ref b)]) hx hb dl_17 rfl hl (by decide) rfl (fun ls hl => ?_)
  refine W.widen (k := 600000) (n := 7302250) (by omega) (by omega) ?_
  obtain ⟨ad2, h2⟩ : ∃ f : Nat → Nat, f = fun k => bif Nat.blt k 44 then ad k else ([q, q1, q2, q3, q4, q5, q6, q7, q8, q9, q10, q11, q12, q13, q14, q15, q16, q17, q18, q19, q20, q21, q22, q23, q24, q25, q26, q27, q28, q29, q30] : List Nat).getD (k - 44) 0 := ⟨_, rfl⟩
  obtain ⟨σ2, hs2⟩ : ∃ f : zSt, f = (fun k j => bif Nat.blt k 44 then σ.1 k j else 0, fun k j => bif Nat.blt k 44 then σ.2 k j else 0) := ⟨_, rfl⟩
  have hP3 := va_P_set1 (k := 33) (a := ad 33) (x := (tcS tc cA 3, 4, .inr (.inr (.inr (.inr (fun j => some (ad (33 + 1 + 2 * j)))))))) (y := (tcS tc cA 3, 4, .inr (.inr (.inr (.inr (fun j => some ((fun k => bif Nat.blt k 44 then ad k else ([q, q1, q2, q3, q4, q5, q6, q7, q8, q9, q10, q11, q12, q13, q14, q15, q16, q17, q18, q19, q20, q21, q22, q23, q24, q25, q26, q27, q28, q29, q30] : List Nat).getD (k - 44) 0) (33 + 1 + 2 * j)))))))) hP rfl (z_refs rfl rfl rfl rfl)
  have hD3 := va_D_set1 (k := 33) (a := ad 33) (e0 := .inl (tcS tc cA 3, 4, .inr (.inr (.inr (.inr (fun j => some (ad (33 + 1 + 2 * j)))))))) (e := .inl (tcS tc cA 3, 4, .inr (.inr (.inr (.inr (fun j => some ((fun k => bif Nat.blt k 44 then ad k else ([q, q1, q2, q3, q4, q5, q6, q7, q8, q9, q10, q11, q12, q13, q14, q15, q16, q17, q18, q19, q20, q21, q22, q23, q24, q25, q26, q27, q28, q29, q30] : List Nat).getD (k - 44) 0) (33 + 1 + 2 * j)))))))) hD rfl
  have hw := lw_w75 (D := D) (tc := tc) (cA := cA) h2 hs2
  rw [← hw] at hP3 hD3
  have e44 : ad2 44 = q := by rw [h2]; rfl
  have e00 : ad2 0 = q0 := by rw [h2]; exact e0
  have hl : lv_has ls 4 [(3, .int (nI 0)), (2, .ref (ad2 44)), (1, .ref (ad2 0)), (0, .ref b)] := by rw [e44, e00]; exact hl
  have hRC2 : RC σ2 aS0 := RC_low (fun a ha => by
    have hb1 : Nat.blt a 44 = true := Nat.blt_eq.mpr ha
    rw [hs2]
    refine ⟨funext fun j => ?_, funext fun j => ?_⟩
    · show (bif Nat.blt a 44 then σ.1 a j else 0) = _
      rw [hb1]; rfl
    · show (bif Nat.blt a 44 then σ.2 a j else 0) = _
      rw [hb1]; rfl) hRC
  have hRM2 : RM σ2 aS0 := RM_high (fun a ha => by
    rw [hs2]
    refine funext fun j => ?_
    show (bif Nat.blt a 44 then σ.1 a j else 0) = _
    have hb1 : Nat.blt a 44 = false := by
      cases h : Nat.blt a 44 with
      | false => rfl
      | true => exact absurd (Nat.blt_eq.mp h) (by omega)
    rw [hb1]; rfl) (RM_0 (y := fun _ _ => 0))
  exact law_loop (G := (D, 75, ad2, tcS tc cA)) C1 hL rfl hK1 (L + 1) 0 aS0 (Nat.zero_le L) (by omega) aOk_0 σ2 H _ ls hRC2 hRM2 hP3 hD3 hS hl
