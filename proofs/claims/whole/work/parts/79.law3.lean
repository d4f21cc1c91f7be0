theorem dl_0 : decode code 0 = .ok (.new 7, 3) := by decide +kernel
theorem dl_3 : decode code 3 = .ok (.dup, 1) := by decide +kernel
theorem dl_4 : decode code 4 = .ok (.invokespecial 9, 3) := by decide +kernel
theorem dl_7 : decode code 7 = .ok (.astore_n 1, 1) := by decide +kernel
theorem dl_8 : decode code 8 = .ok (.new 10, 3) := by decide +kernel
theorem dl_11 : decode code 11 = .ok (.dup, 1) := by decide +kernel
theorem dl_12 : decode code 12 = .ok (.invokespecial 12, 3) := by decide +kernel
theorem dl_15 : decode code 15 = .ok (.astore_n 2, 1) := by decide +kernel
theorem dl_16 : decode code 16 = .ok (.iconst 0, 1) := by decide +kernel
theorem dl_17 : decode code 17 = .ok (.istore_n 3, 1) := by decide +kernel
theorem dl_18 : decode code 18 = .ok (.iload_n 3, 1) := by decide +kernel
theorem dl_19 : decode code 19 = .ok (.aload_n 0, 1) := by decide +kernel
theorem dl_20 : decode code 20 = .ok (.arraylength, 1) := by decide +kernel
theorem dl_21 : decode code 21 = .ok (.bipush 6, 2) := by decide +kernel
theorem dl_23 : decode code 23 = .ok (.isub, 1) := by decide +kernel
theorem dl_24 : decode code 24 = .ok (.if_icmp .gt 1247, 3) := by decide +kernel
theorem dl_27 : decode code 27 = .ok (.aload_n 0, 1) := by decide +kernel
theorem dl_28 : decode code 28 = .ok (.iload_n 3, 1) := by decide +kernel
theorem dl_29 : decode code 29 = .ok (.iaload, 1) := by decide +kernel
theorem dl_30 : decode code 30 = .ok (.bipush 63, 2) := by decide +kernel
theorem dl_32 : decode code 32 = .ok (.iand, 1) := by decide +kernel
theorem dl_33 : decode code 33 = .ok (.tableswitch 1232 0 34 #[155, 188, 211, 234, 257, 290, 313, 356, 369, 392, 425, 448, 491, 534, 567, 590, 603, 636, 669, 702, 725, 768, 781, 794, 827, 850, 894, 937, 980, 1003, 1056, 1099, 1162, 1195, 1218], 155) := by decide +kernel
theorem dl_1265 : decode code 1265 = .ok (.iinc 3 6, 3) := by decide +kernel
theorem dl_1268 : decode code 1268 = .ok (.goto (-1250), 3) := by decide +kernel
theorem dl_1271 : decode code 1271 = .ok (.iconst 1, 1) := by decide +kernel
theorem dl_1272 : decode code 1272 = .ok (.ireturn, 1) := by decide +kernel
theorem lw_le {L i : Nat} (hL : L ≤ 3072) (hi : i ≤ L) (q : ¬ Int32.ofNat L - 6 < nI i) : i + 6 ≤ L := by
  have e : Int32.ofInt (L : Int) = nI L := by rw [← nI_toInt (n := L) (by omega), Int32.ofInt_toInt]
  have e2 : Int32.ofNat L - 6 = Int32.ofInt ((L : Int) - 6) := by rw [Int32.ofInt_sub, e]; rfl
  rw [e2, Int32.lt_iff_toInt_lt, zi_to (⟨by omega, by omega⟩), nI_toInt (by omega)] at q
  omega
set_option maxHeartbeats 4000000 in
/-- THE LAW'S LOOP: at its head, with i ints read, both sides hold the same state -/
theorem law_loop {p : Program} {l : Launch} {e : Env} {s : State} {m : MethodId} {below : List Frame} {meth : Method} {c : Code} {b L : Nat} {xs : Nat → Int32} {G : zFD} (C0 : lw_At p s m meth c b L xs) (hL : L ≤ 3072) (hG : G.2.1 = 75) (hK : va_K G.1 vwCl (zty G) s) : ∀ (n i : Nat) (S : zAb), i ≤ L → L + 1 ≤ i + n → aOk S → LW p l e s m below meth c b G i 18 S := by
  intro n
  induction n with
  | zero => intro i S h1 h2; exact absurd h2 (by omega)
  | succ n ih =>
    intro i S hi hin ho σ H locs ls hR hM hP hD hS hl
    have C1 := C0
    obtain ⟨hx, hb, hr, hml, hown, hts, hX, hbl, hlocks, hgv⟩ := C0
    have hbA : ¬ (fun q : Nat => s.heap.size ≤ q) b := Nat.not_le.mpr hbl
    have hend : i + 6 ≤ L → ∀ S' : zAb, aOk S' → LW p l e s m below meth c b G i 1265 S' := by
      intro hi6 S' ho' σ H locs ls hR hM hP hD hS hl
      refine lv_iinc (v := nI (i + 6)) (lv' := [(3, .int (nI (i + 6))), (2, .ref (G.2.2.1 44)), (1, .ref (G.2.2.1 0)), (0, .ref b)]) hx hb dl_1265 hl (k := 0) rfl (by rw [← nI_add, ← lw_nI (Nat.le_refl 6)]; rfl) (by decide) rfl (fun ls hl => ?_)
      refine lv_goto (tgt := 18) hx hb dl_1268 (by decide) ?_
      exact ih (i + 6) S' hi6 (by omega) ho' σ H locs ls hR hM hP hD hS hl
    refine lv_iload_n hx hb dl_18 rfl (lv_at hl 0 rfl) ?_
    refine lv_aload_n hx hb dl_19 rfl (lv_at hl 3 rfl) ?_
    refine va_slen hx hb hX hbl hbA hS dl_20 ?_
    refine lv_bipush (v := 6) hx hb dl_21 (by decide) ?_
    refine lv_isub hx hb dl_23 ?_
    refine lv_icmp_gt (tgt := 1271) hx hb dl_24 (by decide) (fun q => ?_) (fun q => ?_)
    · refine lv_iconst (v := 1) hx hb dl_1271 (by decide) ?_
      refine va_forget (fun q hq => hS.2.2 q hq) ?_
      exact lw_ret hx hb hr hlocks dl_1272
    · have hi6 : i + 6 ≤ L := lw_le hL hi q
      refine lv_aload_n hx hb dl_27 rfl (lv_at hl 3 rfl) ?_
      refine lv_iload_n hx hb dl_28 rfl (lv_at hl 0 rfl) ?_
      refine va_sld hx hb hX hbl hbA hS (vp_in_nI (by omega) (by omega)) dl_29 ?_
      refine lv_bipush (v := 63) hx hb dl_30 (by decide) ?_
      refine lv_iand hx hb dl_32 ?_
      generalize (xs (nI i).toNatClampNeg &&& 63) = x
      by_cases h1 : x.toInt < 0
      · exact lv_tableOut (tgt := 1265) hx hb dl_33 (Or.inl h1) (by decide) (hend hi6 S ho σ H locs ls hR hM hP hD hS hl)
      by_cases h2 : 34 < x.toInt
      · exact lv_tableOut (tgt := 1265) hx hb dl_33 (Or.inr h2) (by decide) (hend hi6 S ho σ H locs ls hR hM hP hD hS hl)
      obtain ⟨k, hk, h⟩ : ∃ k : Nat, k < 35 ∧ x.toInt = (k : Int) := ⟨x.toInt.toNat, by omega, by omega⟩
      match k, hk, h with
      | 0, _, h => exact lv_tableIn (tgt := 188) hx hb dl_33 h1 h2 (by rw [h]; rfl) (by decide) (lc_type C1 hL hG hK i S hi6 ho (hend hi6) σ H locs ls hR hM hP hD hS hl)
      | 1, _, h => exact lv_tableIn (tgt := 221) hx hb dl_33 h1 h2 (by rw [h]; rfl) (by decide) (lc_wipe C1 hL hG hK i S hi6 ho (hend hi6) σ H locs ls hR hM hP hD hS hl)
      | 2, _, h => exact lv_tableIn (tgt := 244) hx hb dl_33 h1 h2 (by rw [h]; rfl) (by decide) (lc_undo C1 hL hG hK i S hi6 ho (hend hi6) σ H locs ls hR hM hP hD hS hl)
      | 3, _, h => exact lv_tableIn (tgt := 267) hx hb dl_33 h1 h2 (by rw [h]; rfl) (by decide) (lc_fault C1 hL hG hK i S hi6 ho (hend hi6) σ H locs ls hR hM hP hD hS hl)
      | 4, _, h => exact lv_tableIn (tgt := 290) hx hb dl_33 h1 h2 (by rw [h]; rfl) (by decide) (lc_person C1 hL hG hK i S hi6 ho (hend hi6) σ H locs ls hR hM hP hD hS hl)
      | 5, _, h => exact lv_tableIn (tgt := 323) hx hb dl_33 h1 h2 (by rw [h]; rfl) (by decide) (lc_window C1 hL hG hK i S hi6 ho (hend hi6) σ H locs ls hR hM hP hD hS hl)
      | 6, _, h => exact lv_tableIn (tgt := 346) hx hb dl_33 h1 h2 (by rw [h]; rfl) (by decide) (lc_event C1 hL hG hK i S hi6 ho (hend hi6) σ H locs ls hR hM hP hD hS hl)
      | 7, _, h => exact lv_tableIn (tgt := 389) hx hb dl_33 h1 h2 (by rw [h]; rfl) (by decide) (lc_back C1 hL hG hK i S hi6 ho (hend hi6) σ H locs ls hR hM hP hD hS hl)
      | 8, _, h => exact lv_tableIn (tgt := 402) hx hb dl_33 h1 h2 (by rw [h]; rfl) (by decide) (lc_read C1 hL hG hK i S hi6 ho (hend hi6) σ H locs ls hR hM hP hD hS hl)
      | 9, _, h => exact lv_tableIn (tgt := 425) hx hb dl_33 h1 h2 (by rw [h]; rfl) (by decide) (lc_stands C1 hL hG hK i S hi6 ho (hend hi6) σ H locs ls hR hM hP hD hS hl)
      | 10, _, h => exact lv_tableIn (tgt := 458) hx hb dl_33 h1 h2 (by rw [h]; rfl) (by decide) (lc_many C1 hL hG hK i S hi6 ho (hend hi6) σ H locs ls hR hM hP hD hS hl)
      | 11, _, h => exact lv_tableIn (tgt := 481) hx hb dl_33 h1 h2 (by rw [h]; rfl) (by decide) (lc_at C1 hL hG hK i S hi6 ho (hend hi6) σ H locs ls hR hM hP hD hS hl)
      | 12, _, h => exact lv_tableIn (tgt := 524) hx hb dl_33 h1 h2 (by rw [h]; rfl) (by decide) (lc_apart C1 hL hG hK i S hi6 ho (hend hi6) σ H locs ls hR hM hP hD hS hl)
      | 13, _, h => exact lv_tableIn (tgt := 567) hx hb dl_33 h1 h2 (by rw [h]; rfl) (by decide) (lc_done C1 hL hG hK i S hi6 ho (hend hi6) σ H locs ls hR hM hP hD hS hl)
      | 14, _, h => exact lv_tableIn (tgt := 600) hx hb dl_33 h1 h2 (by rw [h]; rfl) (by decide) (lc_alfred C1 hL hG hK i S hi6 ho (hend hi6) σ H locs ls hR hM hP hD hS hl)
      | 15, _, h => exact lv_tableIn (tgt := 623) hx hb dl_33 h1 h2 (by rw [h]; rfl) (by decide) (lc_kettle C1 hL hG hK i S hi6 ho (hend hi6) σ H locs ls hR hM hP hD hS hl)
      | 16, _, h => exact lv_tableIn (tgt := 636) hx hb dl_33 h1 h2 (by rw [h]; rfl) (by decide) (lc_come C1 hL hG hK i S hi6 ho (hend hi6) σ H locs ls hR hM hP hD hS hl)
      | 17, _, h => exact lv_tableIn (tgt := 669) hx hb dl_33 h1 h2 (by rw [h]; rfl) (by decide) (lc_open C1 hL hG hK i S hi6 ho (hend hi6) σ H locs ls hR hM hP hD hS hl)
      | 18, _, h => exact lv_tableIn (tgt := 702) hx hb dl_33 h1 h2 (by rw [h]; rfl) (by decide) (lc_let C1 hL hG hK i S hi6 ho (hend hi6) σ H locs ls hR hM hP hD hS hl)
      | 19, _, h => exact lv_tableIn (tgt := 735) hx hb dl_33 h1 h2 (by rw [h]; rfl) (by decide) (lc_spare C1 hL hG hK i S hi6 ho (hend hi6) σ H locs ls hR hM hP hD hS hl)
      | 20, _, h => exact lv_tableIn (tgt := 758) hx hb dl_33 h1 h2 (by rw [h]; rfl) (by decide) (lc_seen C1 hL hG hK i S hi6 ho (hend hi6) σ H locs ls hR hM hP hD hS hl)
      | 21, _, h => exact lv_tableIn (tgt := 801) hx hb dl_33 h1 h2 (by rw [h]; rfl) (by decide) (lc_forget C1 hL hG hK i S hi6 ho (hend hi6) σ H locs ls hR hM hP hD hS hl)
      | 22, _, h => exact lv_tableIn (tgt := 814) hx hb dl_33 h1 h2 (by rw [h]; rfl) (by decide) (lc_never C1 hL hG hK i S hi6 ho (hend hi6) σ H locs ls hR hM hP hD hS hl)
      | 23, _, h => exact lv_tableIn (tgt := 827) hx hb dl_33 h1 h2 (by rw [h]; rfl) (by decide) (lc_was C1 hL hG hK i S hi6 ho (hend hi6) σ H locs ls hR hM hP hD hS hl)
      | 24, _, h => exact lv_tableIn (tgt := 860) hx hb dl_33 h1 h2 (by rw [h]; rfl) (by decide) (lc_ask C1 hL hG hK i S hi6 ho (hend hi6) σ H locs ls hR hM hP hD hS hl)
      | 25, _, h => exact lv_tableIn (tgt := 883) hx hb dl_33 h1 h2 (by rw [h]; rfl) (by decide) (lc_chance C1 hL hG hK i S hi6 ho (hend hi6) σ H locs ls hR hM hP hD hS hl)
      | 26, _, h => exact lv_tableIn (tgt := 927) hx hb dl_33 h1 h2 (by rw [h]; rfl) (by decide) (lc_decades C1 hL hG hK i S hi6 ho (hend hi6) σ H locs ls hR hM hP hD hS hl)
      | 27, _, h => exact lv_tableIn (tgt := 970) hx hb dl_33 h1 h2 (by rw [h]; rfl) (by decide) (lc_sheet C1 hL hG hK i S hi6 ho (hend hi6) σ H locs ls hR hM hP hD hS hl)
      | 28, _, h => exact lv_tableIn (tgt := 1013) hx hb dl_33 h1 h2 (by rw [h]; rfl) (by decide) (lc_lose C1 hL hG hK i S hi6 ho (hend hi6) σ H locs ls hR hM hP hD hS hl)
      | 29, _, h => exact lv_tableIn (tgt := 1036) hx hb dl_33 h1 h2 (by rw [h]; rfl) (by decide) (lc_put C1 hL hG hK i S hi6 ho (hend hi6) σ H locs ls hR hM hP hD hS hl)
      | 30, _, h => exact lv_tableIn (tgt := 1089) hx hb dl_33 h1 h2 (by rw [h]; rfl) (by decide) (lc_get C1 hL hG hK i S hi6 ho (hend hi6) σ H locs ls hR hM hP hD hS hl)
      | 31, _, h => exact lv_tableIn (tgt := 1132) hx hb dl_33 h1 h2 (by rw [h]; rfl) (by decide) (lc_copy C1 hL hG hK i S hi6 ho (hend hi6) σ H locs ls hR hM hP hD hS hl)
      | 32, _, h => exact lv_tableIn (tgt := 1195) hx hb dl_33 h1 h2 (by rw [h]; rfl) (by decide) (lc_write C1 hL hG hK i S hi6 ho (hend hi6) σ H locs ls hR hM hP hD hS hl)
      | 33, _, h => exact lv_tableIn (tgt := 1228) hx hb dl_33 h1 h2 (by rw [h]; rfl) (by decide) (lc_count C1 hL hG hK i S hi6 ho (hend hi6) σ H locs ls hR hM hP hD hS hl)
      | 34, _, h => exact lv_tableIn (tgt := 1251) hx hb dl_33 h1 h2 (by rw [h]; rfl) (by decide) (lc_digest C1 hL hG hK i S hi6 ho (hend hi6) σ H locs ls hR hM hP hD hS hl)
      | k + 35, hk, _ => exact absurd hk (by omega)
