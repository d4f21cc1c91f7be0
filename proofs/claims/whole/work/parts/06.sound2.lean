section SND2
variable {d : Nat} {Y : MI} {l : Launch} {p : Program} {e : Env} {R : Room} {s : State} {m : MethodId} {args : Array Value} {below : List Frame} {meth : Method} {c : Code} {G : zFD} {A : Nat → Prop} {post : Option VV → zSt → Prop} {t : Nat} {ds : List Nat} {pc : Nat} {L : List (Option VV)} {st : List VV} {σ : zSt} {K : zK}
theorem z_ld1 {i : Nat} {v : VV} (hv : L[i]? = some (some v)) (hL : zwtl G L) : zwt G v := hL v (List.mem_of_getElem? hv)
theorem z_llen {n i : Nat} {v : VV} (hn : L.length = n) : (zlput L i v).length = n := by
  unfold zlput; rw [List.length_set, zlclr_len, hn]
theorem z_llen2 {n i : Nat} {v : VV} (hn : L.length = n) : (zlput2 L i v).length = n := by
  unfold zlput2; rw [List.length_set, List.length_set, zlclr_len, hn]
set_option maxHeartbeats 4000000 in
/-- rows: loads -/
theorem st1_ald (C0 : Cx d Y p R s m args meth c G A) {i : Instr} (hi : i = .iaload ∨ i = .laload ∨ i = .baload ∨ i = .aaload) (hd : decode Y.2.1 pc = .ok (i, 1)) (h : st1 Y.2.2.2.2.1 i t ds pc L st σ K) (hk : ∀ ds pc L st σ, K ds pc L st σ → zV l p e R s m args below meth c G A Y post pc L st σ) : zV l p e R s m args below meth c G A Y post pc L st σ := by
  obtain ⟨hx, hb, hml, hown, hr, hlocks, hts, hR, hK, hG, hA⟩ := C0
  rcases hi with rfl | rfl | rfl | rfl
  · replace h := zpIR_i h
    obtain ⟨i, c1, k, r, rfl, h⟩ := h
    replace h := zif_i h
    obtain ⟨hc, hin, h⟩ := h
    have hc := Nat.eq_of_beq_eq_true hc
    subst hc
    intro H locs ls hP hD hS hl hn hL hT
    have hw : k < G.2.1 ∧ shG k = 8 := zw_h (zw_t hT)
    obtain ⟨h1, h2⟩ := z_ix hG hw.1 hin
    have hcell : (zwl G σ)[k]? = some (G.2.2.1 k, .inl (G.2.2.2 0, (zlen k).toNat, .inl (fun j : Nat => Int32.ofInt (σ.1 k j)))) := by rw [zwl_get hw.1, hw.2]; rfl
    refine va_iald (D := G.1) (cl := vwCl) hx hb hK hP k 0 hcell rfl h1 hd ?_
    have e1 : ((i.toNat : Nat) : Int) = i := Int.toNat_of_nonneg hin.1
    rw [h2]
    show W p l e R s m args below meth c H locs 0 0 _ (F0 m (pc + 1) ls (.int (Int32.ofInt (σ.1 k ((i.toNat : Nat) : Int))) :: _))
    rw [e1]
    exact hk _ _ _ _ _ h H locs ls hP hD hS hl hn hL (zw_c trivial (zw_t (zw_t hT)))
  · replace h := zpIR_i h
    obtain ⟨i, c1, k, r, rfl, h⟩ := h
    replace h := zif_i h
    obtain ⟨hc, hin, h⟩ := h
    have hc := Nat.eq_of_beq_eq_true hc
    subst hc
    intro H locs ls hP hD hS hl hn hL hT
    have hw : k < G.2.1 ∧ shG k = 9 := zw_h (zw_t hT)
    obtain ⟨h1, h2⟩ := z_ix hG hw.1 hin
    have hcell : (zwl G σ)[k]? = some (G.2.2.1 k, .inl (G.2.2.2 1, (zlen k).toNat, .inr (.inl (fun j : Nat => σ.2 k j)))) := by rw [zwl_get hw.1, hw.2]; rfl
    refine va_lald (D := G.1) (cl := vwCl) hx hb hK hP k 1 hcell rfl h1 hd ?_
    have e1 : ((i.toNat : Nat) : Int) = i := Int.toNat_of_nonneg hin.1
    rw [h2]
    show W p l e R s m args below meth c H locs 0 0 _ (F0 m (pc + 1) ls (.long (σ.2 k ((i.toNat : Nat) : Int)) :: _))
    rw [e1]
    exact hk _ _ _ _ _ h H locs ls hP hD hS hl hn hL (zw_c trivial (zw_t (zw_t hT)))
  · replace h := zpIR_i h
    obtain ⟨i, c1, k, r, rfl, h⟩ := h
    replace h := zif_i h
    obtain ⟨hc, hin, h⟩ := h
    have hc := Nat.eq_of_beq_eq_true hc
    subst hc
    intro H locs ls hP hD hS hl hn hL hT
    have hw : k < G.2.1 ∧ shG k = 10 := zw_h (zw_t hT)
    obtain ⟨h1, h2⟩ := z_ix hG hw.1 hin
    have hcell : (zwl G σ)[k]? = some (G.2.2.1 k, .inl (G.2.2.2 2, (zlen k).toNat, .inl (fun j : Nat => Int32.ofInt (σ.1 k j)))) := by rw [zwl_get hw.1, hw.2]; rfl
    refine va_zald (D := G.1) (cl := vwCl) hx hb hK hP k 2 hcell rfl h1 hd ?_
    have e1 : ((i.toNat : Nat) : Int) = i := Int.toNat_of_nonneg hin.1
    rw [h2]
    show W p l e R s m args below meth c H locs 0 0 _ (F0 m (pc + 1) ls (.int (Int32.ofInt (σ.1 k ((i.toNat : Nat) : Int))) :: _))
    rw [e1]
    exact hk _ _ _ _ _ h H locs ls hP hD hS hl hn hL (zw_c trivial (zw_t (zw_t hT)))
  · replace h := zpIR_i h
    obtain ⟨i, c1, k, r, rfl, h⟩ := h
    replace h := zif_i h
    obtain ⟨hc, hin, h⟩ := h
    have hc := Nat.eq_of_beq_eq_true hc
    subst hc
    intro H locs ls hP hD hS hl hn hL hT
    have hw : k < G.2.1 ∧ shG k = 11 := zw_h (zw_t hT)
    obtain ⟨h1, h2⟩ := z_ix hG hw.1 hin
    have hcell : (zwl G σ)[k]? = some (G.2.2.1 k, .inl (G.2.2.2 3, (zlen k).toNat, .inr (.inr (.inr (.inr (fun j : Nat => some (G.2.2.1 (k + 1 + 2 * j)))))))) := by rw [zwl_get hw.1, hw.2]; rfl
    refine va_aldq (D := G.1) (cl := vwCl) hx hb hK hP k 3 hcell rfl h1 hd ?_
    rw [h2]
    refine hk _ _ _ _ _ h H locs ls hP hD hS hl hn hL (zw_c ?_ (zw_t (zw_t hT)))
    have hk33 := z_k11 hG hw.1 hw.2
    subst hk33
    have hz : zlen 33 = 4 := by decide
    rw [hz] at hin
    have hj : i.toNat < 4 := by omega
    show 33 + 1 + 2 * i.toNat < G.2.1 ∧ shG (33 + 1 + 2 * i.toNat) = 2
    refine ⟨by omega, ?_⟩
    match i.toNat, hj with
    | 0, _ => decide
    | 1, _ => decide
    | 2, _ => decide
    | 3, _ => decide
set_option maxHeartbeats 4000000 in
theorem st1_ast (C0 : Cx d Y p R s m args meth c G A) {i : Instr} (hi : i = .iastore ∨ i = .lastore ∨ i = .bastore) (hd : decode Y.2.1 pc = .ok (i, 1)) (h : st1 Y.2.2.2.2.1 i t ds pc L st σ K) (hk : ∀ ds pc L st σ, K ds pc L st σ → zV l p e R s m args below meth c G A Y post pc L st σ) : zV l p e R s m args below meth c G A Y post pc L st σ := by
  obtain ⟨hx, hb, hml, hown, hr, hlocks, hts, hR, hK, hG, hA⟩ := C0
  rcases hi with rfl | rfl | rfl
  · replace h := zpVIR_i h
    obtain ⟨v, i, c1, k, r, rfl, h⟩ := h
    replace h := zif_i h
    obtain ⟨hc, h⟩ := h
    have hc := Nat.eq_of_beq_eq_true hc
    subst hc
    replace h := zvI_i h
    obtain ⟨z, rfl, hin, h⟩ := h
    intro H locs ls hP hD hS hl hn hL hT
    have hw : k < G.2.1 ∧ shG k = 8 := zw_h (zw_t (zw_t hT))
    obtain ⟨h1, h2⟩ := z_ix hG hw.1 hin
    have hcell : (zwl G σ)[k]? = some (G.2.2.1 k, .inl (G.2.2.2 0, (zlen k).toNat, .inl (fun j : Nat => Int32.ofInt (σ.1 k j)))) := by rw [zwl_get hw.1, hw.2]; rfl
    refine va_iast (D := G.1) (cl := vwCl) hx hb hK hP hD hS k 0 hcell rfl h1 hd (fun H1 locs1 hP1 hD1 hS1 => ?_)
    have e1 : (zwl G σ).set k (G.2.2.1 k, .inl (G.2.2.2 0, (zlen k).toNat, .inl (upd (fun j : Nat => Int32.ofInt (σ.1 k j)) (Int32.ofInt i).toNatClampNeg (Int32.ofInt z)))) = zwl G (uI σ k i z) := by
      refine zwl_set ?_ (fun q hq => zce_uI hq)
      rw [hw.2, h2, z_updI hin.1]
      rfl
    rw [e1] at hP1 hD1
    exact hk _ _ _ _ _ h H1 locs1 ls hP1 hD1 hS1 hl hn hL (zw_t (zw_t (zw_t hT)))
  · replace h := zpVIR_i h
    obtain ⟨v, i, c1, k, r, rfl, h⟩ := h
    replace h := zif_i h
    obtain ⟨hc, h⟩ := h
    have hc := Nat.eq_of_beq_eq_true hc
    subst hc
    replace h := zvL_i h
    obtain ⟨z, rfl, hin, h⟩ := h
    intro H locs ls hP hD hS hl hn hL hT
    have hw : k < G.2.1 ∧ shG k = 9 := zw_h (zw_t (zw_t hT))
    obtain ⟨h1, h2⟩ := z_ix hG hw.1 hin
    have hcell : (zwl G σ)[k]? = some (G.2.2.1 k, .inl (G.2.2.2 1, (zlen k).toNat, .inr (.inl (fun j : Nat => σ.2 k j)))) := by rw [zwl_get hw.1, hw.2]; rfl
    refine va_last (D := G.1) (cl := vwCl) hx hb hK hP hD hS k 1 hcell rfl h1 hd (fun H1 locs1 hP1 hD1 hS1 => ?_)
    have e1 : (zwl G σ).set k (G.2.2.1 k, .inl (G.2.2.2 1, (zlen k).toNat, .inr (.inl (vp_updL (fun j : Nat => σ.2 k j) (Int32.ofInt i).toNatClampNeg z)))) = zwl G (uL σ k i z) := by
      refine zwl_set ?_ (fun q hq => zce_uL hq)
      rw [hw.2, h2, z_updL hin.1]
      rfl
    rw [e1] at hP1 hD1
    exact hk _ _ _ _ _ h H1 locs1 ls hP1 hD1 hS1 hl hn hL (zw_t (zw_t (zw_t hT)))
  · replace h := zpVIR_i h
    obtain ⟨v, i, c1, k, r, rfl, h⟩ := h
    replace h := zif_i h
    obtain ⟨hc, h⟩ := h
    have hc := Nat.eq_of_beq_eq_true hc
    subst hc
    replace h := zvI_i h
    obtain ⟨z, rfl, hin0, h⟩ := h
    have hin : 0 ≤ i ∧ i < zlen k := ⟨hin0.1, hin0.2.1⟩
    intro H locs ls hP hD hS hl hn hL hT
    have hw : k < G.2.1 ∧ shG k = 10 := zw_h (zw_t (zw_t hT))
    obtain ⟨h1, h2⟩ := z_ix hG hw.1 hin
    have hcell : (zwl G σ)[k]? = some (G.2.2.1 k, .inl (G.2.2.2 2, (zlen k).toNat, .inl (fun j : Nat => Int32.ofInt (σ.1 k j)))) := by rw [zwl_get hw.1, hw.2]; rfl
    have hnar : vp_nar .boolean (Int32.ofInt z) = Int32.ofInt z := by rcases hin0.2.2 with rfl | rfl <;> decide
    refine va_zast (D := G.1) (cl := vwCl) hx hb hK hP hD hS k 2 hcell rfl h1 hd (fun H1 locs1 hP1 hD1 hS1 => ?_)
    rw [hnar] at hP1 hD1
    have e1 : (zwl G σ).set k (G.2.2.1 k, .inl (G.2.2.2 2, (zlen k).toNat, .inl (upd (fun j : Nat => Int32.ofInt (σ.1 k j)) (Int32.ofInt i).toNatClampNeg (Int32.ofInt z)))) = zwl G (uI σ k i z) := by
      refine zwl_set ?_ (fun q hq => zce_uI hq)
      rw [hw.2, h2, z_updI hin.1]
      rfl
    rw [e1] at hP1 hD1
    exact hk _ _ _ _ _ h H1 locs1 ls hP1 hD1 hS1 hl hn hL (zw_t (zw_t (zw_t hT)))
set_option maxHeartbeats 4000000 in
theorem st1_br (C0 : Cx d Y p R s m args meth c G A) {i : Instr} {cc : Jvm.ClassFile.Cond} {o : Int} (hi : i = .ifCond cc o ∨ i = .if_icmp cc o) (ht : (pc : Int) + o = (t : Int)) (hd : decode Y.2.1 pc = .ok (i, 3)) (h : st1 Y.2.2.2.2.1 i t ds pc L st σ K) (hk : ∀ ds pc L st σ, K ds pc L st σ → zV l p e R s m args below meth c G A Y post pc L st σ) : zV l p e R s m args below meth c G A Y post pc L st σ := by
  obtain ⟨hx, hb, hml, hown, hr, hlocks, hts, hR, hK, hG, hA⟩ := C0
  rcases hi with rfl | rfl
  · replace h := zp1_i h
    obtain ⟨a, r, rfl, h⟩ := h
    intro H locs ls hP hD hS hl hn hL hT
    have z0 : zr 0 := ⟨by omega, by omega⟩
    rcases zbr_i h with ⟨⟨za, hc⟩, ds2, h⟩ | ⟨⟨za, hc⟩, ds2, h⟩
    · have hgo := hk _ _ _ _ _ h H locs ls hP hD hS hl hn hL (zw_t hT)
      cases cc with
      | eq => exact lv_if_eq hx hb hd ht (fun _ => hgo) (fun q => absurd ((zi_eq za z0).mpr hc) q)
      | ne => exact lv_if_ne hx hb hd ht (fun _ => hgo) (fun q => absurd ((zi_eq za z0).mp q) hc)
      | lt => exact lv_if_lt hx hb hd ht (fun _ => hgo) (fun q => absurd ((zi_lt za z0).mpr hc) q)
      | ge => exact lv_if_ge hx hb hd ht (fun _ => hgo) (fun q => absurd ((zi_le z0 za).mpr hc) q)
      | gt => exact lv_if_gt hx hb hd ht (fun _ => hgo) (fun q => absurd ((zi_lt z0 za).mpr hc) q)
      | le => exact lv_if_le hx hb hd ht (fun _ => hgo) (fun q => absurd ((zi_le za z0).mpr hc) q)
    · have hgo := hk _ _ _ _ _ h H locs ls hP hD hS hl hn hL (zw_t hT)
      cases cc with
      | eq => exact lv_if_eq hx hb hd ht (fun q => absurd ((zi_eq za z0).mp q) hc) (fun _ => hgo)
      | ne => exact lv_if_ne hx hb hd ht (fun q => absurd ((zi_eq za z0).mpr hc) q) (fun _ => hgo)
      | lt => exact lv_if_lt hx hb hd ht (fun q => absurd ((zi_lt za z0).mp q) (Int.not_lt.mpr hc)) (fun _ => hgo)
      | ge => exact lv_if_ge hx hb hd ht (fun q => absurd ((zi_le z0 za).mp q) (Int.not_le.mpr hc)) (fun _ => hgo)
      | gt => exact lv_if_gt hx hb hd ht (fun q => absurd ((zi_lt z0 za).mp q) (Int.not_lt.mpr hc)) (fun _ => hgo)
      | le => exact lv_if_le hx hb hd ht (fun q => absurd ((zi_le za z0).mp q) (Int.not_le.mpr hc)) (fun _ => hgo)
  · replace h := zp2_i h
    obtain ⟨a, b, r, rfl, h⟩ := h
    intro H locs ls hP hD hS hl hn hL hT
    rcases zbr_i h with ⟨⟨za, zb, hc⟩, ds2, h⟩ | ⟨⟨za, zb, hc⟩, ds2, h⟩
    · have hgo := hk _ _ _ _ _ h H locs ls hP hD hS hl hn hL (zw_t (zw_t hT))
      cases cc with
      | eq => exact lv_icmp_eq hx hb hd ht (fun _ => hgo) (fun q => absurd ((zi_eq za zb).mpr hc) q)
      | ne => exact lv_icmp_ne hx hb hd ht (fun _ => hgo) (fun q => absurd ((zi_eq za zb).mp q) hc)
      | lt => exact lv_icmp_lt hx hb hd ht (fun _ => hgo) (fun q => absurd ((zi_lt za zb).mpr hc) q)
      | ge => exact lv_icmp_ge hx hb hd ht (fun _ => hgo) (fun q => absurd ((zi_le zb za).mpr hc) q)
      | gt => exact lv_icmp_gt hx hb hd ht (fun _ => hgo) (fun q => absurd ((zi_lt zb za).mpr hc) q)
      | le => exact lv_icmp_le hx hb hd ht (fun _ => hgo) (fun q => absurd ((zi_le za zb).mpr hc) q)
    · have hgo := hk _ _ _ _ _ h H locs ls hP hD hS hl hn hL (zw_t (zw_t hT))
      cases cc with
      | eq => exact lv_icmp_eq hx hb hd ht (fun q => absurd ((zi_eq za zb).mp q) hc) (fun _ => hgo)
      | ne => exact lv_icmp_ne hx hb hd ht (fun q => absurd ((zi_eq za zb).mpr hc) q) (fun _ => hgo)
      | lt => exact lv_icmp_lt hx hb hd ht (fun q => absurd ((zi_lt za zb).mp q) (Int.not_lt.mpr hc)) (fun _ => hgo)
      | ge => exact lv_icmp_ge hx hb hd ht (fun q => absurd ((zi_le zb za).mp q) (Int.not_le.mpr hc)) (fun _ => hgo)
      | gt => exact lv_icmp_gt hx hb hd ht (fun q => absurd ((zi_lt zb za).mp q) (Int.not_lt.mpr hc)) (fun _ => hgo)
      | le => exact lv_icmp_le hx hb hd ht (fun q => absurd ((zi_le za zb).mp q) (Int.not_le.mpr hc)) (fun _ => hgo)
end SND2
