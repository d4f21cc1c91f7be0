/-! one step of the abstract layer is a step of the machine -/
def zsz (i : Instr) (t : Nat) : Nat := match i with
  | .iload _ => 2
  | .lload _ => 2
  | .aload _ => 2
  | .istore _ => 2
  | .lstore _ => 2
  | .astore _ => 2
  | .bipush _ => 2
  | .ldc _ => 2
  | .sipush _ => 3
  | .ldc_w _ => 3
  | .ldc2_w _ => 3
  | .iinc _ _ => 3
  | .goto _ => 3
  | .ifCond _ _ => 3
  | .if_icmp _ _ => 3
  | .ifnull _ => 3
  | .ifnonnull _ => 3
  | .getfield _ => 3
  | .putfield _ => 3
  | .invokevirtual _ => 3
  | .invokespecial _ => 3
  | .invokestatic _ => 3
  | .tableswitch _ _ _ _ => t
  | .lookupswitch _ _ => t
  | _ => 1
def zto (pc : Nat) (i : Instr) (t : Nat) : Bool := match i with
  | .goto o => decide ((pc : Int) + o = (t : Int))
  | .ifCond _ o => decide ((pc : Int) + o = (t : Int))
  | .if_icmp _ o => decide ((pc : Int) + o = (t : Int))
  | .ifnull o => decide ((pc : Int) + o = (t : Int))
  | .ifnonnull o => decide ((pc : Int) + o = (t : Int))
  | _ => true
theorem zw_c {G : zFD} {v : VV} {r : List VV} (hv : zwt G v) (hr : zwts G r) : zwts G (v :: r) := fun w hw => by
  rcases List.mem_cons.mp hw with rfl | h
  · exact hv
  · exact hr w h
theorem zw_t {G : zFD} {v : VV} {r : List VV} (h : zwts G (v :: r)) : zwts G r := fun w hw => h w (List.mem_cons_of_mem _ hw)
theorem zw_h {G : zFD} {v : VV} {r : List VV} (h : zwts G (v :: r)) : zwt G v := h v List.mem_cons_self
theorem z_b8 {n : Int} (h : Nat.blt n.natAbs 128 = true) : (Int8.ofInt n).toInt32 = Int32.ofInt n := by
  have h := Nat.blt_eq.mp h
  apply Int32.toInt_inj.mp
  rw [Int8.toInt_toInt32, Int8.toInt_ofInt_of_le (by omega) (by omega), zi_to ⟨by omega, by omega⟩]
theorem z_b16 {n : Int} (h : Nat.blt n.natAbs 32768 = true) : (Int16.ofInt n).toInt32 = Int32.ofInt n := by
  have h := Nat.blt_eq.mp h
  apply Int32.toInt_inj.mp
  rw [Int16.toInt_toInt32, Int16.toInt_ofInt_of_le (by omega) (by omega), zi_to ⟨by omega, by omega⟩]
theorem z_ix {G : zFD} (hG : G.2.1 = 44 ∨ G.2.1 = 75) {k : Nat} (hk : k < G.2.1) {i : Int} (h : 0 ≤ i ∧ i < zlen k) : vp_in (Int32.ofInt i) (zlen k).toNat ∧ (Int32.ofInt i).toNatClampNeg = i.toNat := by
  have h1 := z_len hG hk
  have hz : zr i := ⟨by omega, by omega⟩
  have e : (Int32.ofInt i).toNatClampNeg = i.toNat := Int32.toNatClampNeg_ofInt_of_le (by omega) (by omega)
  exact ⟨vp_in_iff.mpr ⟨by rw [zi_to hz]; exact h.1, by rw [zi_to hz]; omega⟩, e⟩
theorem zce_obj {ad : Nat → Nat} {tc : Nat → ClassId} {σ : zSt} {k c : Nat} (h : c < 8) : zce ad tc σ k c = .inr (c, (zfk c).mapIdx (fun j q => zcf ad σ k j q)) := by
  unfold zce
  split <;> first | omega | rfl
theorem z_setI {ad : Nat → Nat} {σ : zSt} {k ci j y : Nat} {z : Int} (hj : (zfk ci)[j]? = some (0, y)) : ((zfk ci).mapIdx (fun j q => zcf ad σ k j q)).set j (.int (Int32.ofInt z)) = (zfk ci).mapIdx (fun b q => zcf ad (uI σ k j z) k b q) := by
  apply List.ext_getElem?
  intro b
  by_cases hb : b = j
  · subst hb
    rw [List.getElem?_set_self (by rw [List.length_mapIdx]; exact (List.getElem?_eq_some_iff.mp hj).1), List.getElem?_mapIdx, hj]
    show some (Value.int (Int32.ofInt z)) = some (zcf ad (uI σ k b z) k b (0, y))
    simp [zcf, uI]
  · rw [List.getElem?_set_ne (Ne.symm hb), List.getElem?_mapIdx, List.getElem?_mapIdx]
    cases (zfk ci)[b]? with
    | none => rfl
    | some q =>
      show some (zcf ad σ k b q) = some (zcf ad (uI σ k j z) k b q)
      have e : (uI σ k j z).1 k b = σ.1 k b := if_neg (fun w => hb (by have := w.2; omega))
      congr 1
      unfold zcf
      split
      · rw [e]
      · rfl
      · rfl
theorem z_setL {ad : Nat → Nat} {σ : zSt} {k ci j y : Nat} {z : Int64} (hj : (zfk ci)[j]? = some (1, y)) : ((zfk ci).mapIdx (fun j q => zcf ad σ k j q)).set j (.long z) = (zfk ci).mapIdx (fun b q => zcf ad (uL σ k j z) k b q) := by
  apply List.ext_getElem?
  intro b
  by_cases hb : b = j
  · subst hb
    rw [List.getElem?_set_self (by rw [List.length_mapIdx]; exact (List.getElem?_eq_some_iff.mp hj).1), List.getElem?_mapIdx, hj]
    show some (Value.long z) = some (zcf ad (uL σ k b z) k b (1, y))
    simp [zcf, uL]
  · rw [List.getElem?_set_ne (Ne.symm hb), List.getElem?_mapIdx, List.getElem?_mapIdx]
    cases (zfk ci)[b]? with
    | none => rfl
    | some q =>
      show some (zcf ad σ k b q) = some (zcf ad (uL σ k j z) k b q)
      have e : (uL σ k j z).2 k b = σ.2 k b := if_neg (fun w => hb (by have := w.2; omega))
      congr 1
      unfold zcf
      split
      · rfl
      · rw [e]
      · rfl
theorem z_updI {σ : zSt} {k : Nat} {i z : Int} (h : 0 ≤ i) : upd (fun j : Nat => Int32.ofInt (σ.1 k j)) i.toNat (Int32.ofInt z) = fun j : Nat => Int32.ofInt ((uI σ k i z).1 k j) := by
  funext j
  unfold upd uI
  by_cases hj : j = i.toNat
  · rw [if_pos hj]
    show _ = Int32.ofInt (if k = k ∧ (j : Int) = i then z else σ.1 k j)
    rw [if_pos ⟨rfl, by omega⟩]
  · rw [if_neg hj]
    show _ = Int32.ofInt (if k = k ∧ (j : Int) = i then z else σ.1 k j)
    rw [if_neg (fun w => hj (by have := w.2; omega))]
theorem z_updL {σ : zSt} {k : Nat} {i : Int} {z : Int64} (h : 0 ≤ i) : vp_updL (fun j : Nat => σ.2 k j) i.toNat z = fun j : Nat => (uL σ k i z).2 k j := by
  funext j
  unfold vp_updL uL
  by_cases hj : j = i.toNat
  · rw [if_pos hj]
    show _ = (if k = k ∧ (j : Int) = i then z else σ.2 k j)
    rw [if_pos ⟨rfl, by omega⟩]
  · rw [if_neg hj]
    show _ = (if k = k ∧ (j : Int) = i then z else σ.2 k j)
    rw [if_neg (fun w => hj (by have := w.2; omega))]
section SND
variable {d : Nat} {Y : MI} {l : Launch} {p : Program} {e : Env} {R : Room} {s : State} {m : MethodId} {args : Array Value} {below : List Frame} {meth : Method} {c : Code} {G : zFD} {A : Nat → Prop} {post : Option VV → zSt → Prop} {t : Nat} {ds : List Nat} {pc : Nat} {L : List (Option VV)} {st : List VV} {σ : zSt} {K : zK}
set_option maxHeartbeats 4000000 in
theorem st1_get (C0 : Cx d Y p R s m args meth c G A) {x : Nat} (hd : decode Y.2.1 pc = .ok (.getfield x, 3)) (h : st1 Y.2.2.2.2.1 (.getfield x) t ds pc L st σ K) (hk : ∀ ds pc L st σ, K ds pc L st σ → zV l p e R s m args below meth c G A Y post pc L st σ) : zV l p e R s m args below meth c G A Y post pc L st σ := by
  obtain ⟨hx, hb, hml, hown, hr, hlocks, hts, hR, hK, hG, hA⟩ := C0
  replace h := zpR_i h
  obtain ⟨c1, k, r, rfl, h⟩ := h
  replace h := zop_i h
  obtain ⟨⟨ci, j⟩, hzg, h⟩ := h
  replace h := zif_i h
  obtain ⟨hci0, h⟩ := h
  have hci : ci = c1 := Nat.eq_of_beq_eq_true hci0
  clear hci0
  subst hci
  replace h := zop_i h
  obtain ⟨q, hq, h⟩ := h
  obtain ⟨C, T, N, hcl, hjN, hlink⟩ := zgl_ok hzg
  obtain ⟨hc8, hws, ⟨ty0, hty0⟩, hnm, hlen, hfin⟩ := zcl_ok hcl
  intro H locs ls hP hD hS hl hn hL hT
  have hw := zw_h hT
  have hkN : k < G.2.1 := hw.1
  have hsk : shG k = ci := hw.2
  have hcell : (zwl G σ)[k]? = some (G.2.2.1 k, .inr (ci, (zfk ci).mapIdx (fun j q => zcf G.2.2.1 σ k j q))) := by rw [zwl_get hkN, hsk, zce_obj hc8]
  have hfk : ((zfk ci).mapIdx (fun j q => zcf G.2.2.1 σ k j q))[j]? = some (zcf G.2.2.1 σ k j q) := by rw [List.getElem?_mapIdx, hq]; rfl
  refine va_get (D := G.1) (cl := vwCl) (ci := ci) (C := C) (T := T) (N := N) hx hb hts hws hown hK hP k hcell hcl j hjN (hts _ hlink) (fun _ h9 => h9) hfk hd ?_
  obtain ⟨x1, y1⟩ := q
  match x1, h, hq with
  | 0, h, hq => exact hk _ _ _ _ _ h H locs ls hP hD hS hl hn hL (zw_c trivial (zw_t hT))
  | 1, h, hq => exact hk _ _ _ _ _ h H locs ls hP hD hS hl hn hL (zw_c trivial (zw_t hT))
  | n + 2, h, hq => exact hk _ _ _ _ _ h H locs ls hP hD hS hl hn hL (zw_c (z_closed hG hkN hsk hq) (zw_t hT))
set_option maxHeartbeats 4000000 in
theorem st1_put (C0 : Cx d Y p R s m args meth c G A) {x : Nat} (hd : decode Y.2.1 pc = .ok (.putfield x, 3)) (h : st1 Y.2.2.2.2.1 (.putfield x) t ds pc L st σ K) (hk : ∀ ds pc L st σ, K ds pc L st σ → zV l p e R s m args below meth c G A Y post pc L st σ) : zV l p e R s m args below meth c G A Y post pc L st σ := by
  obtain ⟨hx, hb, hml, hown, hr, hlocks, hts, hR, hK, hG, hA⟩ := C0
  replace h := zpVR_i h
  obtain ⟨v, c1, k, r, rfl, h⟩ := h
  replace h := zop_i h
  obtain ⟨⟨ci, j⟩, hzg, h⟩ := h
  replace h := zif_i h
  obtain ⟨hci0, h⟩ := h
  have hci : ci = c1 := Nat.eq_of_beq_eq_true hci0
  clear hci0
  subst hci
  replace h := zop_i h
  obtain ⟨q, hq, h⟩ := h
  obtain ⟨C, T, N, hcl, hjN, hlink⟩ := zgl_ok hzg
  obtain ⟨hc8, hws, ⟨ty0, hty0⟩, hnm, hlen, hfin⟩ := zcl_ok hcl
  intro H locs ls hP hD hS hl hn hL hT
  have hw := zw_h (zw_t hT)
  have hkN : k < G.2.1 := hw.1
  have hsk : shG k = ci := hw.2
  have hcell : (zwl G σ)[k]? = some (G.2.2.1 k, .inr (ci, (zfk ci).mapIdx (fun j q => zcf G.2.2.1 σ k j q))) := by rw [zwl_get hkN, hsk, zce_obj hc8]
  have hjl : j < ((zfk ci).mapIdx (fun j q => zcf G.2.2.1 σ k j q)).length := by rw [List.length_mapIdx, hlen]; exact hjN
  obtain ⟨x1, y1⟩ := q
  obtain ⟨ty, hty, hpty, hff⟩ := hfin j x1 y1 hq
  have keyI : ∀ z : Int, v = vZ z → x1 = 0 → y1 ≠ 2 → narrow ty (.int (Int32.ofInt z)) = .int (Int32.ofInt z) → fits ty (.int (Int32.ofInt z)) = true → K ds (pc + 3) L r (uI σ k j z) → W p l e R s m args below meth c H locs 0 0 (MQ below (zQ post G A) args s 0 0 A) (F0 m pc ls ((v :: vR ci k :: r).map (tv G.2.2.1))) := by
    intro z ev e0 e2 hna hfi hKK
    subst ev; subst e0
    refine va_put (D := G.1) (cl := vwCl) (ci := ci) (C := C) (T := T) (N := N) (v := .int (Int32.ofInt z)) (ty := ty) hx hb hts hws ty0 hty0 hnm hown hK hP hD hS k hcell hcl j hjN (hts _ hlink) (fun _ h9 => h9) (hff (Or.inl ⟨rfl, e2⟩)) hty hna hfi hjl hd (fun H1 locs1 hP1 hD1 hS1 => ?_)
    have e1 : (zwl G σ).set k (G.2.2.1 k, .inr (ci, ((zfk ci).mapIdx (fun j q => zcf G.2.2.1 σ k j q)).set j (.int (Int32.ofInt z)))) = zwl G (uI σ k j z) := by
      refine zwl_set ?_ (fun q hq => zce_uI hq)
      rw [hsk, zce_obj hc8, z_setI hq]
    rw [e1] at hP1 hD1
    exact hk _ _ _ _ _ hKK H1 locs1 ls hP1 hD1 hS1 hl hn hL (zw_t (zw_t hT))
  unfold zput at h
  split at h
  · rename_i q0 he
    cases he
    replace h := zvI_i h
    obtain ⟨z, rfl, h⟩ := h
    have hint : ty = .int := by cases ty <;> simp [zpty] at hpty <;> rfl
    subst hint
    exact keyI z rfl rfl (by decide) rfl rfl h
  · rename_i q0 he
    cases he
    replace h := zvI_i h
    obtain ⟨z, rfl, h⟩ := h
    have hint : ty = .boolean := by cases ty <;> simp [zpty] at hpty <;> rfl
    subst hint
    obtain ⟨hz, h⟩ := h
    rcases hz with rfl | rfl
    · exact keyI 0 rfl rfl (by decide) (by decide) (by decide) h
    · exact keyI 1 rfl rfl (by decide) (by decide) (by decide) h
  · rename_i q0 y he
    cases he
    replace h := zvL_i h
    obtain ⟨z, rfl, h⟩ := h
    have hint : ty = .long := by cases ty <;> simp [zpty] at hpty <;> rfl
    subst hint
    refine va_put (D := G.1) (cl := vwCl) (ci := ci) (C := C) (T := T) (N := N) (v := .long z) (ty := .long) hx hb hts hws ty0 hty0 hnm hown hK hP hD hS k hcell hcl j hjN (hts _ hlink) (fun _ h9 => h9) (hff (Or.inr rfl)) hty rfl rfl hjl hd (fun H1 locs1 hP1 hD1 hS1 => ?_)
    have e1 : (zwl G σ).set k (G.2.2.1 k, .inr (ci, ((zfk ci).mapIdx (fun j q => zcf G.2.2.1 σ k j q)).set j (.long z))) = zwl G (uL σ k j z) := by
      refine zwl_set ?_ (fun q hq => zce_uL hq)
      rw [hsk, zce_obj hc8, z_setL hq]
    rw [e1] at hP1 hD1
    exact hk _ _ _ _ _ h H1 locs1 ls hP1 hD1 hS1 hl hn hL (zw_t (zw_t hT))
  · exact h.elim
end SND
