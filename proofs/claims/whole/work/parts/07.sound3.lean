section SND3
variable {d : Nat} {Y : MI} {l : Launch} {p : Program} {e : Env} {R : Room} {s : State} {m : MethodId} {args : Array Value} {below : List Frame} {meth : Method} {c : Code} {G : zFD} {A : Nat → Prop} {post : Option VV → zSt → Prop} {t : Nat} {ds : List Nat} {pc : Nat} {L : List (Option VV)} {st : List VV} {σ : zSt} {K : zK}
set_option maxHeartbeats 8000000 in
theorem st1_ok (C0 : Cx d Y p R s m args meth c G A) {i : Instr} (hd : decode Y.2.1 pc = .ok (i, zsz i t)) (ht : zto pc i t = true) (h : st1 Y.2.2.2.2.1 i t ds pc L st σ K) (hk : ∀ ds pc L st σ, K ds pc L st σ → zV l p e R s m args below meth c G A Y post pc L st σ) : zV l p e R s m args below meth c G A Y post pc L st σ := by
  obtain ⟨hx, hb, hml, hown, hr, hlocks, hts, hR, hK, hG, hA⟩ := id C0
  cases i
  case aconst_null =>
    intro H locs ls hP hD hS hl hn hL hT
    exact lv_null hx hb hd (hk _ _ _ _ _ h H locs ls hP hD hS hl hn hL (zw_c trivial hT))
  case iconst z =>
    intro H locs ls hP hD hS hl hn hL hT
    exact lv_iconst hx hb hd rfl (hk _ _ _ _ _ h H locs ls hP hD hS hl hn hL (zw_c trivial hT))
  case bipush z =>
    replace h := zif_i h
    obtain ⟨h1, h⟩ := h
    intro H locs ls hP hD hS hl hn hL hT
    exact lv_bipush hx hb hd (z_b8 h1) (hk _ _ _ _ _ h H locs ls hP hD hS hl hn hL (zw_c trivial hT))
  case sipush z =>
    replace h := zif_i h
    obtain ⟨h1, h⟩ := h
    intro H locs ls hP hD hS hl hn hL hT
    exact lv_sipush hx hb hd (z_b16 h1) (hk _ _ _ _ _ h H locs ls hP hD hS hl hn hL (zw_c trivial hT))
  case lconst z =>
    intro H locs ls hP hD hS hl hn hL hT
    exact lv_lconst hx hb hd rfl (hk _ _ _ _ _ h H locs ls hP hD hS hl hn hL (zw_c trivial hT))
  case ldc x =>
    replace h := zop_i h
    obtain ⟨v, hv, h⟩ := h
    intro H locs ls hP hD hS hl hn hL hT
    exact lv_ldc hx hb hown (hts _ (zil_ok hv)) hd (hk _ _ _ _ _ h H locs ls hP hD hS hl hn hL (zw_c trivial hT))
  case ldc_w x =>
    replace h := zop_i h
    obtain ⟨v, hv, h⟩ := h
    intro H locs ls hP hD hS hl hn hL hT
    exact lv_ldcw hx hb hown (hts _ (zil_ok hv)) hd (hk _ _ _ _ _ h H locs ls hP hD hS hl hn hL (zw_c trivial hT))
  case ldc2_w x =>
    replace h := zop_i h
    obtain ⟨v, hv, h⟩ := h
    intro H locs ls hP hD hS hl hn hL hT
    exact lv_ldc2 hx hb hown (hts _ (zll_ok hv)) hd (hk _ _ _ _ _ h H locs ls hP hD hS hl hn hL (zw_c trivial hT))
  case iload_n k =>
    replace h := zld_i h
    obtain ⟨v, hv, h⟩ := h
    replace h := zvI_i h
    obtain ⟨z, rfl, h⟩ := h
    intro H locs ls hP hD hS hl hn hL hT
    exact lv_iload_n hx hb hd rfl (zl_at hl hv) (hk _ _ _ _ _ h H locs ls hP hD hS hl hn hL (zw_c trivial hT))
  case iload k =>
    replace h := zld_i h
    obtain ⟨v, hv, h⟩ := h
    replace h := zvI_i h
    obtain ⟨z, rfl, h⟩ := h
    intro H locs ls hP hD hS hl hn hL hT
    exact lv_iload hx hb hd (zl_at hl hv) (hk _ _ _ _ _ h H locs ls hP hD hS hl hn hL (zw_c trivial hT))
  case lload_n k =>
    replace h := zld_i h
    obtain ⟨v, hv, h⟩ := h
    replace h := zvL_i h
    obtain ⟨z, rfl, h⟩ := h
    intro H locs ls hP hD hS hl hn hL hT
    exact lv_lload_n hx hb hd rfl (zl_at hl hv) (hk _ _ _ _ _ h H locs ls hP hD hS hl hn hL (zw_c trivial hT))
  case lload k =>
    replace h := zld_i h
    obtain ⟨v, hv, h⟩ := h
    replace h := zvL_i h
    obtain ⟨z, rfl, h⟩ := h
    intro H locs ls hP hD hS hl hn hL hT
    exact lv_lload hx hb hd (zl_at hl hv) (hk _ _ _ _ _ h H locs ls hP hD hS hl hn hL (zw_c trivial hT))
  case aload_n k =>
    replace h := zld_i h
    obtain ⟨v, hv, h⟩ := h
    replace h := zvQ_i h
    obtain ⟨z, rfl, h⟩ := h
    intro H locs ls hP hD hS hl hn hL hT
    have hw := z_ld1 hv hL
    cases z with
    | none => exact lv_aload_nN hx hb hd rfl (zl_at hl hv) (hk _ _ _ _ _ h H locs ls hP hD hS hl hn hL (zw_c hw hT))
    | some z => exact lv_aload_n hx hb hd rfl (zl_at hl hv) (hk _ _ _ _ _ h H locs ls hP hD hS hl hn hL (zw_c hw hT))
  case aload k =>
    replace h := zld_i h
    obtain ⟨v, hv, h⟩ := h
    replace h := zvQ_i h
    obtain ⟨z, rfl, h⟩ := h
    intro H locs ls hP hD hS hl hn hL hT
    have hw := z_ld1 hv hL
    cases z with
    | none => exact lv_aloadN hx hb hd (zl_at hl hv) (hk _ _ _ _ _ h H locs ls hP hD hS hl hn hL (zw_c hw hT))
    | some z => exact lv_aload hx hb hd (zl_at hl hv) (hk _ _ _ _ _ h H locs ls hP hD hS hl hn hL (zw_c hw hT))
  case istore_n k =>
    replace h := zif_i h
    obtain ⟨hlt, h⟩ := h
    have hlt := Nat.blt_eq.mp hlt
    replace h := zp1_i h
    obtain ⟨z, r, rfl, h⟩ := h
    intro H locs ls hP hD hS hl hn hL hT
    rw [hn] at hlt
    have hw := zw_h hT
    exact lv_istore_n hx hb hd rfl hl hlt rfl (fun ls2 hl2 => hk _ _ _ _ _ h H locs _ hP hD hS (zl_put hl2) (z_llen hn) (zwtl_put hL _ (by assumption)) (zw_t hT))
  case istore k =>
    replace h := zif_i h
    obtain ⟨hlt, h⟩ := h
    have hlt := Nat.blt_eq.mp hlt
    replace h := zp1_i h
    obtain ⟨z, r, rfl, h⟩ := h
    intro H locs ls hP hD hS hl hn hL hT
    rw [hn] at hlt
    have hw := zw_h hT
    exact lv_istore hx hb hd hl hlt rfl (fun ls2 hl2 => hk _ _ _ _ _ h H locs _ hP hD hS (zl_put hl2) (z_llen hn) (zwtl_put hL _ (by assumption)) (zw_t hT))
  case lstore_n k =>
    replace h := zif_i h
    obtain ⟨hlt, h⟩ := h
    have hlt := Nat.blt_eq.mp hlt
    replace h := zpL1_i h
    obtain ⟨z, r, rfl, h⟩ := h
    intro H locs ls hP hD hS hl hn hL hT
    rw [hn] at hlt
    have hw := zw_h hT
    exact lv_lstore_n hx hb hd rfl hl hlt rfl (fun ls2 hl2 => hk _ _ _ _ _ h H locs _ hP hD hS (zl_put2 hl2) (z_llen2 hn) (zwtl_put2 hL _ (by assumption)) (zw_t hT))
  case lstore k =>
    replace h := zif_i h
    obtain ⟨hlt, h⟩ := h
    have hlt := Nat.blt_eq.mp hlt
    replace h := zpL1_i h
    obtain ⟨z, r, rfl, h⟩ := h
    intro H locs ls hP hD hS hl hn hL hT
    rw [hn] at hlt
    have hw := zw_h hT
    exact lv_lstore hx hb hd hl hlt rfl (fun ls2 hl2 => hk _ _ _ _ _ h H locs _ hP hD hS (zl_put2 hl2) (z_llen2 hn) (zwtl_put2 hL _ (by assumption)) (zw_t hT))
  case astore_n k =>
    replace h := zif_i h
    obtain ⟨hlt, h⟩ := h
    have hlt := Nat.blt_eq.mp hlt
    replace h := zpQ_i h
    obtain ⟨z, r, rfl, h⟩ := h
    intro H locs ls hP hD hS hl hn hL hT
    rw [hn] at hlt
    have hw := zw_h hT
    cases z with
    | none => exact lv_astore_nN hx hb hd rfl hl hlt rfl (fun ls2 hl2 => hk _ _ _ _ _ h H locs _ hP hD hS (zl_put hl2) (z_llen hn) (zwtl_put hL _ (by assumption)) (zw_t hT))
    | some z => exact lv_astore_n hx hb hd rfl hl hlt rfl (fun ls2 hl2 => hk _ _ _ _ _ h H locs _ hP hD hS (zl_put hl2) (z_llen hn) (zwtl_put hL _ (by assumption)) (zw_t hT))
  case astore k =>
    replace h := zif_i h
    obtain ⟨hlt, h⟩ := h
    have hlt := Nat.blt_eq.mp hlt
    replace h := zpQ_i h
    obtain ⟨z, r, rfl, h⟩ := h
    intro H locs ls hP hD hS hl hn hL hT
    rw [hn] at hlt
    have hw := zw_h hT
    cases z with
    | none => exact lv_astoreN hx hb hd hl hlt rfl (fun ls2 hl2 => hk _ _ _ _ _ h H locs _ hP hD hS (zl_put hl2) (z_llen hn) (zwtl_put hL _ (by assumption)) (zw_t hT))
    | some z => exact lv_astore hx hb hd hl hlt rfl (fun ls2 hl2 => hk _ _ _ _ _ h H locs _ hP hD hS (zl_put hl2) (z_llen hn) (zwtl_put hL _ (by assumption)) (zw_t hT))
  case iinc k n =>
    replace h := zif_i h
    obtain ⟨hlt, h⟩ := h
    have hlt := Nat.blt_eq.mp hlt
    replace h := zld_i h
    obtain ⟨v, hv, h⟩ := h
    replace h := zvI_i h
    obtain ⟨z, rfl, h⟩ := h
    intro H locs ls hP hD hS hl hn hL hT
    rw [hn] at hlt
    have hm : (k, Value.int (Int32.ofInt z)) ∈ zlm G.2.2.1 0 L := zlm_mem.mpr ⟨k, vZ z, hv, by rw [Nat.zero_add]; rfl⟩
    obtain ⟨q, hq⟩ := List.getElem?_of_mem hm
    have hw : zwt G (vZ (z + n)) := trivial
    refine lv_iinc (v := Int32.ofInt (z + n)) hx hb hd hl hq (Int32.ofInt_add z n).symm hlt rfl (fun ls2 hl2 => hk _ _ _ _ _ h H locs _ hP hD hS (zl_put hl2) (z_llen hn) (zwtl_put hL _ (by assumption)) hT)
  case dup =>
    replace h := zpQ_i h
    obtain ⟨q, r, rfl, h⟩ := h
    intro H locs ls hP hD hS hl hn hL hT
    have hw := zw_h hT
    exact lv_dup hx hb hd (by cases q <;> rfl) (hk _ _ _ _ _ h H locs ls hP hD hS hl hn hL (zw_c hw (zw_c hw (zw_t hT))))
  case dup2 =>
    replace h := zpIR_i h
    obtain ⟨i, c1, k, r, rfl, h⟩ := h
    intro H locs ls hP hD hS hl hn hL hT
    have hw := zw_h (zw_t hT)
    exact lv_dup2_11 hx hb hd rfl rfl (hk _ _ _ _ _ h H locs ls hP hD hS hl hn hL (zw_c trivial (zw_c hw (zw_c trivial (zw_c hw (zw_t (zw_t hT)))))))
  case pop =>
    replace h := zp1_i h
    obtain ⟨a, r, rfl, h⟩ := h
    intro H locs ls hP hD hS hl hn hL hT
    exact lv_pop hx hb hd rfl (hk _ _ _ _ _ h H locs ls hP hD hS hl hn hL (zw_t hT))
  case iadd =>
    replace h := zp2_i h
    obtain ⟨a, b, r, rfl, h⟩ := h
    intro H locs ls hP hD hS hl hn hL hT
    refine lv_iadd hx hb hd ?_
    rw [← Int32.ofInt_add]
    exact hk _ _ _ _ _ h H locs ls hP hD hS hl hn hL (zw_c trivial (zw_t (zw_t hT)))
  case isub =>
    replace h := zp2_i h
    obtain ⟨a, b, r, rfl, h⟩ := h
    intro H locs ls hP hD hS hl hn hL hT
    refine lv_isub hx hb hd ?_
    rw [← Int32.ofInt_sub]
    exact hk _ _ _ _ _ h H locs ls hP hD hS hl hn hL (zw_c trivial (zw_t (zw_t hT)))
  case imul =>
    replace h := zp2_i h
    obtain ⟨a, b, r, rfl, h⟩ := h
    intro H locs ls hP hD hS hl hn hL hT
    refine lv_imul hx hb hd ?_
    rw [← Int32.ofInt_mul]
    exact hk _ _ _ _ _ h H locs ls hP hD hS hl hn hL (zw_c trivial (zw_t (zw_t hT)))
  case idiv =>
    replace h := zp2_i h
    obtain ⟨a, b, r, rfl, ⟨h1, h2, h3, h4⟩, h⟩ := h
    intro H locs ls hP hD hS hl hn hL hT
    have hne : ¬ Int32.ofInt b = 0 := fun q => by have := (zi_eq ⟨by omega, by omega⟩ ⟨by omega, by omega⟩).mp (q.trans zi_0); omega
    refine lv_idiv hx hb hd hne ?_
    rw [zi_div h1 h2 h3 h4]
    exact hk _ _ _ _ _ h H locs ls hP hD hS hl hn hL (zw_c trivial (zw_t (zw_t hT)))
  case irem =>
    replace h := zp2_i h
    obtain ⟨a, b, r, rfl, ⟨h1, h2, h3, h4⟩, h⟩ := h
    intro H locs ls hP hD hS hl hn hL hT
    have hne : ¬ Int32.ofInt b = 0 := fun q => by have := (zi_eq ⟨by omega, by omega⟩ ⟨by omega, by omega⟩).mp (q.trans zi_0); omega
    refine lv_irem hx hb hd hne ?_
    rw [zi_rem h1 h2 h3 h4]
    exact hk _ _ _ _ _ h H locs ls hP hD hS hl hn hL (zw_c trivial (zw_t (zw_t hT)))
  case iand =>
    replace h := zp2_i h
    obtain ⟨a, b, r, rfl, h⟩ := h
    intro H locs ls hP hD hS hl hn hL hT
    refine lv_iand hx hb hd ?_
    rw [show (Int32.ofInt a &&& Int32.ofInt b) = Int32.ofInt (zand a b) from (Int32.ofInt_toInt _).symm]
    exact hk _ _ _ _ _ h H locs ls hP hD hS hl hn hL (zw_c trivial (zw_t (zw_t hT)))
  case ior =>
    replace h := zp2_i h
    obtain ⟨a, b, r, rfl, h⟩ := h
    intro H locs ls hP hD hS hl hn hL hT
    refine lv_ior hx hb hd ?_
    rw [show (Int32.ofInt a ||| Int32.ofInt b) = Int32.ofInt (zor a b) from (Int32.ofInt_toInt _).symm]
    exact hk _ _ _ _ _ h H locs ls hP hD hS hl hn hL (zw_c trivial (zw_t (zw_t hT)))
  case ixor =>
    replace h := zp2_i h
    obtain ⟨a, b, r, rfl, h⟩ := h
    intro H locs ls hP hD hS hl hn hL hT
    refine lv_ixor hx hb hd ?_
    rw [show (Int32.ofInt a ^^^ Int32.ofInt b) = Int32.ofInt (zxor a b) from (Int32.ofInt_toInt _).symm]
    exact hk _ _ _ _ _ h H locs ls hP hD hS hl hn hL (zw_c trivial (zw_t (zw_t hT)))
  case ishl =>
    replace h := zp2_i h
    obtain ⟨a, b, r, rfl, h⟩ := h
    intro H locs ls hP hD hS hl hn hL hT
    refine lv_ishl hx hb hd ?_
    rw [show (Int32.ofInt a <<< (Int32.ofInt b &&& 31)) = Int32.ofInt (zshl a b) from (Int32.ofInt_toInt _).symm]
    exact hk _ _ _ _ _ h H locs ls hP hD hS hl hn hL (zw_c trivial (zw_t (zw_t hT)))
  case ishr =>
    replace h := zp2_i h
    obtain ⟨a, b, r, rfl, h⟩ := h
    intro H locs ls hP hD hS hl hn hL hT
    refine lv_ishr hx hb hd ?_
    rw [show (Int32.ofInt a >>> (Int32.ofInt b &&& 31)) = Int32.ofInt (zshr a b) from (Int32.ofInt_toInt _).symm]
    exact hk _ _ _ _ _ h H locs ls hP hD hS hl hn hL (zw_c trivial (zw_t (zw_t hT)))
  case iushr =>
    replace h := zp2_i h
    obtain ⟨a, b, r, rfl, h⟩ := h
    intro H locs ls hP hD hS hl hn hL hT
    exact lv_iushr (v := Int32.ofInt (zushr a b)) hx hb hd (Int32.ofInt_toInt _).symm (hk _ _ _ _ _ h H locs ls hP hD hS hl hn hL (zw_c trivial (zw_t (zw_t hT))))
  case i2l =>
    replace h := zp1_i h
    obtain ⟨a, r, rfl, h⟩ := h
    intro H locs ls hP hD hS hl hn hL hT
    exact lv_i2l hx hb hd rfl (hk _ _ _ _ _ h H locs ls hP hD hS hl hn hL (zw_c trivial (zw_t hT)))
  case l2i =>
    replace h := zpL1_i h
    obtain ⟨a, r, rfl, h⟩ := h
    intro H locs ls hP hD hS hl hn hL hT
    exact lv_l2i (v := Int32.ofInt (zl2i a)) hx hb hd (Int32.ofInt_toInt _).symm (hk _ _ _ _ _ h H locs ls hP hD hS hl hn hL (zw_c trivial (zw_t hT)))
  case i2b =>
    replace h := zp1_i h
    obtain ⟨a, r, rfl, h⟩ := h
    intro H locs ls hP hD hS hl hn hL hT
    exact lv_i2b (v := Int32.ofInt (zi2b a)) hx hb hd (Int32.ofInt_toInt _).symm (hk _ _ _ _ _ h H locs ls hP hD hS hl hn hL (zw_c trivial (zw_t hT)))
  case i2s =>
    replace h := zp1_i h
    obtain ⟨a, r, rfl, h⟩ := h
    intro H locs ls hP hD hS hl hn hL hT
    exact lv_i2s (v := Int32.ofInt (zi2s a)) hx hb hd (Int32.ofInt_toInt _).symm (hk _ _ _ _ _ h H locs ls hP hD hS hl hn hL (zw_c trivial (zw_t hT)))
  case ladd =>
    replace h := zpL2_i h
    obtain ⟨a, b, r, rfl, h⟩ := h
    intro H locs ls hP hD hS hl hn hL hT
    exact lv_ladd hx hb hd (hk _ _ _ _ _ h H locs ls hP hD hS hl hn hL (zw_c trivial (zw_t (zw_t hT))))
  case lsub =>
    replace h := zpL2_i h
    obtain ⟨a, b, r, rfl, h⟩ := h
    intro H locs ls hP hD hS hl hn hL hT
    exact lv_lsub hx hb hd (hk _ _ _ _ _ h H locs ls hP hD hS hl hn hL (zw_c trivial (zw_t (zw_t hT))))
  case lmul =>
    replace h := zpL2_i h
    obtain ⟨a, b, r, rfl, h⟩ := h
    intro H locs ls hP hD hS hl hn hL hT
    exact lv_lmul hx hb hd (hk _ _ _ _ _ h H locs ls hP hD hS hl hn hL (zw_c trivial (zw_t (zw_t hT))))
  case land =>
    replace h := zpL2_i h
    obtain ⟨a, b, r, rfl, h⟩ := h
    intro H locs ls hP hD hS hl hn hL hT
    exact lv_land hx hb hd (hk _ _ _ _ _ h H locs ls hP hD hS hl hn hL (zw_c trivial (zw_t (zw_t hT))))
  case lor =>
    replace h := zpL2_i h
    obtain ⟨a, b, r, rfl, h⟩ := h
    intro H locs ls hP hD hS hl hn hL hT
    exact lv_lor hx hb hd (hk _ _ _ _ _ h H locs ls hP hD hS hl hn hL (zw_c trivial (zw_t (zw_t hT))))
  case lxor =>
    replace h := zpL2_i h
    obtain ⟨a, b, r, rfl, h⟩ := h
    intro H locs ls hP hD hS hl hn hL hT
    exact lv_lxor hx hb hd (hk _ _ _ _ _ h H locs ls hP hD hS hl hn hL (zw_c trivial (zw_t (zw_t hT))))
  case ldiv =>
    replace h := zpL2_i h
    obtain ⟨a, b, r, rfl, hne, h⟩ := h
    intro H locs ls hP hD hS hl hn hL hT
    exact lv_ldiv hx hb hd hne (hk _ _ _ _ _ h H locs ls hP hD hS hl hn hL (zw_c trivial (zw_t (zw_t hT))))
  case lrem =>
    replace h := zpL2_i h
    obtain ⟨a, b, r, rfl, hne, h⟩ := h
    intro H locs ls hP hD hS hl hn hL hT
    exact lv_lrem hx hb hd hne (hk _ _ _ _ _ h H locs ls hP hD hS hl hn hL (zw_c trivial (zw_t (zw_t hT))))
  case lshl =>
    replace h := zpLI_i h
    obtain ⟨a, b, r, rfl, h⟩ := h
    intro H locs ls hP hD hS hl hn hL hT
    exact lv_lshl hx hb hd rfl (hk _ _ _ _ _ h H locs ls hP hD hS hl hn hL (zw_c trivial (zw_t (zw_t hT))))
  case lushr =>
    replace h := zpLI_i h
    obtain ⟨a, b, r, rfl, h⟩ := h
    intro H locs ls hP hD hS hl hn hL hT
    exact lv_lushr hx hb hd rfl (hk _ _ _ _ _ h H locs ls hP hD hS hl hn hL (zw_c trivial (zw_t (zw_t hT))))
  case lcmp =>
    replace h := zpL2_i h
    obtain ⟨a, b, r, rfl, h⟩ := h
    intro H locs ls hP hD hS hl hn hL hT
    refine W.lcmp hx hb hd ?_
    rw [show lg_cmp a b = Int32.ofInt (zlcmp a b) from (Int32.ofInt_toInt _).symm]
    exact hk _ _ _ _ _ h H locs ls hP hD hS hl hn hL (zw_c trivial (zw_t (zw_t hT)))
  case goto o =>
    intro H locs ls hP hD hS hl hn hL hT
    exact lv_goto hx hb hd (of_decide_eq_true ht) (hk _ _ _ _ _ h H locs ls hP hD hS hl hn hL hT)
  case ifCond cc o =>
    exact st1_br C0 (Or.inl rfl) (of_decide_eq_true ht) hd h hk
  case if_icmp cc o =>
    exact st1_br C0 (Or.inr rfl) (of_decide_eq_true ht) hd h hk
  case ifnull o =>
    replace h := zpQ_i h
    obtain ⟨q, r, rfl, h⟩ := h
    intro H locs ls hP hD hS hl hn hL hT
    cases q with
    | none => exact lv_ifnullN hx hb hd (of_decide_eq_true ht) (hk _ _ _ _ _ h H locs ls hP hD hS hl hn hL (zw_t hT))
    | some q => exact lv_ifnull hx hb hd (hk _ _ _ _ _ h H locs ls hP hD hS hl hn hL (zw_t hT))
  case ifnonnull o =>
    replace h := zpQ_i h
    obtain ⟨q, r, rfl, h⟩ := h
    intro H locs ls hP hD hS hl hn hL hT
    cases q with
    | none => exact lv_ifnonnullN hx hb hd (hk _ _ _ _ _ h H locs ls hP hD hS hl hn hL (zw_t hT))
    | some q => exact lv_ifnonnull hx hb hd (of_decide_eq_true ht) (hk _ _ _ _ _ h H locs ls hP hD hS hl hn hL (zw_t hT))
  case getfield x =>
    exact st1_get C0 hd h hk
  case putfield x =>
    exact st1_put C0 hd h hk
  case arraylength =>
    replace h := zpR_i h
    obtain ⟨c1, k, r, rfl, h⟩ := h
    replace h := zif_i h
    obtain ⟨hc, h⟩ := h
    rw [Bool.and_eq_true] at hc
    have h8 := Nat.le_of_ble_eq_true hc.1
    have h11 := Nat.le_of_ble_eq_true hc.2
    intro H locs ls hP hD hS hl hn hL hT
    have hw : k < G.2.1 ∧ shG k = c1 := zw_h hT
    have hlen := z_len hG hw.1
    have hv : Int32.ofNat (zlen k).toNat = Int32.ofInt (zlen k) := by have e1 := zi_nI (zlen k).toNat; rw [Int.toNat_of_nonneg hlen.1] at e1; exact e1.symm
    have hgo := hk _ _ _ _ _ h H locs ls hP hD hS hl hn hL (zw_c trivial (zw_t hT))
    have hcell := zwl_get (σ := σ) hw.1
    rw [hw.2] at hcell
    match c1, h8, h11, hcell with
    | 8, _, _, hcell => exact va_alen (D := G.1) (cl := vwCl) hx hb hK hP k 0 hcell (ty := .int) rfl hv hd hgo
    | 9, _, _, hcell => exact va_alen (D := G.1) (cl := vwCl) hx hb hK hP k 1 hcell (ty := .long) rfl hv hd hgo
    | 10, _, _, hcell => exact va_alen (D := G.1) (cl := vwCl) hx hb hK hP k 2 hcell (ty := .boolean) rfl hv hd hgo
    | 11, _, _, hcell => exact va_alen (D := G.1) (cl := vwCl) hx hb hK hP k 3 hcell (ty := .object "MiddleQueue$Sheet") rfl hv hd hgo
  case iaload =>
    exact st1_ald C0 (Or.inl rfl) hd h hk
  case laload =>
    exact st1_ald C0 (Or.inr (Or.inl rfl)) hd h hk
  case baload =>
    exact st1_ald C0 (Or.inr (Or.inr (Or.inl rfl))) hd h hk
  case aaload =>
    exact st1_ald C0 (Or.inr (Or.inr (Or.inr rfl))) hd h hk
  case iastore =>
    exact st1_ast C0 (Or.inl rfl) hd h hk
  case lastore =>
    exact st1_ast C0 (Or.inr (Or.inl rfl)) hd h hk
  case bastore =>
    exact st1_ast C0 (Or.inr (Or.inr rfl)) hd h hk
  all_goals exact False.elim h
end SND3
