/-! the rules of V: switches, Math, rows copied -/
def cpI (σ : zSt) (k0 : Nat) (sp : Int) (k1 : Nat) (dp n : Int) : zSt := (fun a b => if a = k1 ∧ dp ≤ b ∧ b < dp + n then σ.1 k0 (sp + (b - dp)) else σ.1 a b, σ.2)
section R2
variable {d n idx t pc : Nat} {Y : MI} {post : Option VV → zSt → Prop} {L : List (Option VV)} {rest : List VV} {σ : zSt}
theorem V_tsIn {z dflt lo hi off : Int} {offs : Array Int} {tgt : Nat} (hT : zTok Y) (hti : Y.2.2.2.2.2 pc = some (.tableswitch dflt lo hi offs, t)) (hz : zr z) (h1 : lo ≤ z) (h2 : z ≤ hi) (ho : offs[(z - lo).toNat]? = some off) (ht : (pc : Int) + off = (tgt : Int)) (kk : V d Y tgt L rest σ post) : V d Y pc L (vZ z :: rest) σ post := by
  intro l p e R s m args below meth cc G A C0 H locs ls hP hD hS hl hn hL hW
  have hgo := kk l p e R s m args below meth cc G A C0 H locs ls hP hD hS hl hn hL (zw_t hW)
  have ez := zi_to hz
  exact lv_tableIn C0.1 C0.2.1 (hT _ _ hti).1 (by rw [ez]; omega) (by rw [ez]; omega) (by rw [ez]; exact ho) ht hgo
theorem V_tsOut {z dflt lo hi : Int} {offs : Array Int} {tgt : Nat} (hT : zTok Y) (hti : Y.2.2.2.2.2 pc = some (.tableswitch dflt lo hi offs, t)) (hz : zr z) (h1 : z < lo ∨ hi < z) (ht : (pc : Int) + dflt = (tgt : Int)) (kk : V d Y tgt L rest σ post) : V d Y pc L (vZ z :: rest) σ post := by
  intro l p e R s m args below meth cc G A C0 H locs ls hP hD hS hl hn hL hW
  have hgo := kk l p e R s m args below meth cc G A C0 H locs ls hP hD hS hl hn hL (zw_t hW)
  have ez := zi_to hz
  exact lv_tableOut C0.1 C0.2.1 (hT _ _ hti).1 (by rw [ez]; exact h1) ht hgo
theorem V_ls {z dflt off : Int} {ps : Array (Int × Int)} {tgt : Nat} (hT : zTok Y) (hti : Y.2.2.2.2.2 pc = some (.lookupswitch dflt ps, t)) (hz : zr z) (hps : (ps.toList.zip (ps.toList.drop 1)).all (fun (a, next) => a.1 < next.1) = true) (ho : Op.lookupswitch.offset ps.toList dflt z = off) (ht : (pc : Int) + off = (tgt : Int)) (kk : V d Y tgt L rest σ post) : V d Y pc L (vZ z :: rest) σ post := by
  intro l p e R s m args below meth cc G A C0 H locs ls hP hD hS hl hn hL hW
  have hgo := kk l p e R s m args below meth cc G A C0 H locs ls hP hD hS hl hn hL (zw_t hW)
  exact lv_lookup C0.1 C0.2.1 (hT _ _ hti).1 hps (by rw [zi_to hz]; exact ho) ht hgo
theorem z_math {w : Cond} (h : decide (w ∈ z_tbl) = true) : w ∈ z_tbl := of_decide_eq_true h
theorem z_mini : Cond.initialized "java/lang/Math" ∈ z_tbl := by decide +kernel
theorem z_mmin : Cond.static Lib.Math.min.name ∈ z_tbl ∧ Cond.code Lib.Math.min.name Lib.Math.min.code 2 (some .int) ∈ z_tbl := by decide +kernel
theorem z_mmax : Cond.static Lib.Math.max.name ∈ z_tbl ∧ Cond.code Lib.Math.max.name Lib.Math.max.code 2 (some .int) ∈ z_tbl := by decide +kernel
theorem z_mabs : Cond.static Lib.Math.abs.name ∈ z_tbl ∧ Cond.code Lib.Math.abs.name Lib.Math.abs.code 1 (some .int) ∈ z_tbl := by decide +kernel
theorem z_acp : Cond.static arraycopyName ∈ z_tbl ∧ Cond.native arraycopyName ∈ z_tbl ∧ Cond.initialized "java/lang/System" ∈ z_tbl := by decide +kernel
theorem V_min {x y : Int} (hT : zTok Y) (hti : Y.2.2.2.2.2 pc = some (.invokestatic idx, t)) (hlk : Cond.methodLink (zown Y.2.2.2.2.1) idx Lib.Math.min.name ∈ z_tbl) (hd : 1 ≤ d) (hcat : zcat rest ≤ 8) (hzx : zr x) (hzy : zr y) (kk : V d Y (pc + 3) L (vZ (if y < x then y else x) :: rest) σ post) : V d Y pc L (vZ y :: vZ x :: rest) σ post := by
  intro l p e R s m args below meth cc G A C0 H locs ls hP hD hS hl hn hL hW
  obtain ⟨hx, hb, hml, hown, hr2, hlocks, hts, hR, hK, hG, hA⟩ := id C0
  have hgo := kk l p e R s m args below meth cc G A C0 H locs ls hP hD hS hl hn hL (zw_c trivial (zw_t (zw_t hW)))
  refine va_mmin hx hb (hml.trans hl.1.symm) hown (hts _ hlk) (hts _ z_mmin.1) (hts _ z_mini) (hts _ z_mmin.2) (by omega) (by rw [zcat_ok]; omega) (Nat.zero_le _) (Nat.zero_le _) (hT _ _ hti).1 ?_
  have e1 : (if Int32.ofInt y < Int32.ofInt x then Int32.ofInt y else Int32.ofInt x) = Int32.ofInt (if y < x then y else x) := by
    by_cases h : y < x
    · rw [if_pos h, if_pos ((zi_lt hzy hzx).mpr h)]
    · rw [if_neg h, if_neg (fun q => h ((zi_lt hzy hzx).mp q))]
  rw [e1]
  exact hgo
theorem V_max {x y : Int} (hT : zTok Y) (hti : Y.2.2.2.2.2 pc = some (.invokestatic idx, t)) (hlk : Cond.methodLink (zown Y.2.2.2.2.1) idx Lib.Math.max.name ∈ z_tbl) (hd : 1 ≤ d) (hcat : zcat rest ≤ 8) (hzx : zr x) (hzy : zr y) (kk : V d Y (pc + 3) L (vZ (if x < y then y else x) :: rest) σ post) : V d Y pc L (vZ y :: vZ x :: rest) σ post := by
  intro l p e R s m args below meth cc G A C0 H locs ls hP hD hS hl hn hL hW
  obtain ⟨hx, hb, hml, hown, hr2, hlocks, hts, hR, hK, hG, hA⟩ := id C0
  have hgo := kk l p e R s m args below meth cc G A C0 H locs ls hP hD hS hl hn hL (zw_c trivial (zw_t (zw_t hW)))
  refine va_mmax hx hb (hml.trans hl.1.symm) hown (hts _ hlk) (hts _ z_mmax.1) (hts _ z_mini) (hts _ z_mmax.2) (by omega) (by rw [zcat_ok]; omega) (Nat.zero_le _) (Nat.zero_le _) (hT _ _ hti).1 ?_
  have e1 : (if Int32.ofInt x < Int32.ofInt y then Int32.ofInt y else Int32.ofInt x) = Int32.ofInt (if x < y then y else x) := by
    by_cases h : x < y
    · rw [if_pos h, if_pos ((zi_lt hzx hzy).mpr h)]
    · rw [if_neg h, if_neg (fun q => h ((zi_lt hzx hzy).mp q))]
  rw [e1]
  exact hgo
theorem V_abs {x : Int} (hT : zTok Y) (hti : Y.2.2.2.2.2 pc = some (.invokestatic idx, t)) (hlk : Cond.methodLink (zown Y.2.2.2.2.1) idx Lib.Math.abs.name ∈ z_tbl) (hd : 1 ≤ d) (hcat : zcat rest ≤ 8) (hzx : zr x) (kk : V d Y (pc + 3) L (vZ (if 0 ≤ x then x else 0 - x) :: rest) σ post) : V d Y pc L (vZ x :: rest) σ post := by
  intro l p e R s m args below meth cc G A C0 H locs ls hP hD hS hl hn hL hW
  obtain ⟨hx, hb, hml, hown, hr2, hlocks, hts, hR, hK, hG, hA⟩ := id C0
  have hgo := kk l p e R s m args below meth cc G A C0 H locs ls hP hD hS hl hn hL (zw_c trivial (zw_t hW))
  refine va_mabs hx hb (hml.trans hl.1.symm) hown (hts _ hlk) (hts _ z_mabs.1) (hts _ z_mini) (hts _ z_mabs.2) (by omega) (by rw [zcat_ok]; omega) (Nat.zero_le _) (Nat.zero_le _) (hT _ _ hti).1 ?_
  have z0 : zr 0 := ⟨by omega, by omega⟩
  have e1 : (if 0 ≤ Int32.ofInt x then Int32.ofInt x else 0 - Int32.ofInt x) = Int32.ofInt (if 0 ≤ x then x else 0 - x) := by
    by_cases h : 0 ≤ x
    · have h9 : (0 : Int32) ≤ Int32.ofInt x := (zi_le z0 hzx).mpr h
      rw [if_pos h, if_pos h9]
    · have h9 : ¬ (0 : Int32) ≤ Int32.ofInt x := fun q => h ((zi_le z0 hzx).mp q)
      rw [if_neg h, if_neg h9, Int32.ofInt_sub]; rfl
  rw [e1]
  exact hgo
theorem V_copy {k0 k1 : Nat} {sp dp nn : Int} (hT : zTok Y) (hti : Y.2.2.2.2.2 pc = some (.invokestatic idx, t)) (hlk : Cond.methodLink (zown Y.2.2.2.2.1) idx arraycopyName ∈ z_tbl) (hd : 1 ≤ d) (hcat : zcat rest = 0) (h1 : 0 ≤ sp) (h2 : 0 ≤ dp) (h3 : 0 ≤ nn) (h4 : sp + nn ≤ zlen k0) (h5 : dp + nn ≤ zlen k1)
    (kk : V d Y (pc + 3) L rest (cpI σ k0 sp k1 dp nn) post) : V d Y pc L (vZ nn :: vZ dp :: vR 8 k1 :: vZ sp :: vR 8 k0 :: rest) σ post := by
  intro l p e R s m args below meth cc G A C0 H locs ls hP hD hS hl hn hL hW
  obtain ⟨hx, hb, hml, hown, hr2, hlocks, hts, hR, hK, hG, hA⟩ := id C0
  have hw1 : k1 < G.2.1 ∧ shG k1 = 8 := zw_h (zw_t (zw_t hW))
  have hw0 : k0 < G.2.1 ∧ shG k0 = 8 := zw_h (zw_t (zw_t (zw_t (zw_t hW))))
  have l0 := z_len hG hw0.1
  have l1 := z_len hG hw1.1
  have hc0 : (zwl G σ)[k0]? = some (G.2.2.1 k0, .inl (G.2.2.2 0, (zlen k0).toNat, .inl (fun j : Nat => Int32.ofInt (σ.1 k0 j)))) := by rw [zwl_get hw0.1, hw0.2]; rfl
  have hc1 : (zwl G σ)[k1]? = some (G.2.2.1 k1, .inl (G.2.2.2 0, (zlen k1).toNat, .inl (fun j : Nat => Int32.ofInt (σ.1 k1 j)))) := by rw [zwl_get hw1.1, hw1.2]; rfl
  have zs : zr sp := ⟨by omega, by omega⟩
  have zd : zr dp := ⟨by omega, by omega⟩
  have zn : zr nn := ⟨by omega, by omega⟩
  have z0 : zr 0 := ⟨by omega, by omega⟩
  have es : (Int32.ofInt sp).toNatClampNeg = sp.toNat := Int32.toNatClampNeg_ofInt_of_le (by omega) (by omega)
  have ed : (Int32.ofInt dp).toNatClampNeg = dp.toNat := Int32.toNatClampNeg_ofInt_of_le (by omega) (by omega)
  have en : (Int32.ofInt nn).toNatClampNeg = nn.toNat := Int32.toNatClampNeg_ofInt_of_le (by omega) (by omega)
  have hnf : nativeFrameWords "java/lang/System" "arraycopy" 5 ≤ 21 := by decide
  refine va_copyi (D := G.1) (cl := vwCl) (ty := .int) hx hb (hml.trans hl.1.symm) hown (hts _ hlk) (hts _ z_acp.2.1) (hts _ z_acp.1) (hts _ z_acp.2.2) hK hP hD hS k0 k1 0 0 hc0 hc1 rfl rfl rfl
    (fun q => by have := (zi_lt zs z0).mp q; omega) (fun q => by have := (zi_lt zd z0).mp q; omega) (fun q => by have := (zi_lt zn z0).mp q; omega) (by rw [es, en]; omega) (by rw [ed, en]; omega) (fun _ _ => rfl) (by omega) (by rw [zcat_ok]; omega) (hT _ _ hti).1 (fun H1 locs1 hP1 hD1 hS1 => ?_)
  have e1 : (zwl G σ).set k1 (G.2.2.1 k1, .inl (G.2.2.2 0, (zlen k1).toNat, .inl (va_cpy (fun j : Nat => Int32.ofInt (σ.1 k0 j)) (fun j : Nat => Int32.ofInt (σ.1 k1 j)) (Int32.ofInt sp).toNatClampNeg (Int32.ofInt dp).toNatClampNeg (Int32.ofInt nn).toNatClampNeg))) = zwl G (cpI σ k0 sp k1 dp nn) := by
    refine zwl_set ?_ (fun q hq => zce_eq (fun _ => if_neg (fun z => hq z.1)) (fun _ => rfl))
    rw [hw1.2, es, ed, en]
    have ef : (fun j : Nat => Int32.ofInt ((cpI σ k0 sp k1 dp nn).1 k1 j)) = va_cpy (fun j : Nat => Int32.ofInt (σ.1 k0 j)) (fun j : Nat => Int32.ofInt (σ.1 k1 j)) sp.toNat dp.toNat nn.toNat := by
      funext j
      unfold va_cpy cpI
      by_cases h : dp.toNat ≤ j ∧ j < dp.toNat + nn.toNat
      · rw [if_pos h]
        show Int32.ofInt (if k1 = k1 ∧ dp ≤ (j : Int) ∧ (j : Int) < dp + nn then σ.1 k0 (sp + ((j : Int) - dp)) else σ.1 k1 j) = Int32.ofInt (σ.1 k0 ((sp.toNat + (j - dp.toNat) : Nat) : Int))
        have e9 : sp + ((j : Int) - dp) = ((sp.toNat + (j - dp.toNat) : Nat) : Int) := by omega
        rw [if_pos ⟨rfl, by omega, by omega⟩, e9]
      · rw [if_neg h]
        show Int32.ofInt (if k1 = k1 ∧ dp ≤ (j : Int) ∧ (j : Int) < dp + nn then σ.1 k0 (sp + ((j : Int) - dp)) else σ.1 k1 j) = Int32.ofInt (σ.1 k1 j)
        rw [if_neg (fun z => h ⟨by omega, by omega⟩)]
    rw [← ef]
    rfl
  rw [e1] at hP1 hD1
  exact kk l p e R s m args below meth cc G A C0 H1 locs1 ls hP1 hD1 hS1 hl hn hL (zw_t (zw_t (zw_t (zw_t (zw_t hW)))))
/-- what stands on the top of the stack, put another way -/
theorem V_top {x y : Int} (h : x = y) (kk : V d Y pc L (vZ y :: rest) σ post) : V d Y pc L (vZ x :: rest) σ post := h ▸ kk
end R2
theorem V_mono {d d' pc : Nat} {Y : MI} {L : List (Option VV)} {st : List VV} {σ : zSt} {post : Option VV → zSt → Prop} (h : d ≤ d') (hv : V d Y pc L st σ post) : V d' Y pc L st σ post := by
  intro l p e R s m args below meth cc G A C0
  obtain ⟨hx, hb, hml, hown, hr2, hlocks, hts, hR, hK, hG, hA⟩ := C0
  exact hv l p e R s m args below meth cc G A ⟨hx, hb, hml, hown, hr2, hlocks, hts, ⟨by omega, by omega⟩, hK, hG, hA⟩
theorem V_post {d pc : Nat} {Y : MI} {L : List (Option VV)} {st : List VV} {σ : zSt} {post post' : Option VV → zSt → Prop} (h : ∀ v σ', post v σ' → post' v σ') (hv : V d Y pc L st σ post) : V d Y pc L st σ post' := by
  intro l p e R s m args below meth cc G A C0 H locs ls hP hD hS hl hn hL hW T hT X
  obtain ⟨t, hst, o, h1, h2, ⟨⟨v, σ', h3, h4, h5⟩, h6⟩, h7⟩ := hv l p e R s m args below meth cc G A C0 H locs ls hP hD hS hl hn hL hW T hT X
  exact ⟨t, hst, o, h1, h2, ⟨⟨v, σ', h3, h _ _ h4, h5⟩, h6⟩, h7⟩
theorem zokM_mk {Y : MI} {n : Nat} (h1 : Cond.code Y.1 Y.2.1 Y.2.2.1 Y.2.2.2.1 ∈ z_tbl) (h2 : Cond.initialized Y.1.cls ∈ z_tbl) (h3 : (decide (Y.1.cls ≠ "java/lang/invoke/MethodHandle") && decide (Y.1.cls ≠ "java/lang/invoke/VarHandle") && decide ((parseMethodDescriptor Y.1.desc).map (fun d => d.parameters.length) = some n) && plainName Y.1.cls && decide (Y.1.cls = zown Y.2.2.2.2.1) && Nat.ble Y.2.2.1 13) = true) : zokM Y n = true := by
  unfold zokM
  simp only [Bool.and_eq_true, decide_eq_true_eq] at h3 ⊢
  exact ⟨⟨⟨⟨⟨⟨⟨h1, h2⟩, h3.1.1.1.1.1⟩, h3.1.1.1.1.2⟩, h3.1.1.1.2⟩, h3.1.1.2⟩, h3.1.2⟩, h3.2⟩
theorem zokI_mk {Y : MI} (h1 : Cond.instanceMethod Y.1 ∈ z_tbl) (h2 : Cond.selects Y.1.cls Y.1 Y.1 ∈ z_tbl) : zokI Y = true := by
  unfold zokI
  rw [Bool.and_eq_true]
  exact ⟨decide_eq_true h1, decide_eq_true h2⟩
theorem zokS_mk {Y : MI} (h1 : Cond.static Y.1 ∈ z_tbl) : zokS Y = true := decide_eq_true h1
