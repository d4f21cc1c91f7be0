theorem z_goodIn2 {w : Cond} (h : w ∈ z_tbl) : GoodIn z_tbl (w :: z_tbl) := by
  intro x hx
  rcases List.mem_cons.mp hx with rfl | hx
  · exact ⟨h, z_good h⟩
  · exact ⟨hx, z_good hx⟩
/-- a call of a method by its contract, out of any frame -/
theorem z_vcall {p : Program} {l : Launch} {e : Env} {R : Room} {s : State} {m : MethodId} {args : Array Value} {below : List Frame} {meth : Method} {c : Code} {H : Heap} {locs : List Loc} {cells slots : Nat} {Q : State → Prop} {pc : Nat} {ls : Array Slot} {rest : List Value} {cc : ByteArray} {A : Nat → Prop} {H0 : Heap} {own : String} {nL d' n idx c' k : Nat} {Y' : MI} {G : zFD} {σ : zSt} {a : List VV} {post' : Option VV → zSt → Prop} {lv : List (Nat × Value)}
    (hx : p.tables.exec = Jvm.exec) (hb : c.code = cc) (hml : c.maxLocals = nL) (hown : s.vm.findClass own = some m.cls) (hts : ∀ w ∈ z_tbl, w.before args s = true) (hok : zokM Y' n = true) (hoi : zokI Y' = true) (hlk : Cond.methodLink own idx Y'.1 ∈ z_tbl) (hcl : (vwCl[c']?).map (fun q => q.1) = some Y'.1.cls) (han : a.length = n) (hG : G.2.1 = 44 ∨ G.2.1 = 75) (hwa : zwts G (vR c' k :: a))
    (hK : va_K G.1 vwCl (zty G) s) (hP : va_P G.1 vwCl (zwl G σ) H) (hD : va_D A (zwl G σ)) (hS : va_S A H0 H locs) (hA : ∀ q : Nat, H0.size ≤ q → A q) (hl : lv_has ls nL lv) (hR : d' + 1 ≤ R.frames ∧ 8 + (Y'.2.2.1 + 11) + 32 * d' ≤ R.locals) (hcs : cells ≤ R.cells ∧ slots ≤ R.slots) (hcat : (rest.map fun v => v.category).sum ≤ 8) (hlen : (zla (vR c' k :: a)).length ≤ Y'.2.2.1) (hdg : decode cc pc = .ok (.invokevirtual idx, 3)) (hc : Mc d' Y' (vR c' k :: a) σ post')
    (kk : ∀ (v : Option VV) (σ' : zSt) (H1 : Heap) (locs1 : List Loc), post' v σ' → (∀ w, v = some w → zwt G w) → va_P G.1 vwCl (zwl G σ') H1 → va_D A (zwl G σ') → va_S A H0 H1 locs1 → W p l e R s m args below meth c H1 locs1 cells slots Q (F0 m (pc + 3) ls ((v.map (tv G.2.2.1)).toList ++ rest))) :
    W p l e R s m args below meth c H locs cells slots Q (F0 m pc ls ((a.map (tv G.2.2.1)).reverse ++ .ref (G.2.2.1 k) :: rest)) := by
  obtain ⟨ho1, ho2, ho3, ho4, ho5, ho6, ho7, ho8⟩ := zokM_i hok
  unfold zokI at hoi
  simp only [Bool.and_eq_true, decide_eq_true_eq] at hoi
  have hwk : k < G.2.1 ∧ shG k = c' := hwa _ List.mem_cons_self
  have hAin := va_A_in hD hS hA
  cases hvc : vwCl[c']? with
  | none => rw [hvc] at hcl; cases hcl
  | some q =>
    rw [hvc] at hcl
    have hq1 : q.1 = Y'.1.cls := Option.some.inj hcl
    obtain ⟨C, TT, N⟩ := q
    have hc8 := (zcl_ok hvc).1
    have hcell : (zwl G σ)[k]? = some (G.2.2.1 k, .inr (c', (zfk c').mapIdx (fun j q => zcf G.2.2.1 σ k j q))) := by rw [zwl_get hwk.1, hwk.2, zce_obj hc8]
    have hM := V_met hok hlen hc l G hG hwa H.size
    have hrecv := va_recv hK hP hvc hcell
    have hcb : CallB R s args own idx Y'.1 Y'.2.1 Y'.2.2.1 Y'.2.2.2.1 (zws Y') (zrm d') 0 0 n := callB_of n hts (z_goodIn ho1) rfl rfl rfl (hts _ ho2) (hts _ hlk) ⟨ho3, ho4, ho5⟩ hR
    have hrun := va_runV (C := C) (As := a.map (tv G.2.2.1)) (rest := rest) (g := F0 m pc ls ((a.map (tv G.2.2.1)).reverse ++ .ref (G.2.2.1 k) :: rest)) (cells := cells) (slots := slots) (l := l) (e := e) (below := below) (meth := meth) (locs := locs) ⟨hx, hb, hml, hown, hts⟩ hM ⟨hcb, hts _ hoi.1, by have h9 := hts _ hoi.2; rw [← hq1] at h9; exact h9⟩
      ⟨zPc_blind, hrecv, fun U hU hWW => ⟨rfl, by rw [hU], by rw [hU]; exact hP, va_K.moved hWW.alike hK, hD.weaken (fun _ _ _ _ => trivial)⟩⟩ rfl (by rw [List.length_map]; exact han) hl.1 rfl (lv_room hcat) hdg hcs
    intro T hT2 X
    obtain ⟨v, st₀, t1, T', L2, h0, X', hL2, e1, e2, ⟨⟨v', σ', hv, hp, hwt, hP1, hD1⟩, hz, hk1⟩, stp⟩ := hrun T hT2 X
    cases hv
    rw [h0] at hz hk1
    have hk2 := kk v' σ' T'.heap (locs ++ L2) hp hwt (by rw [e1]; exact hP1) (hD1.weaken (fun k q _ h => hAin q.1 h))
      ⟨Nat.le_trans hS.1 (by rw [e1]; exact hz), fun q h1 h2 => by rw [e1, hk1 q (Nat.lt_of_lt_of_le h1 hS.1) (fun z => h2 (hAin q z))]; exact hS.2.1 q h1 h2, fun q hq => by
        rcases List.mem_append.mp hq with h | h
        · exact hS.2.2 q h
        · exact hAin _ (hL2 q h)⟩
    obtain ⟨t2, a1, b1⟩ := hk2 T' rfl X'
    exact ⟨t2, stp t2 a1, b1⟩
theorem z_refs {cA : ClassId} {f g : Nat → Option Nat} (h0 : f 0 = g 0) (h1 : f 1 = g 1) (h2 : f 2 = g 2) (h3 : f 3 = g 3) : vp_cell cA (4, .inr (.inr (.inr (.inr f)))) = vp_cell cA (4, .inr (.inr (.inr (.inr g)))) := by
  rw [vp_cell_q, vp_cell_q]
  have e : (fun j : Fin 4 => va_rf (f j.val)) = (fun j : Fin 4 => va_rf (g j.val)) := by
    funext j
    have hj : j.val = 0 ∨ j.val = 1 ∨ j.val = 2 ∨ j.val = 3 := by omega
    rcases hj with q | q | q | q <;> rw [q]
    · rw [h0]
    · rw [h1]
    · rw [h2]
    · rw [h3]
  unfold arrV
  rw [e]
theorem va_P_set1 {D : va_G} {cl : List vw_C} {ws : va_W} {H : Heap} {k a : Nat} {x y : ClassId × vp_A} (hP : va_P D cl ws H) (hk : ws[k]? = some (a, .inl x)) (he : vp_cell x.1 x.2 = vp_cell y.1 y.2) : va_P D cl (ws.set k (a, .inl y)) H := fun i q hq => by
  by_cases h : k = i
  · subst h
    have hlt := (List.getElem?_eq_some_iff.mp hk).1
    rw [List.getElem?_set_self hlt] at hq
    cases hq
    have h9 : H[a]? = some (vp_cell x.1 x.2) := hP k _ hk
    show H[a]? = some (vp_cell y.1 y.2)
    rw [← he]; exact h9
  · rw [List.getElem?_set_ne h] at hq
    exact hP i q hq
/-- the words of the tables that a nest mate's constructor and a row of Sheets want -/
def zNW (U : State) : Prop := va_Nw (.methodLinkNest "MiddleQueue" 23 yX2_init "MiddleQueue") U ∧ va_Nw (.methodLinkNest "MiddleQueue" 30 yX0_init "MiddleQueue") U ∧ va_Nw (.methodLinkNest "MiddleQueue" 43 yX4_init "MiddleQueue") U ∧ va_Nw (.methodLinkNest "MiddleQueue" 62 yX3_init "MiddleQueue") U ∧ va_AO "MiddleQueue$Sheet" U
theorem zNW.same {u U : State} (h : u.vm = U.vm) (hZ : zNW u) : zNW U := ⟨hZ.1.same rfl h, hZ.2.1.same rfl h, hZ.2.2.1.same rfl h, hZ.2.2.2.1.same rfl h, va_AO.moved (by rw [h]; exact Vm.Alike.refl _) hZ.2.2.2.2⟩
theorem zNW.warm {s U : State} (hW : s.WarmedH U.vm) (hZ : zNW s) : zNW U := ⟨va_Nw.warmM hW hZ.1, va_Nw.warmM hW hZ.2.1, va_Nw.warmM hW hZ.2.2.1, va_Nw.warmM hW hZ.2.2.2.1, va_AO.moved hW.alike hZ.2.2.2.2⟩
abbrev tcS (tc : Nat → ClassId) (cA : ClassId) : Nat → ClassId := fun k => if k = 3 then cA else tc k
/-- nothing told yet -/
def aS0 : zAb := (0, fun _ => 0, 0, fun _ => 0, 0, fun _ => 0, fun _ => 0, fun _ => 0, 0, fun _ => 0, fun _ => 0, fun _ => 0, fun _ => -1, fun _ => 0, fun _ _ => 0, 0)
theorem aOk_0 : aOk aS0 := ⟨⟨Int.le_refl _, by decide, fun i a b => absurd b (by show ¬ i < 0; omega)⟩, ⟨Int.le_refl _, by decide, fun i a b => absurd b (by show ¬ i < 0; omega)⟩, ⟨Int.le_refl _, by decide, fun i a b => absurd b (by show ¬ i < 0; omega)⟩, ⟨Int.le_refl _, by decide, fun i a b => absurd b (by show ¬ i < 0; omega)⟩, fun s _ _ => ⟨⟨show (-1 : Int) ≤ -1 by decide, show (-1 : Int) ≤ 2 by decide⟩, ⟨show (0 : Int) ≤ 0 by decide, show (0 : Int) ≤ 60 by decide⟩, fun _ => rfl, fun i _ _ => show zr 0 by decide⟩⟩
/-- the cells behind the constructor's own rows -/
def σI : zSt := (fun k j => if k = 1 ∧ j = 0 then 1 else if (k = 34 ∨ k = 36 ∨ k = 38 ∨ k = 40) ∧ j = 1 then -1 else 0, fun _ _ => 0)
theorem σI_0 {k : Nat} {j : Int} (h1 : k ≠ 1) (h2 : ¬ (k = 34 ∨ k = 36 ∨ k = 38 ∨ k = 40)) : σI.1 k j = 0 := by
  show (if k = 1 ∧ j = 0 then (1 : Int) else if (k = 34 ∨ k = 36 ∨ k = 38 ∨ k = 40) ∧ j = 1 then -1 else 0) = 0
  rw [if_neg (fun q => h1 q.1), if_neg (fun q => h2 q.1)]
theorem RT_I : RT σI aS0 := ⟨⟨rfl, rfl, fun i a b => absurd b (by show ¬ i < 0; omega)⟩, rfl, rfl, fun i a b => absurd b (by show ¬ i < 0; omega)⟩
theorem RE_I : RE σI aS0 := ⟨rfl, fun i a b => absurd b (by show ¬ i < 0; omega), fun t _ _ => ⟨by rw [σI_0 (by decide) (by decide)]; decide, fun e a _ => by rw [σI_0 (by decide) (by decide), zbt_0]; exact (decide_eq_false (fun q => absurd q.1 (by show ¬ e < 0; omega))).symm⟩⟩
theorem RX_I : RX σI := fun k _ _ => by rw [σI_0 (by decide) (by decide)]; decide
theorem RC_I {σ : zSt} (hf : tFr σI σ) (hx : zPx σ 5 (aC aS0)) (hco : zCo σ 23 (aC aS0) 24) : RC σ aS0 := by
  have e : ∀ a : Nat, a ≠ 0 → a ≠ 5 → a ≠ 6 → a ≠ 7 → a ≠ 8 → a ≠ 12 → a ≠ 23 → σ.1 a = σI.1 a := hf.1
  refine ⟨RT_c (e 1 (by decide) (by decide) (by decide) (by decide) (by decide) (by decide) (by decide)) (e 2 (by decide) (by decide) (by decide) (by decide) (by decide) (by decide) (by decide)) (e 3 (by decide) (by decide) (by decide) (by decide) (by decide) (by decide) (by decide)) (e 4 (by decide) (by decide) (by decide) (by decide) (by decide) (by decide) (by decide)) RT_I, hx, hco, ⟨by rw [e 29 (by decide) (by decide) (by decide) (by decide) (by decide) (by decide) (by decide)]; rfl, fun i a b => absurd b (by show ¬ i < 0; omega)⟩, fun s s0 s1 => ?_, RK_0 hf.2.2.1, by rw [hf.2.1 11 (by decide)]; rfl⟩
  rw [e _ (by omega) (by omega) (by omega) (by omega) (by omega) (by omega) (by omega)]
  refine ⟨?_, ?_, fun z => absurd rfl z⟩
  · show (if 33 + 1 + 2 * s.toNat = 1 ∧ (1 : Int) = 0 then (1 : Int) else if (33 + 1 + 2 * s.toNat = 34 ∨ 33 + 1 + 2 * s.toNat = 36 ∨ 33 + 1 + 2 * s.toNat = 38 ∨ 33 + 1 + 2 * s.toNat = 40) ∧ (1 : Int) = 1 then -1 else 0) = -1
    rw [if_neg (fun q => absurd q.2 (by decide)), if_pos ⟨by omega, rfl⟩]
  · show (if 33 + 1 + 2 * s.toNat = 1 ∧ (2 : Int) = 0 then (1 : Int) else if (33 + 1 + 2 * s.toNat = 34 ∨ 33 + 1 + 2 * s.toNat = 36 ∨ 33 + 1 + 2 * s.toNat = 38 ∨ 33 + 1 + 2 * s.toNat = 40) ∧ (2 : Int) = 1 then -1 else 0) = 0
    rw [if_neg (fun q => absurd q.2 (by decide)), if_neg (fun q => absurd q.2 (by decide))]
